/-! ===== the day's items one behind the other, exactly ===== -/
def fu_fold : List (Nat × List Nat) → Nat → (Nat → Int32) → (Nat → Int32) ⊕ Nat
  | [], _, B => .inl B
  | q :: l, i, B => if (fu_step q.1 (fun k => q.2.getD k 0) B).1.toInt < 0 then .inr i else fu_fold l (i + 1) (fu_bw (fu_step q.1 (fun k => q.2.getD k 0) B).2 B)
set_option maxRecDepth 20000 in
theorem fu_dayl {g : kc_G} {d : Nat} {Q : Option kc_V → kc_H → Prop} {hB : kc_H} {z1 : Int32} {l : List (Nat × List Nat)} {out : (Nat → Int32) ⊕ Nat} (hg : kc_ok g) (hd : 6 ≤ d) (hit : hB 127 1 = .inl (Int32.ofNat l.length)) (hl60 : l.length ≤ 60) (hl : ∀ (i : Nat) (q : Nat × List Nat), l[i]? = some q → kp_okI q ∧ q.1 < 9 ∧ q.2.length = ks_L (kp_sh q.1)) (hat : ∀ (i : Nat) (q : Nat × List Nat), l[i]? = some q → hB 128 i = .inl (Int32.ofNat q.1) ∧ ∀ k x, q.2[k]? = some x → hB (130 + i) k = .inl (Int32.ofNat x))
    (hQ1 : ∀ (hE : kc_H) (B : Nat → Int32), kd_wt kd_ty hE → (∀ c b, c < 1 ∨ 32 ≤ c → hE c b = hB c b) → fu_C B 1 hE → fu_BT B → out = .inl B → Q (some (.inl (Int32.ofNat l.length))) hE) (hQ0 : ∀ (hE : kc_H) (i : Nat), kd_wt kd_ty hE → (∀ c b, c < 1 ∨ 32 ≤ c → hE c b = hB c b) → out = .inr i → Q (some (.inl (Int32.ofInt (-1000) - Int32.ofNat i))) (kt_K hE 32 1 31)) : ∀ (u i : Nat) (hh : kc_H) (B : Nat → Int32), l.length - i = u → i ≤ l.length → kd_wt kd_ty hh → (∀ c b, c < 1 ∨ 32 ≤ c → hh c b = hB c b) → fu_C B 1 hh → fu_BT B → fu_fold (l.drop i) i B = out → kc_Ev g d wk_m67 Q 39 [(2, .inl (Int32.ofNat i)), (1, .inl (z1)), (0, .inr (.inr (.inl (some 0))))] [] hh := by
  intro u
  induction u with
  | zero =>
    intro i hh B hu hi hw hfr hC hBT hf
    have k0 := kx_ofr (hw _ _ _ kv_k0.1)
    have k4 := kx_ofr (hw _ _ _ kv_k0.2.2)
    have eit : hh 127 1 = .inl (Int32.ofNat l.length) := (hfr _ _ (by omega)).trans hit
    refine kx_go 2 (pc' := 41) (L' := [(2, .inl (Int32.ofNat i)), (1, .inl (z1)), (0, .inr (.inr (.inl (some 0))))]) (S' := [.inr (.inr (.inl (some 0))), .inl (Int32.ofNat i)]) (h' := hh) (by with_unfolding_all rfl) ?_
    refine kx_getf (c := 0) (v := .inr (.inr (.inl (some 127)))) rfl (by decide) k4 ?_
    refine kx_getf (c := 127) (v := .inl (Int32.ofNat l.length)) rfl (by decide) eit ?_
    refine kx_go 1 (pc' := (if kc_cnd .ge (Int32.ofNat i).toInt (Int32.ofNat l.length).toInt then 101 else 50)) (L' := [(2, .inl (Int32.ofNat i)), (1, .inl (z1)), (0, .inr (.inr (.inl (some 0))))]) (S' := []) (h' := hh) (by with_unfolding_all rfl) ?_
    rw [if_pos ((kx_ge (by omega) (by omega)).mpr (by omega))]
    refine kx_go 1 (pc' := 102) (L' := [(2, .inl (Int32.ofNat i)), (1, .inl (z1)), (0, .inr (.inr (.inl (some 0))))]) (S' := [.inr (.inr (.inl (some 0)))]) (h' := hh) (by with_unfolding_all rfl) ?_
    refine kx_getf (c := 0) (v := .inr (.inr (.inl (some 127)))) rfl (by decide) k4 ?_
    refine kx_getf (c := 127) (v := .inl (Int32.ofNat l.length)) rfl (by decide) eit ?_
    have hnil : l.drop i = [] := List.drop_eq_nil_of_le (by omega)
    rw [hnil] at hf
    exact kc_ret_ok rfl (rv := some (.inl (Int32.ofNat l.length))) rfl (hQ1 hh B hw hfr hC hBT hf.symm)
  | succ u ih =>
    intro i hh B hu hi hw hfr hC hBT hf
    have k0 := kx_ofr (hw _ _ _ kv_k0.1)
    have k4 := kx_ofr (hw _ _ _ kv_k0.2.2)
    have eit : hh 127 1 = .inl (Int32.ofNat l.length) := (hfr _ _ (by omega)).trans hit
    refine kx_go 2 (pc' := 41) (L' := [(2, .inl (Int32.ofNat i)), (1, .inl (z1)), (0, .inr (.inr (.inl (some 0))))]) (S' := [.inr (.inr (.inl (some 0))), .inl (Int32.ofNat i)]) (h' := hh) (by with_unfolding_all rfl) ?_
    refine kx_getf (c := 0) (v := .inr (.inr (.inl (some 127)))) rfl (by decide) k4 ?_
    refine kx_getf (c := 127) (v := .inl (Int32.ofNat l.length)) rfl (by decide) eit ?_
    refine kx_go 1 (pc' := (if kc_cnd .ge (Int32.ofNat i).toInt (Int32.ofNat l.length).toInt then 101 else 50)) (L' := [(2, .inl (Int32.ofNat i)), (1, .inl (z1)), (0, .inr (.inr (.inl (some 0))))]) (S' := []) (h' := hh) (by with_unfolding_all rfl) ?_
    rw [if_neg (fun q => by have := (kx_ge (by omega) (by omega)).mp q; omega)]
    obtain ⟨q, hq⟩ : ∃ q, l[i]? = some q := ⟨l[i]'(by omega), List.getElem?_eq_getElem (by omega)⟩
    obtain ⟨hqo, hq9, hql⟩ := hl i q hq
    obtain ⟨a1, a2⟩ := hat i q hq
    have ew : hh 128 i = .inl (Int32.ofNat q.1) := (hfr _ _ (by omega)).trans a1
    have er : ∀ k, hh (130 + i) k = hB (130 + i) k := fun k => hfr _ _ (by omega)
    have hrow : hh 129 i = .inr (.inr (.inl (some (130 + i)))) := kx_ofr (hw _ _ _ (kr_k129 i (by omega)))
    obtain ⟨nf, hnf⟩ : ∃ nf : Nat → Nat, ∀ k, k < 4 → hh (130 + i) k = .inl (Int32.ofNat (nf k)) ∧ nf k < 1000 := by
      have : ∀ k, ∃ v, k < 4 → hh (130 + i) k = .inl (Int32.ofNat v) ∧ v < 1000 := fun k => by
        by_cases hk : k < 4
        · obtain ⟨v, v1, v2⟩ := kx_ofg (by omega) (hw _ _ _ (kr_k130 i (by omega) k hk))
          exact ⟨v, fun _ => ⟨v2, by omega⟩⟩
        · exact ⟨0, fun q => absurd q hk⟩
      exact Classical.axiomOfChoice this
    have hst : fu_step q.1 nf B = fu_step q.1 (fun k => q.2.getD k 0) B := fu_step_c hq9 (fun k hk => by
      have hk2 : k < q.2.length := by omega
      have e1 := a2 k q.2[k] (List.getElem?_eq_getElem hk2)
      have e2 := (hnf k (by have := hqo.2.1; omega)).1
      rw [er k, e1] at e2
      have e3 : Int32.ofNat q.2[k] = Int32.ofNat (nf k) := Sum.inl.inj e2
      have e4 : (Int32.ofNat q.2[k]).toInt = (Int32.ofNat (nf k)).toInt := by rw [e3]
      have e5 := hqo.2.2 q.2[k] (List.getElem_mem hk2)
      have e6 := (hnf k (by have := hqo.2.1; omega)).2
      rw [kx_ti (by omega), kx_ti (by omega)] at e4
      show nf k = q.2.getD k 0
      rw [List.getD_eq_getElem?_getD, List.getElem?_eq_getElem hk2]
      show nf k = q.2[k]
      omega)
    refine kx_go 1 (pc' := 51) (L' := [(2, .inl (Int32.ofNat i)), (1, .inl (z1)), (0, .inr (.inr (.inl (some 0))))]) (S' := [.inr (.inr (.inl (some 0)))]) (h' := hh) (by with_unfolding_all rfl) ?_
    refine kx_getf (c := 0) (v := .inr (.inr (.inl (some 1)))) rfl (by decide) k0 ?_
    refine kx_go 1 (pc' := 55) (L' := [(2, .inl (Int32.ofNat i)), (1, .inl (z1)), (0, .inr (.inr (.inl (some 0))))]) (S' := [.inr (.inr (.inl (some 0))), .inr (.inr (.inl (some 1)))]) (h' := hh) (by with_unfolding_all rfl) ?_
    refine kx_getf (c := 0) (v := .inr (.inr (.inl (some 127)))) rfl (by decide) k4 ?_
    refine kx_getf (c := 127) (v := .inr (.inr (.inl (some 128)))) rfl (by decide) (kx_ofr (hw _ _ _ kr_k127.2.1)) ?_
    refine kx_go 1 (pc' := 62) (L' := [(2, .inl (Int32.ofNat i)), (1, .inl (z1)), (0, .inr (.inr (.inl (some 0))))]) (S' := [.inl (Int32.ofNat i), .inr (.inr (.inl (some 128))), .inr (.inr (.inl (some 1)))]) (h' := hh) (by with_unfolding_all rfl) ?_
    refine kx_iald rfl (c := 128) (j := i) (m := 60) (v := .inl (Int32.ofNat q.1)) rfl (by decide) (by decide) (by omega) ew ?_
    refine kx_go 1 (pc' := 64) (L' := [(2, .inl (Int32.ofNat i)), (1, .inl (z1)), (0, .inr (.inr (.inl (some 0))))]) (S' := [.inr (.inr (.inl (some 0))), .inl (Int32.ofNat q.1), .inr (.inr (.inl (some 1)))]) (h' := hh) (by with_unfolding_all rfl) ?_
    refine kx_getf (c := 0) (v := .inr (.inr (.inl (some 127)))) rfl (by decide) k4 ?_
    refine kx_getf (c := 127) (v := .inr (.inr (.inl (some 129)))) rfl (by decide) (kx_ofr (hw _ _ _ kr_k127.2.2.1)) ?_
    refine kx_go 1 (pc' := 71) (L' := [(2, .inl (Int32.ofNat i)), (1, .inl (z1)), (0, .inr (.inr (.inl (some 0))))]) (S' := [.inl (Int32.ofNat i), .inr (.inr (.inl (some 129))), .inl (Int32.ofNat q.1), .inr (.inr (.inl (some 1)))]) (h' := hh) (by with_unfolding_all rfl) ?_
    refine kx_aald (c := 129) (j := i) (m := 60) (t0 := 2) (v := .inr (.inr (.inl (some (130 + i))))) rfl rfl (by decide) (by decide) (by decide) (by omega) hrow ?_
    refine kc_call_rule (M2 := wk_m181) (av := [.inr (.inr (.inl (some 1))), .inl (Int32.ofNat q.1), .inr (.inr (.inl (some (130 + i))))]) (r := []) rfl rfl (kc_Con_le (fu_tell hg hw (show i < 60 by omega) hq9 hC hBT hnf) hd) (fun rv h2 hq2 => ?_)
    rw [hst] at hq2
    have gd := fu_g_step (v := q.1) (n := fun k => q.2.getD k 0) hq9 hBT
    have hfo : fu_fold (q :: l.drop (i + 1)) i B = if (fu_step q.1 (fun k => q.2.getD k 0) B).1.toInt < 0 then .inr i else fu_fold (l.drop (i + 1)) (i + 1) (fu_bw (fu_step q.1 (fun k => q.2.getD k 0) B).2 B) := rfl
    generalize fu_step q.1 (fun k => q.2.getD k 0) B = S at hq2 gd hfo
    obtain ⟨rfl, hh2⟩ := hq2
    have hw2 : kd_wt kd_ty h2 := by rw [hh2]; exact fu_wt_c gd hw
    have hfr2 : ∀ c b, c < 1 ∨ 32 ≤ c → h2 c b = hB c b := fun c b hc => by rw [hh2, fu_cw_o gd (by omega)]; exact hfr c b hc
    have hC2 : fu_C (fu_bw S.2 B) 1 h2 := by rw [hh2]; exact fu_C_w gd hC
    have hB2 : fu_BT (fu_bw S.2 B) := fu_BT_w gd hBT
    have hdr : l.drop i = q :: l.drop (i + 1) := by
      rw [List.drop_eq_getElem_cons (show i < l.length by omega)]
      congr 1
      have := List.getElem?_eq_getElem (l := l) (i := i) (by omega)
      rw [this] at hq
      exact Option.some.inj hq
    rw [hdr] at hf
    show kc_Ev g d wk_m67 Q 75 [(2, .inl (Int32.ofNat i)), (1, .inl (z1)), (0, .inr (.inr (.inl (some 0))))] [.inl S.1] h2
    refine kx_go 1 (pc' := (if kc_cnd .ge (S.1).toInt 0 then 95 else 78)) (L' := [(2, .inl (Int32.ofNat i)), (1, .inl (z1)), (0, .inr (.inr (.inl (some 0))))]) (S' := []) (h' := h2) (by with_unfolding_all rfl) ?_
    rcases (show 0 ≤ S.1.toInt ∨ S.1.toInt < 0 by omega) with r0 | r0
    · rw [if_pos (kv_g0 r0)]
      refine kx_go 2 (pc' := 39) (L' := [(2, .inl ((Int32.ofNat i) + Int32.ofInt 1)), (1, .inl (z1)), (0, .inr (.inr (.inl (some 0))))]) (S' := []) (h' := h2) (by with_unfolding_all rfl) ?_
      rw [kx_inc]
      refine ih (i + 1) h2 (fu_bw S.2 B) (by omega) (by omega) hw2 hfr2 hC2 hB2 ?_
      rw [← hf, hfo, if_neg (by omega)]
    · rw [if_neg (kv_g1 r0)]
      have j0 := kx_ofr (hw2 _ _ _ kv_k0.1)
      have j1 := kx_ofr (hw2 _ _ _ kv_k0.2.1)
      refine kx_go 1 (pc' := 79) (L' := [(2, .inl (Int32.ofNat i)), (1, .inl (z1)), (0, .inr (.inr (.inl (some 0))))]) (S' := [.inr (.inr (.inl (some 0)))]) (h' := h2) (by with_unfolding_all rfl) ?_
      refine kx_getf (c := 0) (v := .inr (.inr (.inl (some 1)))) rfl (by decide) j0 ?_
      refine kx_go 1 (pc' := 83) (L' := [(2, .inl (Int32.ofNat i)), (1, .inl (z1)), (0, .inr (.inr (.inl (some 0))))]) (S' := [.inr (.inr (.inl (some 0))), .inr (.inr (.inl (some 1)))]) (h' := h2) (by with_unfolding_all rfl) ?_
      refine kx_getf (c := 0) (v := .inr (.inr (.inl (some 32)))) rfl (by decide) j1 ?_
      refine kc_call_rule (M2 := wk_m68) (av := [.inr (.inr (.inl (some 1))), .inr (.inr (.inl (some 32)))]) (r := []) rfl rfl (kc_Con_le (kt_take32_1 (d := 0) hg hw2) (by omega)) (fun rv h3 hq3 => ?_)
      obtain ⟨rfl, rfl⟩ := hq3
      show kc_Ev g d wk_m67 Q 89 [(2, .inl (Int32.ofNat i)), (1, .inl (z1)), (0, .inr (.inr (.inl (some 0))))] [] (kt_K h2 32 1 31)
      refine kx_go 3 (pc' := 94) (L' := [(2, .inl (Int32.ofNat i)), (1, .inl (z1)), (0, .inr (.inr (.inl (some 0))))]) (S' := [.inl ((Int32.ofInt (-1000)) - (Int32.ofNat i))]) (h' := (kt_K h2 32 1 31)) (by with_unfolding_all rfl) ?_
      refine kc_ret_ok rfl (rv := some (.inl ((Int32.ofInt (-1000)) - (Int32.ofNat i)))) rfl (hQ0 h2 i hw2 hfr2 ?_)
      rw [← hf, hfo, if_pos r0]
set_option maxRecDepth 20000 in
theorem fu_dayr {g : kc_G} {d : Nat} {Q : Option kc_V → kc_H → Prop} {hB : kc_H} {l : List (Nat × List Nat)} {out : (Nat → Int32) ⊕ Nat} (hg : kc_ok g) (hd : 6 ≤ d) (hit : hB 259 13 = .inl (Int32.ofNat l.length)) (hl60 : l.length ≤ 60) (hl : ∀ (i : Nat) (q : Nat × List Nat), l[i]? = some q → kp_okI q ∧ q.1 < 9 ∧ q.2.length = ks_L (kp_sh q.1)) (hat : ∀ (i : Nat) (q : Nat × List Nat), l[i]? = some q → hB 264 i = .inl (Int32.ofNat (kp_tv q.1)) ∧ ∀ k x, q.2[k]? = some x → hB 265 (5 * i + k) = .inl (Int32.ofNat x))
    (hQ1 : ∀ (hE : kc_H) (B : Nat → Int32), kd_wt kd_ty hE → (∀ c b, ¬ c = 260 → hE c b = hB c b) → fu_B B hE → fu_BT B → out = .inl B → Q (some (.inl (Int32.ofNat l.length))) hE) (hQ0 : ∀ (hE : kc_H) (i : Nat), kd_wt kd_ty hE → (∀ c b, ¬ c = 260 → hE c b = hB c b) → out = .inr i → Q (some (.inl (Int32.ofInt (-1000) - Int32.ofNat i))) (kz_cp hE 260 0 263 0 650)) : ∀ (u i : Nat) (hh : kc_H) (B : Nat → Int32), l.length - i = u → i ≤ l.length → kd_wt kd_ty hh → (∀ c b, ¬ c = 260 → hh c b = hB c b) → fu_B B hh → fu_BT B → fu_fold (l.drop i) i B = out → kc_Ev g d wk_m71 Q 49 [(1, .inl (Int32.ofNat i)), (0, .inr (.inr (.inl (some 259))))] [] hh := by
  intro u
  induction u with
  | zero =>
    intro i hh B hu hi hw hfr hC hBT hf
    have eit : hh 259 13 = .inl (Int32.ofNat l.length) := (hfr _ _ (by omega)).trans hit
    refine kx_go 2 (pc' := 51) (L' := [(1, .inl (Int32.ofNat i)), (0, .inr (.inr (.inl (some 259))))]) (S' := [.inr (.inr (.inl (some 259))), .inl (Int32.ofNat i)]) (h' := hh) (by with_unfolding_all rfl) ?_
    refine kx_getf (c := 259) (v := .inl (Int32.ofNat l.length)) rfl (by decide) eit ?_
    refine kx_go 1 (pc' := (if kc_cnd .ge (Int32.ofNat i).toInt (Int32.ofNat l.length).toInt then 104 else 57)) (L' := [(1, .inl (Int32.ofNat i)), (0, .inr (.inr (.inl (some 259))))]) (S' := []) (h' := hh) (by with_unfolding_all rfl) ?_
    rw [if_pos ((kx_ge (by omega) (by omega)).mpr (by omega))]
    refine kx_go 1 (pc' := 105) (L' := [(1, .inl (Int32.ofNat i)), (0, .inr (.inr (.inl (some 259))))]) (S' := [.inr (.inr (.inl (some 259)))]) (h' := hh) (by with_unfolding_all rfl) ?_
    refine kx_getf (c := 259) (v := .inl (Int32.ofNat l.length)) rfl (by decide) eit ?_
    have hnil : l.drop i = [] := List.drop_eq_nil_of_le (by omega)
    rw [hnil] at hf
    exact kc_ret_ok rfl (rv := some (.inl (Int32.ofNat l.length))) rfl (hQ1 hh B hw hfr hC hBT hf.symm)
  | succ u ih =>
    intro i hh B hu hi hw hfr hC hBT hf
    have eit : hh 259 13 = .inl (Int32.ofNat l.length) := (hfr _ _ (by omega)).trans hit
    refine kx_go 2 (pc' := 51) (L' := [(1, .inl (Int32.ofNat i)), (0, .inr (.inr (.inl (some 259))))]) (S' := [.inr (.inr (.inl (some 259))), .inl (Int32.ofNat i)]) (h' := hh) (by with_unfolding_all rfl) ?_
    refine kx_getf (c := 259) (v := .inl (Int32.ofNat l.length)) rfl (by decide) eit ?_
    refine kx_go 1 (pc' := (if kc_cnd .ge (Int32.ofNat i).toInt (Int32.ofNat l.length).toInt then 104 else 57)) (L' := [(1, .inl (Int32.ofNat i)), (0, .inr (.inr (.inl (some 259))))]) (S' := []) (h' := hh) (by with_unfolding_all rfl) ?_
    rw [if_neg (fun q => by have := (kx_ge (by omega) (by omega)).mp q; omega)]
    obtain ⟨q, hq⟩ : ∃ q, l[i]? = some q := ⟨l[i]'(by omega), List.getElem?_eq_getElem (by omega)⟩
    obtain ⟨hqo, hq9, hql⟩ := hl i q hq
    obtain ⟨a1, a2⟩ := hat i q hq
    have ew : hh 264 i = .inl (Int32.ofNat (kp_tv q.1)) := (hfr _ _ (by omega)).trans a1
    have er : ∀ k, hh 265 (5 * i + k) = hB 265 (5 * i + k) := fun k => hfr _ _ (by omega)
    obtain ⟨nf, hnf⟩ : ∃ nf : Nat → Nat, ∀ k, k < 4 → hh 265 (5 * i + k) = .inl (Int32.ofNat (nf k)) ∧ nf k < 1000 := by
      have : ∀ k, ∃ v, k < 4 → hh 265 (5 * i + k) = .inl (Int32.ofNat v) ∧ v < 1000 := fun k => by
        by_cases hk : k < 4
        · obtain ⟨v, v1, v2⟩ := kx_ofg (by omega) (hw _ _ _ (km_k265 (5 * i + k) (by omega)))
          exact ⟨v, fun _ => ⟨v2, by omega⟩⟩
        · exact ⟨0, fun q => absurd q hk⟩
      exact Classical.axiomOfChoice this
    have hst : fu_step q.1 nf B = fu_step q.1 (fun k => q.2.getD k 0) B := fu_step_c hq9 (fun k hk => by
      have hk2 : k < q.2.length := by omega
      have e1 := a2 k q.2[k] (List.getElem?_eq_getElem hk2)
      have e2 := (hnf k (by have := hqo.2.1; omega)).1
      rw [er k, e1] at e2
      have e3 : Int32.ofNat q.2[k] = Int32.ofNat (nf k) := Sum.inl.inj e2
      have e4 : (Int32.ofNat q.2[k]).toInt = (Int32.ofNat (nf k)).toInt := by rw [e3]
      have e5 := hqo.2.2 q.2[k] (List.getElem_mem hk2)
      have e6 := (hnf k (by have := hqo.2.1; omega)).2
      rw [kx_ti (by omega), kx_ti (by omega)] at e4
      show nf k = q.2.getD k 0
      rw [List.getD_eq_getElem?_getD, List.getElem?_eq_getElem hk2]
      show nf k = q.2[k]
      omega)
    refine kx_go 2 (pc' := 59) (L' := [(1, .inl (Int32.ofNat i)), (0, .inr (.inr (.inl (some 259))))]) (S' := [.inl (Int32.ofNat i), .inr (.inr (.inl (some 259)))]) (h' := hh) (by with_unfolding_all rfl) ?_
    refine kc_call_rule (M2 := wk_m235) (av := [.inr (.inr (.inl (some 259))), .inl (Int32.ofNat i)]) (r := []) rfl rfl (kc_Con_le (fu_item hg hw (show i < 60 by omega) hq9 hC hBT ew hnf) hd) (fun rv h2 hq2 => ?_)
    rw [hst] at hq2
    have gd := fu_g_step (v := q.1) (n := fun k => q.2.getD k 0) hq9 hBT
    have hfo : fu_fold (q :: l.drop (i + 1)) i B = if (fu_step q.1 (fun k => q.2.getD k 0) B).1.toInt < 0 then .inr i else fu_fold (l.drop (i + 1)) (i + 1) (fu_bw (fu_step q.1 (fun k => q.2.getD k 0) B).2 B) := rfl
    generalize fu_step q.1 (fun k => q.2.getD k 0) B = S at hq2 gd hfo
    obtain ⟨rfl, hh2⟩ := hq2
    have hw2 : kd_wt kd_ty h2 := by rw [hh2]; exact fu_wt_r gd hw
    have hfr2 : ∀ c b, ¬ c = 260 → h2 c b = hB c b := fun c b hc => by rw [hh2, fu_rw_o hc]; exact hfr c b hc
    have hC2 : fu_B (fu_bw S.2 B) h2 := by rw [hh2]; exact fu_B_w hC
    have hB2 : fu_BT (fu_bw S.2 B) := fu_BT_w gd hBT
    have hdr : l.drop i = q :: l.drop (i + 1) := by
      rw [List.drop_eq_getElem_cons (show i < l.length by omega)]
      congr 1
      have := List.getElem?_eq_getElem (l := l) (i := i) (by omega)
      rw [this] at hq
      exact Option.some.inj hq
    rw [hdr] at hf
    show kc_Ev g d wk_m71 Q 62 [(1, .inl (Int32.ofNat i)), (0, .inr (.inr (.inl (some 259))))] [.inl S.1] h2
    refine kx_go 1 (pc' := (if kc_cnd .ge (S.1).toInt 0 then 98 else 65)) (L' := [(1, .inl (Int32.ofNat i)), (0, .inr (.inr (.inl (some 259))))]) (S' := []) (h' := h2) (by with_unfolding_all rfl) ?_
    rcases (show 0 ≤ S.1.toInt ∨ S.1.toInt < 0 by omega) with r0 | r0
    · rw [if_pos (kv_g0 r0)]
      refine kx_go 2 (pc' := 49) (L' := [(1, .inl ((Int32.ofNat i) + Int32.ofInt 1)), (0, .inr (.inr (.inl (some 259))))]) (S' := []) (h' := h2) (by with_unfolding_all rfl) ?_
      rw [kx_inc]
      refine ih (i + 1) h2 (fu_bw S.2 B) (by omega) (by omega) hw2 hfr2 hC2 hB2 ?_
      rw [← hf, hfo, if_neg (by omega)]
    · rw [if_neg (kv_g1 r0)]
      refine kx_go 2 (pc' := 67) (L' := [(2, .inl (Int32.ofNat 0)), (1, .inl (Int32.ofNat i)), (0, .inr (.inr (.inl (some 259))))]) (S' := []) (h' := h2) (by with_unfolding_all rfl) ?_
      have key := kz_dy2 (g := g) (d := d) (Q := Q) (h := h2) (i := i) (fun k hk => kz_int_r hw2 (by rw [(kz_k260 k hk).2.2.2]; exact (kz_k260 k hk).1)) 650 0 (by omega) (by omega) ?_
      · rw [kz_0, kz_wid hw2] at key
        exact key
      rw [kz_wid hw2]
      refine kx_go 3 (pc' := 97) (L' := [(2, .inl (Int32.ofNat 650)), (1, .inl (Int32.ofNat i)), (0, .inr (.inr (.inl (some 259))))]) (S' := [.inl ((Int32.ofInt (-1000)) - (Int32.ofNat i))]) (h' := (kz_cp h2 260 0 263 0 650)) (by with_unfolding_all rfl) ?_
      refine kc_ret_ok rfl (rv := some (.inl ((Int32.ofInt (-1000)) - (Int32.ofNat i)))) rfl (hQ0 h2 i hw2 hfr2 ?_)
      rw [← hf, hfo, if_pos r0]
