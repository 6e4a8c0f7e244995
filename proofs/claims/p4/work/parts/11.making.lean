/-! ===== new cells ===== -/
theorem wk_psh_1 : ∀ (cs : List wk_C) (AH : wk_A), (wk_psh cs AH).1 = AH.1 + cs.length
  | [], AH => rfl
  | c :: l, AH => by
    show (wk_psh l (AH.1 + 1, wk_set2 AH.2 AH.1 c)).1 = _
    rw [wk_psh_1 l]
    simp only [List.length_cons]
    omega
theorem wk_room_set : ∀ (cs : List wk_C) (AH : wk_A) (n k : Nat) (c : wk_C), wk_room AH cs n = true → (wk_at2 AH.2 k).isSome = true → wk_room (AH.1 + 1, wk_set2 AH.2 k c) cs n = true
  | [], _, _, _, _, _, _ => rfl
  | d :: l, AH, n, k, c, h, hk => by
    have h : ((wk_at2 AH.2 n).isSome && wk_room AH l (n + 1)) = true := h
    rw [Bool.and_eq_true] at h
    show ((wk_at2 (wk_set2 AH.2 k c) n).isSome && wk_room (AH.1 + 1, wk_set2 AH.2 k c) l (n + 1)) = true
    rw [Bool.and_eq_true, wk_at2_set _ _ _ _ hk]
    refine ⟨?_, wk_room_set l AH (n + 1) k c h.2 hk⟩
    by_cases e : n = k
    · rw [if_pos e]; rfl
    · rw [if_neg e]; exact h.1
theorem wk_psh_at : ∀ (cs : List wk_C) (AH : wk_A), wk_room AH cs AH.1 = true → ∀ (k : Nat) (c : wk_C), wk_at2 (wk_psh cs AH).2 k = some c → (∃ j, k = AH.1 + j ∧ cs[j]? = some c) ∨ ((k < AH.1 ∨ AH.1 + cs.length ≤ k) ∧ wk_at2 AH.2 k = some c)
  | [], AH, _, k, c, h => by
    refine Or.inr ⟨?_, h⟩
    simp only [List.length_nil]
    omega
  | d :: l, AH, hr, k, c, h => by
    have hr : ((wk_at2 AH.2 AH.1).isSome && wk_room AH l (AH.1 + 1)) = true := hr
    rw [Bool.and_eq_true] at hr
    have h2 := wk_psh_at l (AH.1 + 1, wk_set2 AH.2 AH.1 d) (wk_room_set l AH (AH.1 + 1) AH.1 d hr.2 hr.1) k c h
    simp only at h2
    rcases h2 with ⟨j, e, hj⟩ | ⟨e, hj⟩
    · exact Or.inl ⟨j + 1, by omega, by simpa using hj⟩
    · rw [wk_at2_set _ _ _ _ hr.1] at hj
      by_cases ek : k = AH.1
      · subst ek
        rw [if_pos rfl] at hj
        exact Or.inl ⟨0, rfl, by simpa using hj⟩
      · rw [if_neg ek] at hj
        refine Or.inr ⟨?_, hj⟩
        simp only [List.length_cons]
        omega
section WKM
variable {D : va_G} {A : Nat → Prop} {U : State} {as : List Nat} {z : Nat → Nat} {ρ : Nat → Int32} {AH : wk_A} {ws : va_W} {H H1 : Heap} {iv : wk_I}
/-- cells made -/
theorem wk_hr_pushes (h : wk_hr D A U as z ρ AH ws H) {cs : List wk_C} {es : va_W} (hroom : wk_room AH cs AH.1 = true) (he : wk_f2 (fun c q => wk_e U (as ++ es.map (fun q => q.1)) z ρ c q.2) cs es) (hP : va_P D wk_cl (ws ++ es) H1) (hD : va_D A (ws ++ es)) : wk_hr D A U (as ++ es.map (fun q => q.1)) z ρ (wk_psh cs AH) (ws ++ es) H1 := by
  refine ⟨hP, hD, by rw [List.length_append, h.2.2.1, wk_psh_1, wk_f2_len he], by rw [List.map_append, h.2.2.2.1], fun k c hk hc => ?_⟩
  rw [wk_psh_1] at hk
  rcases wk_psh_at cs AH hroom k c hc with ⟨j, e, hj⟩ | ⟨e, hj⟩
  · subst e
    obtain ⟨q, q1, q2⟩ := wk_f2_at he j c hj
    refine ⟨q.1, q.2, ?_, q2⟩
    rw [List.getElem?_append_right (by rw [h.2.2.1]; omega), h.2.2.1, show AH.1 + j - AH.1 = j by omega]
    exact q1
  · have hk2 : k < AH.1 := by omega
    obtain ⟨a2, e2, g1, g2⟩ := h.2.2.2.2 k c hk2 hj
    exact ⟨a2, e2, by rw [List.getElem?_append_left (List.getElem?_eq_some_iff.mp g1).1]; exact g1, wk_e_mono _ g2⟩
theorem wk_rep_at {n j : Nat} {v w : wk_V} (h : wk_at2 (wk_rep n v) j = some w) : w = v := by
  rw [wk_at2_eq] at h
  unfold wk_rep at h
  cases hr : (List.replicate (n / 32 + 1) (List.replicate 32 v))[j / 32]? with
  | none => rw [hr] at h; cases h
  | some r =>
    rw [hr] at h
    have e := List.eq_of_mem_replicate (List.mem_of_getElem? hr)
    subst e
    exact List.eq_of_mem_replicate (List.mem_of_getElem? h)
theorem wk_rep_i {n t : Nat} (ht : t < 2) : wk_arr as z ρ t n (wk_rep n (.inl (0, 0))) (.inl (fun _ => 0)) :=
  (wk_arr_i ht).mpr ⟨_, rfl, fun j v _ hv => by rw [wk_rep_at hv]; exact ⟨0, rfl, by decide, by decide⟩⟩
theorem wk_rep_q {n t : Nat} (ht : ¬ t < 2) : wk_arr as z ρ t n (wk_rep n (.inr (.inr (.inl none)))) (.inr (.inr (.inr (.inr (fun _ => none))))) :=
  (wk_arr_q ht).mpr ⟨_, rfl, fun j v _ hv => by rw [wk_rep_at hv]; rfl⟩
end WKM
theorem wk_f2_of {α β : Type} {R : α → β → Prop} : ∀ {l : List α} {m : List β}, l.length = m.length → (∀ (k : Nat) (a : α) (b : β), l[k]? = some a → m[k]? = some b → R a b) → wk_f2 R l m
  | [], [], _, _ => trivial
  | [], _ :: _, h, _ => by cases h
  | _ :: _, [], h, _ => by cases h
  | a :: l, b :: m, h, hR => ⟨hR 0 a b (by simp) (by simp), wk_f2_of (by simpa using h) (fun k a b ha hb => hR (k + 1) a b (by simpa using ha) (by simpa using hb))⟩
theorem wk_fc3 : (wk_fc.all fun r => r.all fun n => Nat.ble n 3) = true := by decide +kernel
theorem wk_fcl : (wk_fl.map fun q => q.2.length) = wk_fc.map List.length := by decide +kernel
/-- the fields of a new object -/
theorem wk_zs_r {ci : Nat} {q : String × List (String × String × String × Bool)} {fs : List wk_V} {as : List Nat} {z : Nat → Nat} {ρ : Nat → Int32} (hq : wk_fl[ci]? = some q) (hz : wk_at wk_zs ci = some fs) : fs.length = q.2.length ∧ ∀ j v, fs[j]? = some v → wk_r as z ρ v (defaultValue (wk_ft ci j)) := by
  rw [wk_at_eq] at hz
  unfold wk_zs at hz
  rw [List.getElem?_map] at hz
  cases hr : wk_fc[ci]? with
  | none => rw [hr] at hz; cases hz
  | some r =>
    rw [hr] at hz
    have hall := List.all_eq_true.mp wk_fc3 r (List.mem_of_getElem? hr)
    have hlen : r.length = q.2.length := by
      have h1 : (wk_fl.map fun q => q.2.length)[ci]? = some q.2.length := by rw [List.getElem?_map, hq]; rfl
      rw [wk_fcl, List.getElem?_map, hr] at h1
      exact Option.some.inj h1
    have hz := Option.some.inj hz
    subst hz
    refine ⟨by rw [List.length_map]; exact hlen, fun j v hv => ?_⟩
    rw [List.getElem?_map] at hv
    cases hj : r[j]? with
    | none => rw [hj] at hv; cases hv
    | some n =>
      rw [hj] at hv
      have hv := Option.some.inj hv
      have hjl : j < q.2.length := by rw [← hlen]; exact (List.getElem?_eq_some_iff.mp hj).1
      have h2 := (wk_ft_at hq hjl).2
      rw [hr] at h2
      simp only [Option.bind_some, hj] at h2
      have h2 := Option.some.inj h2
      have h3 := List.all_eq_true.mp hall n (List.mem_of_getElem? hj)
      have h3 := Nat.le_of_ble_eq_true h3
      subst hv
      subst h2
      generalize wk_ft ci j = ty at h3 ⊢
      cases ty with
      | int => exact ⟨0, rfl, by decide, by decide⟩
      | boolean => exact ⟨0, rfl, by decide, by decide⟩
      | long => exact ⟨0, rfl, by decide, by decide⟩
      | object C => rfl
      | array C => rfl
      | _ => exact absurd h3 (by decide)
section WKN
variable {p : Program} {l : Launch} {e : Env} {R : Room} {s : State} {m : MethodId} {args : Array Value} {below : List Frame} {meth : Method} {c : Code} {H : Heap} {locs : List Loc} {cells slots : Nat} {Q : State → Prop}
variable {cc : ByteArray} {pc : Nat} {ls : Array Slot} {y : MethodName} {nL Lz : Nat} {z : Nat → Nat} {D : va_G} {A : Nat → Prop} {as : List Nat} {ρ : Nat → Int32} {iv : wk_I} {AS : List wk_V} {AH : wk_A} {ws : va_W} {st : List Value} {x : Nat × Nat × Int} {r : wk_H} {mt : Nat → Option wk_M}
theorem wk_new_ok (C : wk_cx p s m args meth c cc y nL D A z Lz ρ) {idx p1 p2 p3 : Nat} (hd : decode cc pc = .ok (.new idx, 3)) (hw : wk_okw mt y (.new idx) x [p1, p2, p3] = true) (hp : wk_new x AS AH = some r) (hroom : wk_room AH r.2.2.2.1 AH.1 = true) (hcells : cells + r.2.2.2.2.1 ≤ R.cells) (hslots : slots + r.2.2.2.2.2 ≤ R.slots) (hr : wk_hr D A s as z ρ AH ws H) (hS : va_S A s.heap H locs) (hs : wk_f2 (wk_r as z ρ) AS st)
    (kk : wk_go3 p l e R s m args below meth c cells slots Q D A as z ρ pc ls AH ws r) : W p l e R s m args below meth c H locs cells slots Q (F0 m pc ls st) := by
  obtain ⟨hx, hb, -, hown, hts, hK, hA, -⟩ := C
  have hw : (match wk_fl[x.1]? with
    | some q => wk_has p1 (.classLink y.cls idx q.1) && (wk_has p2 (.instantiable q.1 q.2.length) && wk_has p3 (.initialized q.1))
    | none => false) = true := hw
  unfold wk_new at hp
  cases hz : wk_at wk_zs x.1 with
  | none => rw [hz] at hp; cases hp
  | some fs =>
    rw [hz] at hp
    cases hp
    cases hq : wk_fl[x.1]? with
    | none => rw [hq] at hw; cases hw
    | some q =>
      rw [hq] at hw
      simp only [Bool.and_eq_true] at hw
      obtain ⟨w1, w2, w3⟩ := hw
      have hcl : wk_cl[x.1]? = some (q.1, wk_T q, q.2.length) := by unfold wk_cl; rw [List.getElem?_map, hq]; rfl
      have hlen : fs.length = q.2.length := (wk_zs_r (as := as) (z := z) (ρ := ρ) hq hz).1
      refine va_new (ci := x.1) (fs := (List.range q.2.length).map fun j => defaultValue (wk_ft x.1 j)) hx hb hts (wk_cl_in hcl) (wk_ft x.1) (fun j hj => (wk_ft_at hq hj).1) hown (hts _ (wk_has_in w1)) (hts _ (wk_has_in w2)) (hts _ (wk_has_in w3)) hK.1 hr.1 hr.2.1 hS hA hcl (fun j hj => ?_) hcells (by rw [← hlen]; exact hslots) hd (fun a H1 hP1 hD1 hS1 => ?_)
      · show _ = List.getD _ _ _
        simp [hj]
      · have k0 := kk H1 locs [a] (ws ++ [(a, .inr (x.1, (List.range q.2.length).map fun j => defaultValue (wk_ft x.1 j)))]) (.ref a :: st) hS1 ?_ ?_ wk_same_app
        · have k1 : W p l e R s m args below meth c H1 locs (cells + 1) (slots + fs.length) Q (F0 m (pc + 3) ls (.ref a :: st)) := k0
          rw [hlen] at k1
          exact k1
        · refine wk_hr_pushes (es := [(a, .inr (x.1, (List.range q.2.length).map fun j => defaultValue (wk_ft x.1 j)))]) hr hroom ⟨Or.inr ⟨_, rfl, ?_⟩, trivial⟩ hP1 hD1
          exact wk_f2_of (by simp [hlen]) (fun j v b hv hb2 => by
            have hj : j < q.2.length := by rw [← hlen]; exact (List.getElem?_eq_some_iff.mp hv).1
            have hb3 : b = defaultValue (wk_ft x.1 j) := by
              rw [List.getElem?_map, List.getElem?_range hj] at hb2
              exact (Option.some.inj hb2).symm
            rw [hb3]
            exact (wk_zs_r hq hz).2 j v hv)
        · refine ⟨⟨a, ?_, rfl⟩, wk_f2_mono (fun _ _ q => wk_r_mono [a] q) hs⟩
          rw [← hr.2.2.1, ← hr.2.2.2.1, List.getElem?_append_right (by rw [List.length_map]; exact Nat.le_refl _), List.length_map, Nat.sub_self]
          rfl
end WKN
