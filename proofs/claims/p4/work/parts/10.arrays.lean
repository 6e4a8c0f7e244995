/-! ===== arrays ===== -/
theorem wk_K1 {D : va_G} {s : State} {cA : ClassId} {ty : FieldType} (h : va_K D wk_cl [] s) (h1 : ArrOfT s cA ty) (h2 : va_RA s cA ty) : va_K D wk_cl [(cA, ty)] s := ⟨h.1, fun k q hk => by
  have h0 : k < 1 := (List.getElem?_eq_some_iff.mp hk).1
  rw [show k = 0 by omega] at hk
  cases hk
  exact ⟨h1, h2⟩⟩
theorem wk_K2 {D : va_G} {s : State} {cA cB : ClassId} {ty ty2 : FieldType} (h : va_K D wk_cl [] s) (h1 : ArrOfT s cA ty) (h2 : va_RA s cA ty) (h3 : ArrOfT s cB ty2) (h4 : va_RA s cB ty2) : va_K D wk_cl [(cA, ty), (cB, ty2)] s := (wk_K1 h h1 h2).app (wk_K1 h h3 h4)
theorem wk_bt {b : Bool} {α : Type} {x : Option α} {r : α} (h : (bif b then x else none) = some r) : b = true ∧ x = some r := by
  cases b with
  | false => cases h
  | true => exact ⟨rfl, h⟩
theorem wk_arr_i {as : List Nat} {z : Nat → Nat} {ρ : Nat → Int32} {t n : Nat} {vs : List (List wk_V)} {d : (Nat → Int32) ⊕ (Nat → Int64) ⊕ (Nat → UInt32) ⊕ (Nat → UInt64) ⊕ (Nat → Option Nat)} (ht : t < 2) : wk_arr as z ρ t n vs d ↔ ∃ f, d = .inl f ∧ ∀ (j : Nat) (v : wk_V), j < n → wk_at2 vs j = some v → wk_r as z ρ v (.int (f j)) := by
  unfold wk_arr
  rw [if_pos ht]
theorem wk_arr_q {as : List Nat} {z : Nat → Nat} {ρ : Nat → Int32} {t n : Nat} {vs : List (List wk_V)} {d : (Nat → Int32) ⊕ (Nat → Int64) ⊕ (Nat → UInt32) ⊕ (Nat → UInt64) ⊕ (Nat → Option Nat)} (ht : ¬ t < 2) : wk_arr as z ρ t n vs d ↔ ∃ f, d = .inr (.inr (.inr (.inr f))) ∧ ∀ (j : Nat) (v : wk_V), j < n → wk_at2 vs j = some v → wk_r as z ρ v (va_rf (f j)) := by
  unfold wk_arr
  rw [if_neg ht]
theorem wk_ty_ref {t : Nat} (h : 2 ≤ t) : (wk_ty t).isReference = true := by
  match t, h with
  | 2, _ => rfl
  | _ + 3, _ => rfl
section WKAS
variable {p : Program} {l : Launch} {e : Env} {R : Room} {s : State} {m : MethodId} {args : Array Value} {below : List Frame} {meth : Method} {c : Code} {H : Heap} {locs : List Loc} {cells slots : Nat} {Q : State → Prop}
variable {cc : ByteArray} {pc : Nat} {ls : Array Slot} {y : MethodName} {nL Lz : Nat} {z : Nat → Nat} {D : va_G} {A : Nat → Prop} {as : List Nat} {ρ : Nat → Int32} {iv : wk_I} {AS : List wk_V} {AH : wk_A} {ws : va_W} {st : List Value} {x : Nat × Nat × Int} {r : wk_H}
theorem wk_ild_ok (C : wk_cx p s m args meth c cc y nL D A z Lz ρ) (hbx : wk_bx ρ iv) (hd : decode cc pc = .ok (.iaload, 1)) {v a : wk_V} (hp : wk_ild Lz iv v a AS AH = some r) (hr : wk_hr D A s as z ρ AH ws H) (hS : va_S A s.heap H locs) (hs : wk_f2 (wk_r as z ρ) (v :: a :: AS) st)
    (kk : wk_go3 p l e R s m args below meth c cells slots Q D A as z ρ pc ls AH ws r) : W p l e R s m args below meth c H locs cells slots Q (F0 m pc ls st) := by
  obtain ⟨hx, hb, -, hown, hts, hK, -, -, hX, hzl, hzA, -⟩ := C
  obtain ⟨y1, st1, rfl, hv, hs1⟩ := wk_f2_cons hs
  obtain ⟨y0, st2, rfl, ha, hs2⟩ := wk_f2_cons hs1
  unfold wk_ild at hp
  cases hn : wk_nx iv v with
  | none => rw [hn] at hp; cases hp
  | some j =>
    rw [hn] at hp
    obtain ⟨i, rfl, i1, i2, i3⟩ := wk_nx_r hbx hn hv
    cases hsc : wk_scr a with
    | true =>
      simp only [hsc, cond_true] at hp
      replace hp := wk_bt hp
      obtain ⟨hj, hp⟩ := hp
      cases hp
      have hz : y0 = .ref (z 0) := by
        unfold wk_scr at hsc
        split at hsc
        · exact ha
        · cases hsc
      subst hz
      refine va_sld hx hb hX.1 hzl hzA hS (wk_vin i2 i3 (wk_blt hj)) hd ?_
      exact kk H locs [] ws _ hS (by rw [List.append_nil]; exact hr) (by rw [List.append_nil]; exact ⟨by show Value.int (ρ i.toNatClampNeg) = Value.int (ρ j); rw [i3], hs2⟩) wk_same_rfl
    | false =>
      simp only [hsc, cond_false] at hp
      cases ho : wk_ary AH a with
      | none => rw [ho] at hp; cases hp
      | some q =>
        obtain ⟨k, t, n, vs⟩ := q
        rw [ho] at hp
        dsimp only at hp
        replace hp := wk_bt hp
        obtain ⟨hc, hp⟩ := hp
        rw [Bool.and_eq_true] at hc
        obtain rfl := Nat.eq_of_beq_eq_true hc.1
        obtain ⟨a0, cA, d, rfl, h1, h2, h3, h4, h5, h6, h7⟩ := wk_ary_r hr ho ha
        obtain ⟨f, rfl, hf⟩ := (wk_arr_i (by decide)).mp h5
        cases hat : wk_at2 vs j with
        | none => rw [hat] at hp; cases hp
        | some w =>
          rw [hat] at hp
          cases hp
          refine va_iald hx hb (wk_K1 hK.1 h3 h4) hr.1 k 0 h1 rfl (wk_vin i2 i3 (wk_blt hc.2)) hd ?_
          exact kk H locs [] ws _ hS (by rw [List.append_nil]; exact hr) (by rw [List.append_nil]; exact ⟨by rw [i3]; exact hf j w (wk_blt hc.2) hat, hs2⟩) wk_same_rfl
theorem wk_bld_ok (C : wk_cx p s m args meth c cc y nL D A z Lz ρ) (hbx : wk_bx ρ iv) (hd : decode cc pc = .ok (.baload, 1)) {v a : wk_V} (hp : wk_bld iv v a AS AH = some r) (hr : wk_hr D A s as z ρ AH ws H) (hS : va_S A s.heap H locs) (hs : wk_f2 (wk_r as z ρ) (v :: a :: AS) st)
    (kk : wk_go3 p l e R s m args below meth c cells slots Q D A as z ρ pc ls AH ws r) : W p l e R s m args below meth c H locs cells slots Q (F0 m pc ls st) := by
  obtain ⟨hx, hb, -, hown, hts, hK, -⟩ := C
  obtain ⟨y1, st1, rfl, hv, hs1⟩ := wk_f2_cons hs
  obtain ⟨y0, st2, rfl, ha, hs2⟩ := wk_f2_cons hs1
  unfold wk_bld at hp
  cases hn : wk_nx iv v with
  | none => rw [hn] at hp; cases hp
  | some j =>
    obtain ⟨i, rfl, i1, i2, i3⟩ := wk_nx_r hbx hn hv
    cases ho : wk_ary AH a with
    | none => rw [hn, ho] at hp; cases hp
    | some q =>
      obtain ⟨k, t, n, vs⟩ := q
      rw [hn, ho] at hp
      dsimp only at hp
      replace hp := wk_bt hp
      obtain ⟨hc, hp⟩ := hp
      rw [Bool.and_eq_true] at hc
      obtain rfl := Nat.eq_of_beq_eq_true hc.1
      obtain ⟨a0, cA, d, rfl, h1, h2, h3, h4, h5, h6, h7⟩ := wk_ary_r hr ho ha
      obtain ⟨f, rfl, hf⟩ := (wk_arr_i (by decide)).mp h5
      cases hat : wk_at2 vs j with
      | none => rw [hat] at hp; cases hp
      | some w =>
        rw [hat] at hp
        cases hp
        refine va_zald hx hb (wk_K1 hK.1 h3 h4) hr.1 k 0 h1 rfl (wk_vin i2 i3 (wk_blt hc.2)) hd ?_
        exact kk H locs [] ws _ hS (by rw [List.append_nil]; exact hr) (by rw [List.append_nil]; exact ⟨by rw [i3]; exact hf j w (wk_blt hc.2) hat, hs2⟩) wk_same_rfl
theorem wk_ald_ok (C : wk_cx p s m args meth c cc y nL D A z Lz ρ) (hbx : wk_bx ρ iv) (hd : decode cc pc = .ok (.aaload, 1)) {v a : wk_V} (hp : wk_ald iv v a AS AH = some r) (hr : wk_hr D A s as z ρ AH ws H) (hS : va_S A s.heap H locs) (hs : wk_f2 (wk_r as z ρ) (v :: a :: AS) st)
    (kk : wk_go3 p l e R s m args below meth c cells slots Q D A as z ρ pc ls AH ws r) : W p l e R s m args below meth c H locs cells slots Q (F0 m pc ls st) := by
  obtain ⟨hx, hb, -, hown, hts, hK, -⟩ := C
  obtain ⟨y1, st1, rfl, hv, hs1⟩ := wk_f2_cons hs
  obtain ⟨y0, st2, rfl, ha, hs2⟩ := wk_f2_cons hs1
  unfold wk_ald at hp
  cases hn : wk_nx iv v with
  | none => rw [hn] at hp; cases hp
  | some j =>
    obtain ⟨i, rfl, i1, i2, i3⟩ := wk_nx_r hbx hn hv
    cases ho : wk_ary AH a with
    | none => rw [hn, ho] at hp; cases hp
    | some q =>
      obtain ⟨k, t, n, vs⟩ := q
      rw [hn, ho] at hp
      dsimp only at hp
      replace hp := wk_bt hp
      obtain ⟨hc, hp⟩ := hp
      rw [Bool.and_eq_true] at hc
      have ht : 2 ≤ t := Nat.le_of_ble_eq_true hc.1
      obtain ⟨a0, cA, d, rfl, h1, h2, h3, h4, h5, h6, h7⟩ := wk_ary_r hr ho ha
      obtain ⟨f, rfl, hf⟩ := (wk_arr_q (by omega)).mp h5
      have hj : j < n := wk_blt hc.2
      cases hat : wk_at2 vs j with
      | none => rw [hat] at hp; cases hp
      | some w =>
        rw [hat] at hp
        cases hp
        have hin : vp_in i n := wk_vin i2 i3 hj
        have hcell : H[a0]? = some (arrV cA n (fun j => va_rf (f j))) := hr.1 k _ h1
        refine W.aald (v := va_rf (f i.toNatClampNeg)) (ty := wk_ty t) hx hb hcell (h3 n (fun j => va_rf (f j))) (wk_ty_ref ht) (fun q => by cases q) (by rw [arrV_size]; exact hin) (by rw [arrV_read _ _ (by omega)]) rfl rfl hd ?_
        exact kk H locs [] ws _ hS (by rw [List.append_nil]; exact hr) (by rw [List.append_nil]; exact ⟨by rw [i3]; exact hf j w hj hat, hs2⟩) wk_same_rfl
theorem wk_upd_r {t n j : Nat} {vs : List (List wk_V)} {w : wk_V} {i0 : Int32} {f : Nat → Int32} (ht : t < 2) (hf : ∀ (j : Nat) (v : wk_V), j < n → wk_at2 vs j = some v → wk_r as z ρ v (.int (f j))) (hs : (wk_at2 vs j).isSome = true) (hw : wk_r as z ρ w (.int i0)) : wk_arr as z ρ t n (wk_set2 vs j w) (.inl (upd f j i0)) := by
  refine (wk_arr_i ht).mpr ⟨_, rfl, fun j2 v hj hv => ?_⟩
  rw [wk_at2_set _ _ _ _ hs] at hv
  by_cases e : j2 = j
  · subst e
    rw [if_pos rfl] at hv
    cases hv
    rw [pk_us]
    exact hw
  · rw [if_neg e] at hv
    rw [pk_un e]
    exact hf j2 v hj hv
theorem wk_ist_ok (C : wk_cx p s m args meth c cc y nL D A z Lz ρ) (hbx : wk_bx ρ iv) (hd : decode cc pc = .ok (.iastore, 1)) {w v a : wk_V} (hp : wk_ist iv w v a AS AH = some r) (hr : wk_hr D A s as z ρ AH ws H) (hS : va_S A s.heap H locs) (hs : wk_f2 (wk_r as z ρ) (w :: v :: a :: AS) st)
    (kk : wk_go3 p l e R s m args below meth c cells slots Q D A as z ρ pc ls AH ws r) : W p l e R s m args below meth c H locs cells slots Q (F0 m pc ls st) := by
  obtain ⟨hx, hb, -, hown, hts, hK, -⟩ := C
  obtain ⟨y2, st0, rfl, hw, hs0⟩ := wk_f2_cons hs
  obtain ⟨y1, st1, rfl, hv, hs1⟩ := wk_f2_cons hs0
  obtain ⟨y0, st2, rfl, ha, hs2⟩ := wk_f2_cons hs1
  unfold wk_ist at hp
  cases hn : wk_nx iv v with
  | none => rw [hn] at hp; cases hp
  | some j =>
    obtain ⟨i, rfl, i1, i2, i3⟩ := wk_nx_r hbx hn hv
    cases ho : wk_ary AH a with
    | none => rw [hn, ho] at hp; cases hp
    | some q =>
      obtain ⟨k, t, n, vs⟩ := q
      rw [hn, ho] at hp
      dsimp only at hp
      replace hp := wk_bt hp
      obtain ⟨hc, hp⟩ := hp
      simp only [Bool.and_eq_true] at hc
      obtain ⟨c1, c2, c3, c4⟩ := hc
      obtain rfl := Nat.eq_of_beq_eq_true c1
      obtain ⟨q, hq⟩ := Option.isSome_iff_exists.mp c4
      obtain ⟨i0, rfl, -⟩ := wk_gi_r hbx hq hw
      obtain ⟨a0, cA, d, rfl, h1, h2, h3, h4, h5, h6, h7⟩ := wk_ary_r hr ho ha
      obtain ⟨f, rfl, hf⟩ := (wk_arr_i (by decide)).mp h5
      rw [wk_put2_eq] at hp
      cases hp
      refine va_iast hx hb (wk_K1 hK.1 h3 h4) hr.1 hr.2.1 hS k 0 h1 rfl (wk_vin i2 i3 (wk_blt c2)) hd (fun H1 locs1 hP1 hD1 hS1 => ?_)
      rw [i3] at hP1 hD1
      exact kk H1 locs1 [] _ _ hS1 (by rw [List.append_nil]; exact wk_hr_set hr h6 h7 h1 ⟨cA, _, rfl, h3, h4, wk_upd_r (by decide) hf c3 hw⟩ hP1 hD1) (by rw [List.append_nil]; exact hs2) wk_same_set
theorem wk_bst_ok (C : wk_cx p s m args meth c cc y nL D A z Lz ρ) (hbx : wk_bx ρ iv) (hd : decode cc pc = .ok (.bastore, 1)) {w v a : wk_V} (hp : wk_bst iv w v a AS AH = some r) (hr : wk_hr D A s as z ρ AH ws H) (hS : va_S A s.heap H locs) (hs : wk_f2 (wk_r as z ρ) (w :: v :: a :: AS) st)
    (kk : wk_go3 p l e R s m args below meth c cells slots Q D A as z ρ pc ls AH ws r) : W p l e R s m args below meth c H locs cells slots Q (F0 m pc ls st) := by
  obtain ⟨hx, hb, -, hown, hts, hK, -⟩ := C
  obtain ⟨y2, st0, rfl, hw, hs0⟩ := wk_f2_cons hs
  obtain ⟨y1, st1, rfl, hv, hs1⟩ := wk_f2_cons hs0
  obtain ⟨y0, st2, rfl, ha, hs2⟩ := wk_f2_cons hs1
  unfold wk_bst at hp
  cases hn : wk_nx iv v with
  | none => rw [hn] at hp; cases hp
  | some j =>
    obtain ⟨i, rfl, i1, i2, i3⟩ := wk_nx_r hbx hn hv
    cases ho : wk_ary AH a with
    | none => rw [hn, ho] at hp; cases hp
    | some q =>
      obtain ⟨k, t, n, vs⟩ := q
      rw [hn, ho] at hp
      dsimp only at hp
      replace hp := wk_bt hp
      obtain ⟨hc, hp⟩ := hp
      simp only [Bool.and_eq_true] at hc
      obtain ⟨c1, c2, c3, c4⟩ := hc
      obtain rfl := Nat.eq_of_beq_eq_true c1
      have hi : ∃ i0 : Int32, y2 = .int i0 := by
        unfold wk_fit at c4
        cases hg : wk_gi iv w with
        | none => rw [hg] at c4; cases c4
        | some q =>
          obtain ⟨i0, e0, -⟩ := wk_gi_r hbx hg hw
          exact ⟨i0, e0⟩
      obtain ⟨i0, rfl⟩ := hi
      obtain ⟨n1, -⟩ := wk_fit_r (ty := .boolean) hbx c4 hw
      have en : vp_nar .boolean i0 = i0 := by
        unfold vp_nar
        rw [n1]
      obtain ⟨a0, cA, d, rfl, h1, h2, h3, h4, h5, h6, h7⟩ := wk_ary_r hr ho ha
      obtain ⟨f, rfl, hf⟩ := (wk_arr_i (by decide)).mp h5
      rw [wk_put2_eq] at hp
      cases hp
      refine va_zast hx hb (wk_K1 hK.1 h3 h4) hr.1 hr.2.1 hS k 0 h1 rfl (wk_vin i2 i3 (wk_blt c2)) hd (fun H1 locs1 hP1 hD1 hS1 => ?_)
      rw [i3, en] at hP1 hD1
      exact kk H1 locs1 [] _ _ hS1 (by rw [List.append_nil]; exact wk_hr_set hr h6 h7 h1 ⟨cA, _, rfl, h3, h4, wk_upd_r (by decide) hf c3 hw⟩ hP1 hD1) (by rw [List.append_nil]; exact hs2) wk_same_set
theorem wk_cl7 : (wk_cl[7]?).map (fun r => r.1) = some "EvenSides$Told" := by decide +kernel
theorem wk_ast_ok (C : wk_cx p s m args meth c cc y nL D A z Lz ρ) (hbx : wk_bx ρ iv) (hd : decode cc pc = .ok (.aastore, 1)) {w v a : wk_V} (hp : wk_ast iv w v a AS AH = some r) (hr : wk_hr D A s as z ρ AH ws H) (hS : va_S A s.heap H locs) (hs : wk_f2 (wk_r as z ρ) (w :: v :: a :: AS) st)
    (kk : wk_go3 p l e R s m args below meth c cells slots Q D A as z ρ pc ls AH ws r) : W p l e R s m args below meth c H locs cells slots Q (F0 m pc ls st) := by
  obtain ⟨hx, hb, -, hown, hts, hK, -⟩ := C
  obtain ⟨y2, st0, rfl, hw, hs0⟩ := wk_f2_cons hs
  obtain ⟨y1, st1, rfl, hv, hs1⟩ := wk_f2_cons hs0
  obtain ⟨y0, st2, rfl, ha, hs2⟩ := wk_f2_cons hs1
  unfold wk_ast at hp
  cases hn : wk_nx iv v with
  | none => rw [hn] at hp; cases hp
  | some j =>
    obtain ⟨i, rfl, i1, i2, i3⟩ := wk_nx_r hbx hn hv
    cases ho : wk_ary AH a with
    | none => rw [hn, ho] at hp; cases hp
    | some q =>
      obtain ⟨k, t, n, vs⟩ := q
      cases hob : wk_obj AH w with
      | none => rw [hn, ho, hob] at hp; cases hp
      | some q2 =>
        obtain ⟨kw, ci, fs⟩ := q2
        rw [hn, ho, hob] at hp
        dsimp only at hp
        replace hp := wk_bt hp
        obtain ⟨hc, hp⟩ := hp
        simp only [Bool.and_eq_true] at hc
        obtain ⟨c1, c2, c3, c4⟩ := hc
        obtain rfl := Nat.eq_of_beq_eq_true c1
        obtain rfl := Nat.eq_of_beq_eq_true c2
        obtain ⟨aw, vsw, rfl, g1, g2, -⟩ := wk_obj_r hr hob hw
        obtain ⟨a0, cA, d, rfl, h1, h2, h3, h4, h5, h6, h7⟩ := wk_ary_r hr ho ha
        obtain ⟨f, rfl, hf⟩ := (wk_arr_q (by decide)).mp h5
        cases h8 : wk_cl[7]? with
        | none => have := wk_cl7; rw [h8] at this; cases this
        | some rr =>
          have e8 : rr.1 = "EvenSides$Told" := by
            have := wk_cl7
            rw [h8] at this
            exact Option.some.inj this
          rw [wk_put2_eq] at hp
          cases hp
          refine va_astq (r := rr) hx hb (wk_K1 hK.1 h3 h4) hr.1 hr.2.1 hS k 0 kw 7 h1 (by rw [e8]; rfl) g1 h8 (wk_vin i2 i3 (wk_blt c3)) hd (fun H1 locs1 hP1 hD1 hS1 => ?_)
          rw [i3] at hP1 hD1
          have hnew : wk_arr as z ρ 3 n (wk_set2 vs j w) (.inr (.inr (.inr (.inr (va_up f j (some aw)))))) := by
            refine (wk_arr_q (by decide)).mpr ⟨_, rfl, fun j2 v2 hj hv2 => ?_⟩
            rw [wk_at2_set _ _ _ _ c4] at hv2
            by_cases e : j2 = j
            · subst e
              rw [if_pos rfl] at hv2
              cases hv2
              rw [show va_up f j2 (some aw) j2 = some aw by simp [va_up]]
              exact hw
            · rw [if_neg e] at hv2
              rw [show va_up f j (some aw) j2 = f j2 by simp [va_up, e]]
              exact hf j2 v2 hj hv2
          exact kk H1 locs1 [] _ _ hS1 (by rw [List.append_nil]; exact wk_hr_set hr h6 h7 h1 ⟨cA, _, rfl, h3, h4, hnew⟩ hP1 hD1) (by rw [List.append_nil]; exact hs2) wk_same_set
theorem wk_aln_ok (C : wk_cx p s m args meth c cc y nL D A z Lz ρ) (hd : decode cc pc = .ok (.arraylength, 1)) {a : wk_V} (hp : wk_aln Lz a AS AH = some r) (hr : wk_hr D A s as z ρ AH ws H) (hS : va_S A s.heap H locs) (hs : wk_f2 (wk_r as z ρ) (a :: AS) st)
    (kk : wk_go3 p l e R s m args below meth c cells slots Q D A as z ρ pc ls AH ws r) : W p l e R s m args below meth c H locs cells slots Q (F0 m pc ls st) := by
  obtain ⟨hx, hb, -, hown, hts, hK, -, -, hX, hzl, hzA, -⟩ := C
  obtain ⟨y0, st2, rfl, ha, hs2⟩ := wk_f2_cons hs
  unfold wk_aln at hp
  cases hsc : wk_scr a with
  | true =>
    rw [hsc] at hp
    cases hp
    have hz : y0 = .ref (z 0) := by
      unfold wk_scr at hsc
      split at hsc
      · exact ha
      · cases hsc
    subst hz
    refine va_slen hx hb hX.1 hzl hzA hS hd ?_
    exact kk H locs [] ws _ hS (by rw [List.append_nil]; exact hr) (by rw [List.append_nil]; exact ⟨wk_sI_r _, hs2⟩) wk_same_rfl
  | false =>
    rw [hsc] at hp
    simp only [cond_false] at hp
    cases ho : wk_ary AH a with
    | none => rw [ho] at hp; cases hp
    | some q =>
      obtain ⟨k, t, n, vs⟩ := q
      rw [ho] at hp
      cases hp
      obtain ⟨a0, cA, d, rfl, h1, h2, h3, h4, h5, h6, h7⟩ := wk_ary_r hr ho ha
      refine va_alen hx hb (wk_K1 hK.1 h3 h4) hr.1 k 0 h1 rfl rfl hd ?_
      exact kk H locs [] ws _ hS (by rw [List.append_nil]; exact hr) (by rw [List.append_nil]; exact ⟨wk_sI_r _, hs2⟩) wk_same_rfl
end WKAS
