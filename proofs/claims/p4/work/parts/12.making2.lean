/-! ===== new arrays, Object's constructor, arraycopy ===== -/
theorem wk_as_new {D : va_G} {A : Nat → Prop} {U : State} {as : List Nat} {z : Nat → Nat} {ρ : Nat → Int32} {AH : wk_A} {ws : va_W} {H : Heap} (hr : wk_hr D A U as z ρ AH ws H) (a : Nat) (more : List Nat) : wk_r (as ++ a :: more) z ρ (.inr (.inr (.inl (some AH.1)))) (.ref a) := by
  refine ⟨a, ?_, rfl⟩
  have hl : as.length = AH.1 := by rw [← hr.2.2.2.1, List.length_map]; exact hr.2.2.1
  rw [List.getElem?_append_right (by omega), hl, Nat.sub_self]
  rfl
theorem wk_outer (c : ClassId) (N h0 : Nat) : ∀ i : Nat, Jvm.Free.Multi.outerC c N h0 i = arrV c N (fun j => va_rf (if j < i then some (h0 + 1 + j) else none))
  | 0 => by
    show ({ cls := c, slots := Array.replicate N .null, vm := .none } : Cell) = _
    rw [arrV_new]
    rfl
  | i + 1 => by
    show (Jvm.Free.Multi.outerC c N h0 i).setSlot i (.ref (h0 + 1 + i)) = _
    rw [wk_outer c N h0 i, arrV_store]
    congr 1
    funext j
    unfold updV
    by_cases e : j = i
    · subst e
      rw [if_pos rfl, if_pos (Nat.lt_succ_self _)]
      rfl
    · rw [if_neg e]
      by_cases h : j < i
      · show va_rf (if j < i then some (h0 + 1 + j) else none) = _
        rw [if_pos h, if_pos (Nat.lt_succ_of_lt h)]
      · show va_rf (if j < i then some (h0 + 1 + j) else none) = _
        rw [if_neg h, if_neg (by omega)]
theorem wk_cat_r {as : List Nat} {z : Nat → Nat} {ρ : Nat → Int32} : ∀ {l : List wk_V} {m : List Value}, wk_f2 (wk_r as z ρ) l m → wk_cat l = (m.map fun v => v.category).sum
  | [], [], _ => rfl
  | [], _ :: _, h => h.elim
  | _ :: _, [], h => h.elim
  | v :: l, x :: m, h => by
    show (if wk_c2 v = true then 2 else 1) + wk_cat l = _
    rw [wk_cat_r h.2, wk_c2_r h.1]
    simp only [List.map_cons, List.sum_cons]
    rcases lv_cat x with e | e <;> rw [e] <;> rfl
section WKN2
variable {p : Program} {l : Launch} {e : Env} {R : Room} {s : State} {m : MethodId} {args : Array Value} {below : List Frame} {meth : Method} {c : Code} {H : Heap} {locs : List Loc} {cells slots : Nat} {Q : State → Prop}
variable {cc : ByteArray} {pc : Nat} {ls : Array Slot} {y : MethodName} {nL Lz : Nat} {z : Nat → Nat} {D : va_G} {A : Nat → Prop} {as : List Nat} {ρ : Nat → Int32} {iv : wk_I} {AS : List wk_V} {AH : wk_A} {ws : va_W} {st : List Value} {x : Nat × Nat × Int} {r : wk_H} {mt : Nat → Option wk_M}
theorem wk_nwa_ok (C : wk_cx p s m args meth c cc y nL D A z Lz ρ) (hbx : wk_bx ρ iv) {ty : ArrayType} {p1 : Nat} (hd : decode cc pc = .ok (.newarray ty, 2)) (hw : wk_okw mt y (.newarray ty) x [p1] = true) {v : wk_V} (hp : wk_nwa iv ty v AS AH = some r) (hroom : wk_room AH r.2.2.2.1 AH.1 = true) (hcells : cells + r.2.2.2.2.1 ≤ R.cells) (hslots : slots + r.2.2.2.2.2 ≤ R.slots) (hr : wk_hr D A s as z ρ AH ws H) (hS : va_S A s.heap H locs) (hs : wk_f2 (wk_r as z ρ) (v :: AS) st)
    (kk : wk_go3 p l e R s m args below meth c cells slots Q D A as z ρ pc ls AH ws r) : W p l e R s m args below meth c H locs cells slots Q (F0 m pc ls st) := by
  obtain ⟨hx, hb, -, hown, hts, hK, hA, -⟩ := C
  obtain ⟨y0, st2, rfl, hv, hs2⟩ := wk_f2_cons hs
  have hw : wk_has p1 (.arrayClass (newarray.typeOf ty)) = true := hw
  unfold wk_nwa at hp
  cases hn : wk_nx iv v with
  | none => rw [hn] at hp; cases hp
  | some n =>
    obtain ⟨i, rfl, i1, i2, i3⟩ := wk_nx_r hbx hn hv
    rw [hn] at hp
    cases ty with
    | int =>
      dsimp only at hp
      replace hp := wk_bt hp
      obtain ⟨hc, hp⟩ := hp
      have hc := Nat.le_of_ble_eq_true hc
      cases hp
      refine va_newa (a0 := (n, .inl (fun _ => 0))) (N' := n) (ty := .int) hx hb (hts _ (wk_has_in hw)) rfl hK.1 hr.1 hr.2.1 hS hA (fun cA => rfl) i2 i3 (by show n * 4 ≤ _; omega) hcells hslots hd (fun a cA H1 hK1 hP1 hD1 hS1 => ?_)
      have hk := hK1.2 0 (cA, .int) rfl
      exact kk H1 locs [a] (ws ++ ([(a, .inl (cA, n, .inl (fun _ => 0)))] : va_W)) (.ref a :: st2) hS1 (wk_hr_pushes (es := [(a, .inl (cA, n, .inl (fun _ => 0)))]) hr hroom ⟨⟨cA, _, rfl, hk.1, hk.2, wk_rep_i (by decide)⟩, trivial⟩ hP1 hD1) ⟨wk_as_new hr a [], wk_f2_mono (fun _ _ q => wk_r_mono [a] q) hs2⟩ wk_same_app
    | boolean =>
      dsimp only at hp
      replace hp := wk_bt hp
      obtain ⟨hc, hp⟩ := hp
      have hc := Nat.le_of_ble_eq_true hc
      cases hp
      refine va_newa (a0 := (n, .inl (fun _ => 0))) (N' := n) (ty := .boolean) hx hb (hts _ (wk_has_in hw)) rfl hK.1 hr.1 hr.2.1 hS hA (fun cA => rfl) i2 i3 (by show n * 1 ≤ _; omega) hcells hslots hd (fun a cA H1 hK1 hP1 hD1 hS1 => ?_)
      have hk := hK1.2 0 (cA, .boolean) rfl
      exact kk H1 locs [a] (ws ++ ([(a, .inl (cA, n, .inl (fun _ => 0)))] : va_W)) (.ref a :: st2) hS1 (wk_hr_pushes (es := [(a, .inl (cA, n, .inl (fun _ => 0)))]) hr hroom ⟨⟨cA, _, rfl, hk.1, hk.2, wk_rep_i (by decide)⟩, trivial⟩ hP1 hD1) ⟨wk_as_new hr a [], wk_f2_mono (fun _ _ q => wk_r_mono [a] q) hs2⟩ wk_same_app
    | _ => cases hp
theorem wk_nwq_ok (C : wk_cx p s m args meth c cc y nL D A z Lz ρ) (hbx : wk_bx ρ iv) {idx p1 : Nat} (hd : decode cc pc = .ok (.anewarray idx, 3)) (hw : wk_okw mt y (.anewarray idx) x [p1] = true) {v : wk_V} (hp : wk_nwq iv v AS AH = some r) (hroom : wk_room AH r.2.2.2.1 AH.1 = true) (hcells : cells + r.2.2.2.2.1 ≤ R.cells) (hslots : slots + r.2.2.2.2.2 ≤ R.slots) (hr : wk_hr D A s as z ρ AH ws H) (hS : va_S A s.heap H locs) (hs : wk_f2 (wk_r as z ρ) (v :: AS) st)
    (kk : wk_go3 p l e R s m args below meth c cells slots Q D A as z ρ pc ls AH ws r) : W p l e R s m args below meth c H locs cells slots Q (F0 m pc ls st) := by
  obtain ⟨hx, hb, -, hown, hts, hK, hA, -⟩ := C
  obtain ⟨y0, st2, rfl, hv, hs2⟩ := wk_f2_cons hs
  have hw : wk_has p1 (.classLink y.cls idx "EvenSides$Told") = true := hw
  unfold wk_nwq at hp
  cases hn : wk_nx iv v with
  | none => rw [hn] at hp; cases hp
  | some n =>
    obtain ⟨i, rfl, i1, i2, i3⟩ := wk_nx_r hbx hn hv
    rw [hn] at hp
    dsimp only at hp
    replace hp := wk_bt hp
    obtain ⟨hc, hp⟩ := hp
    have hc := Nat.le_of_ble_eq_true hc
    cases hp
    refine va_newq (N' := n) hx hb hown (hts _ (wk_has_in hw)) hK.2.2.1 hK.1 hr.1 hr.2.1 hS hA i2 i3 (by omega) hcells hslots hd (fun a cA H1 hK1 hP1 hD1 hS1 => ?_)
    have hk := hK1.2 0 (cA, .object "EvenSides$Told") rfl
    exact kk H1 locs [a] (ws ++ ([(a, .inl (cA, n, .inr (.inr (.inr (.inr (fun _ => none))))))] : va_W)) (.ref a :: st2) hS1 (wk_hr_pushes (es := [(a, .inl (cA, n, .inr (.inr (.inr (.inr (fun _ => none))))))]) hr hroom ⟨⟨cA, _, rfl, hk.1, hk.2, wk_rep_q (by decide)⟩, trivial⟩ hP1 hD1) ⟨wk_as_new hr a [], wk_f2_mono (fun _ _ q => wk_r_mono [a] q) hs2⟩ wk_same_app
theorem wk_oin_ok (C : wk_cx p s m args meth c cc y nL D A z Lz ρ) {i : Instr} {n : Nat} {wd : List Nat} {lv : List (Nat × Value)} (hd : decode cc pc = .ok (i, n)) (hlk : wk_lk i n = true) (hw : wk_okw mt y i x wd = true) (hp : wk_oin i x AS = some r) (hl : lv_has ls nL lv) (hfr : 1 ≤ R.frames) (hlo : 100 ≤ R.locals) (hr : wk_hr D A s as z ρ AH ws H) (hS : va_S A s.heap H locs) (hs : wk_f2 (wk_r as z ρ) AS st)
    (kk : wk_go3 p l e R s m args below meth c cells slots Q D A as z ρ pc ls AH ws r) : W p l e R s m args below meth c H locs cells slots Q (F0 m pc ls st) := by
  obtain ⟨hx, hb, hml, hown, hts, hK, hA, -⟩ := C
  unfold wk_oin at hp
  split at hp
  · rename_i idx v AS' e4
    obtain ⟨y0, st2, rfl, hv, hs2⟩ := wk_f2_cons hs
    cases hg : (wk_isr v && Nat.ble (wk_cat AS') 8) with
    | false => rw [hg] at hp; cases hp
    | true =>
      rw [hg] at hp
      cases hp
      rw [Bool.and_eq_true] at hg
      obtain ⟨a, rfl⟩ := wk_isr_r hg.1 hv
      obtain rfl := Nat.eq_of_beq_eq_true hlk
      have hcat : (st2.map fun v => v.category).sum ≤ 8 := by rw [← wk_cat_r hs2]; exact Nat.le_of_ble_eq_true hg.2
      match wd, hw with
      | [q1], hw =>
        have hw : (Nat.beq x.1 2 && _) = true := hw
        rw [Bool.and_eq_true, e4] at hw
        exact absurd hw.1 (by decide)
      | [q1, q2, q3], hw =>
        have hw : (Nat.beq x.1 4 && (wk_has q1 (.methodLink y.cls idx Lib.objectInit) && (wk_has q2 (.instanceMethod Lib.objectInit) && wk_has q3 (.code Lib.objectInit ⟨#[0xb1]⟩ 1 none)))) = true := hw
        simp only [Bool.and_eq_true] at hw
        obtain ⟨-, w1, w2, w3⟩ := hw
        refine W.objInit hx hb hown (hts _ (wk_has_in w1)) (hts _ (wk_has_in w2)) (hts _ (wk_has_in w3)) rfl (hl.1.trans hml.symm) rfl hd hfr ?_ ?_
        · show 2 * 0 + _ + 12 ≤ R.locals
          omega
        · exact kk H locs [] ws st2 hS (by rw [List.append_nil]; exact hr) (by rw [List.append_nil]; exact hs2) wk_same_rfl
      | [], hw => cases hw
      | [_, _], hw => cases hw
      | _ :: _ :: _ :: _ :: _, hw => cases hw
  · cases hp
end WKN2
