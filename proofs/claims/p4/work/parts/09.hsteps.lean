/-! ===== the engine's steps on the heap, over the machine ===== -/
def wk_psh : List wk_C → wk_A → wk_A
  | [], AH => AH
  | c :: l, AH => wk_psh l (AH.1 + 1, wk_set2 AH.2 AH.1 c)
theorem wk_push_eq {β : Type} : ∀ (l : List wk_C) (AH : wk_A) (k : wk_A → β), wk_push l AH k = k (wk_psh l AH)
  | [], _, _ => rfl
  | c :: l, AH, k => by
    show wk_fN AH.1 (fun n => wk_put2 AH.2 n c (fun r => wk_push l (n + 1, r) k)) = _
    rw [wk_fN_eq, wk_put2_eq, wk_push_eq l]
    rfl
def wk_wr1 (AH : wk_A) (w : Option (Nat × wk_C)) (nw : List wk_C) : wk_A := match w with
  | some (n, c) => (AH.1, wk_set2 AH.2 n c)
  | none => wk_psh nw AH
theorem wk_wr_eq {β : Type} (AH : wk_A) (w : Option (Nat × wk_C)) (nw : List wk_C) (k : wk_A → β) : wk_wr AH w nw k = k (wk_wr1 AH w nw) := by
  cases w with
  | none => exact wk_push_eq nw AH k
  | some q => exact wk_put2_eq _ _ _ _
/-- the cells that weren't written are the same -/
def wk_same (ws ws' : va_W) (w : Option (Nat × wk_C)) : Prop := ∀ j : Nat, j < ws.length → (∀ c, w ≠ some (j, c)) → ws'[j]? = ws[j]?
theorem wk_same_rfl {ws : va_W} {w : Option (Nat × wk_C)} : wk_same ws ws w := fun _ _ _ => rfl
theorem wk_same_set {ws : va_W} {k : Nat} {c : wk_C} {q : Nat × va_E} : wk_same ws (ws.set k q) (some (k, c)) := fun j _ h => by
  rw [List.getElem?_set_ne]
  intro e
  subst e
  exact h c rfl
theorem wk_same_app {ws es : va_W} {w : Option (Nat × wk_C)} : wk_same ws (ws ++ es) w := fun j hj _ => List.getElem?_append_left hj
/-- a frame -/
def wk_cx (p : Program) (s : State) (m : MethodId) (args : Array Value) (meth : Method) (c : Code) (cc : ByteArray) (y : MethodName) (nL : Nat) (D : va_G) (A : Nat → Prop) (z : Nat → Nat) (Lz : Nat) (ρ : Nat → Int32) : Prop :=
  p.tables.exec = Jvm.exec ∧ c.code = cc ∧ c.maxLocals = nL ∧ s.vm.findClass y.cls = some m.cls ∧ (∀ w ∈ wk_tbl, w.before args s = true) ∧ wk_kk D s ∧ (∀ q, s.heap.size ≤ q → A q) ∧ meth.name = y.name ∧ wk_Xs z Lz ρ A s s.heap ∧ z 0 < s.heap.size ∧ ¬ A (z 0) ∧ Lz < 2 ^ 31
section WKHS
variable {p : Program} {l : Launch} {e : Env} {R : Room} {s : State} {m : MethodId} {args : Array Value} {below : List Frame} {meth : Method} {c : Code} {H : Heap} {locs : List Loc} {cells slots : Nat} {Q : State → Prop}
variable {cc : ByteArray} {pc : Nat} {ls : Array Slot} {y : MethodName} {nL Lz : Nat} {z : Nat → Nat} {D : va_G} {A : Nat → Prop} {as : List Nat} {ρ : Nat → Int32} {iv : wk_I} {AS : List wk_V} {AH : wk_A} {ws : va_W} {st : List Value} {x : Nat × Nat × Int} {r : wk_H}
abbrev wk_go3 (p : Program) (l : Launch) (e : Env) (R : Room) (s : State) (m : MethodId) (args : Array Value) (below : List Frame) (meth : Method) (c : Code) (cells slots : Nat) (Q : State → Prop) (D : va_G) (A : Nat → Prop) (as : List Nat) (z : Nat → Nat) (ρ : Nat → Int32) (pc : Nat) (ls : Array Slot) (AH : wk_A) (ws : va_W) (r : wk_H) : Prop :=
  ∀ (H' : Heap) (locs' : List Loc) (more : List Nat) (ws' : va_W) (st' : List Value), va_S A s.heap H' locs' → wk_hr D A s (as ++ more) z ρ (wk_wr1 AH r.2.2.1 r.2.2.2.1) ws' H' → wk_f2 (wk_r (as ++ more) z ρ) r.2.1 st' → wk_same ws ws' r.2.2.1 → W p l e R s m args below meth c H' locs' (cells + r.2.2.2.2.1) (slots + r.2.2.2.2.2) Q (F0 m (pc + r.1) ls st')
theorem wk_getf_ok (C : wk_cx p s m args meth c cc y nL D A z Lz ρ) {idx p1 : Nat} {mt : Nat → Option wk_M} (hd : decode cc pc = .ok (.getfield idx, 3)) (hw : wk_okw mt y (.getfield idx) x [p1] = true) {v : wk_V} (hp : wk_getf x v AS AH = some r) (hr : wk_hr D A s as z ρ AH ws H) (hS : va_S A s.heap H locs) (hs : wk_f2 (wk_r as z ρ) (v :: AS) st)
    (kk : wk_go3 p l e R s m args below meth c cells slots Q D A as z ρ pc ls AH ws r) : W p l e R s m args below meth c H locs cells slots Q (F0 m pc ls st) := by
  obtain ⟨hx, hb, -, hown, hts, hK, -⟩ := C
  obtain ⟨y0, st1, rfl, hv, hs1⟩ := wk_f2_cons hs
  have hw : (match wk_fl[x.1]? with
    | some q => Nat.blt x.2.1 q.2.length && wk_has p1 (.fieldLink y.cls idx (wk_T q x.2.1).1 (wk_T q x.2.1).2.1 (wk_T q x.2.1).2.2.1)
    | none => false) = true := hw
  unfold wk_getf at hp
  cases ho : wk_obj AH v with
  | none => rw [ho] at hp; cases hp
  | some q =>
    obtain ⟨k, ci, fs⟩ := q
    rw [ho] at hp
    simp only at hp
    obtain ⟨a, vs, rfl, h1, h2, h3, h4, h5⟩ := wk_obj_r hr ho hv
    cases hc : Nat.beq ci x.1 with
    | false => rw [hc] at hp; cases hp
    | true =>
      rw [hc] at hp
      obtain rfl := Nat.eq_of_beq_eq_true hc
      cases ha : wk_at fs x.2.1 with
      | none => rw [ha] at hp; cases hp
      | some w =>
        rw [ha] at hp
        cases hp
        rw [wk_at_eq] at ha
        obtain ⟨b, hb1, hb2⟩ := wk_f2_at h3 _ _ ha
        cases hq : wk_fl[x.1]? with
        | none => rw [hq] at hw; cases hw
        | some q =>
          rw [hq] at hw
          simp only [Bool.and_eq_true] at hw
          have hcl : wk_cl[x.1]? = some (q.1, wk_T q, q.2.length) := by unfold wk_cl; rw [List.getElem?_map, hq]; rfl
          refine va_get (ci := x.1) hx hb hts (wk_cl_in hcl) hown hK.1 hr.1 k h1 hcl x.2.1 (wk_blt hw.1) (hts _ (wk_has_in hw.2)) (fun _ h => h) hb1 hd ?_
          have k0 := kk H locs [] ws (b :: st1) hS (by rw [List.append_nil]; exact hr) (by rw [List.append_nil]; exact ⟨hb2, hs1⟩) wk_same_rfl
          exact k0
theorem wk_fit_r (hb : wk_bx ρ iv) {ty : FieldType} {v : wk_V} {x : Value} (h : wk_fit iv (wk_tyc ty) v = true) (hv : wk_r as z ρ v x) : narrow ty x = x ∧ fits ty x = true := by
  cases ty with
  | int =>
    obtain ⟨q, hq⟩ := Option.isSome_iff_exists.mp (show (wk_gi iv v).isSome = true from h)
    obtain ⟨i, rfl, -⟩ := wk_gi_r hb hq hv
    exact ⟨rfl, rfl⟩
  | boolean =>
    have h : (match wk_gi iv v with
      | some (a, b) => decide (0 ≤ a) && decide (b ≤ 1)
      | none => false) = true := h
    cases hg : wk_gi iv v with
    | none => rw [hg] at h; cases h
    | some q =>
      obtain ⟨a, b⟩ := q
      rw [hg] at h
      simp only [Bool.and_eq_true, decide_eq_true_eq] at h
      obtain ⟨i, rfl, h1, h2⟩ := wk_gi_r hb hg hv
      simp only at h1 h2
      have : i.toInt = 0 ∨ i.toInt = 1 := by omega
      rcases this with h0 | h0
      · rw [wk_i32 h0]
        exact ⟨rfl, rfl⟩
      · rw [wk_i32 h0]
        exact ⟨rfl, rfl⟩
  | long =>
    obtain ⟨q, hq⟩ := Option.isSome_iff_exists.mp (show (wk_gj iv v).isSome = true from h)
    obtain ⟨i, rfl, -⟩ := wk_gj_r hb hq hv
    exact ⟨rfl, rfl⟩
  | object C =>
    rcases v with q | q | (_ | n) | ⟨t, i⟩
    · cases h
    · cases h
    · cases hv; exact ⟨rfl, rfl⟩
    · obtain ⟨a, -, rfl⟩ := hv; exact ⟨rfl, rfl⟩
    · cases h
  | array C =>
    rcases v with q | q | (_ | n) | ⟨t, i⟩
    · cases h
    · cases h
    · cases hv; exact ⟨rfl, rfl⟩
    · obtain ⟨a, -, rfl⟩ := hv; exact ⟨rfl, rfl⟩
    · cases h
  | _ => cases h
theorem wk_putf_ok (C : wk_cx p s m args meth c cc y nL D A z Lz ρ) (hbx : wk_bx ρ iv) {idx p1 : Nat} {mt : Nat → Option wk_M} (hd : decode cc pc = .ok (.putfield idx, 3)) (hw : wk_okw mt y (.putfield idx) x [p1] = true) {w v : wk_V} (hp : wk_putf iv x w v AS AH = some r) (hr : wk_hr D A s as z ρ AH ws H) (hS : va_S A s.heap H locs) (hs : wk_f2 (wk_r as z ρ) (w :: v :: AS) st)
    (kk : wk_go3 p l e R s m args below meth c cells slots Q D A as z ρ pc ls AH ws r) : W p l e R s m args below meth c H locs cells slots Q (F0 m pc ls st) := by
  obtain ⟨hx, hb, -, hown, hts, hK, -, hname, -⟩ := C
  obtain ⟨y1, st1, rfl, hvw, hs1⟩ := wk_f2_cons hs
  obtain ⟨y0, st2, rfl, hv, hs2⟩ := wk_f2_cons hs1
  have hw : (match wk_fl[x.1]? with
    | some q => Nat.blt x.2.1 q.2.length && (wk_has p1 (.fieldLink y.cls idx (wk_T q x.2.1).1 (wk_T q x.2.1).2.1 (wk_T q x.2.1).2.2.1) && ((!(wk_T q x.2.1).2.2.2 || (decide (y.name = "<init>") && decide ((wk_T q x.2.1).1 = y.cls))) && decide (((wk_fc[x.1]?).bind fun r => r[x.2.1]?) = some x.2.2.toNat)))
    | none => false) = true := hw
  unfold wk_putf at hp
  cases ho : wk_obj AH v with
  | none => rw [ho] at hp; cases hp
  | some q =>
    obtain ⟨k, ci, fs⟩ := q
    rw [ho] at hp
    simp only at hp
    obtain ⟨a, vs, rfl, h1, h2, h3, h4, h5⟩ := wk_obj_r hr ho hv
    cases hc : (Nat.beq ci x.1 && ((wk_at fs x.2.1).isSome && wk_fit iv x.2.2.toNat w)) with
    | false => rw [hc] at hp; cases hp
    | true =>
      rw [hc] at hp
      simp only [Bool.and_eq_true] at hc
      obtain ⟨c1, c2, c3⟩ := hc
      obtain rfl := Nat.eq_of_beq_eq_true c1
      obtain ⟨w0, hw0⟩ := Option.isSome_iff_exists.mp c2
      rw [wk_at_eq] at hw0
      obtain ⟨b, hb1, -⟩ := wk_f2_at h3 _ _ hw0
      have hl : x.2.1 < vs.length := (List.getElem?_eq_some_iff.mp hb1).1
      simp only [cond_true, wk_put_eq] at hp
      cases hp
      cases hq : wk_fl[x.1]? with
      | none => rw [hq] at hw; cases hw
      | some q =>
        rw [hq] at hw
        simp only [Bool.and_eq_true, decide_eq_true_eq, Bool.or_eq_true] at hw
        obtain ⟨w1, w2, w3, w4⟩ := hw
        have hcl : wk_cl[x.1]? = some (q.1, wk_T q, q.2.length) := by unfold wk_cl; rw [List.getElem?_map, hq]; rfl
        obtain ⟨t1, t2⟩ := wk_ft_at hq (wk_blt w1)
        have et : wk_tyc (wk_ft x.1 x.2.1) = x.2.2.toNat := Option.some.inj (t2.symm.trans w4)
        rw [← et] at c3
        obtain ⟨n1, n2⟩ := wk_fit_r hbx c3 hvw
        have fin : ∀ (H1 : Heap) (locs1 : List Loc), va_P D wk_cl (ws.set k (a, .inr (x.1, vs.set x.2.1 y1))) H1 → va_D A (ws.set k (a, .inr (x.1, vs.set x.2.1 y1))) → va_S A s.heap H1 locs1 → W p l e R s m args below meth c H1 locs1 cells slots Q (F0 m (pc + 3) ls st2) := fun H1 locs1 hP1 hD1 hS1 =>
          kk H1 locs1 [] _ st2 hS1 (by rw [List.append_nil]; exact wk_hr_set hr h4 h5 h1 (Or.inr ⟨_, rfl, wk_f2_set h3 _ _ _ hvw⟩) hP1 hD1) (by rw [List.append_nil]; exact hs2) wk_same_set
        cases hf : (wk_T q x.2.1).2.2.2 with
        | false => exact va_put (ci := x.1) hx hb hts (wk_cl_in hcl) (wk_ft x.1) (fun j hj => (wk_ft_at hq hj).1) (wk_nm_at hq) hown hK.1 hr.1 hr.2.1 hS k h1 hcl x.2.1 (wk_blt w1) (hts _ (wk_has_in w2)) (fun _ h => h) hf t1 n1 n2 hl hd fin
        | true =>
          rw [hf] at w3
          have w3 := w3.resolve_left (by decide)
          exact va_putF (ci := x.1) hx hb hts (wk_cl_in hcl) (wk_ft x.1) (fun j hj => (wk_ft_at hq hj).1) (wk_nm_at hq) hown hK.1 hr.1 hr.2.1 hS k h1 hcl x.2.1 (wk_blt w1) (hts _ (wk_has_in w2)) (fun _ h => h) hf (by rw [hname]; exact w3.1) w3.2 t1 n1 n2 hl hd fin
end WKHS
