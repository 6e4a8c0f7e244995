/-! ===== the clean logic: what is said of the machine at a place; the rules ===== -/
/-- launch, tables, free addresses, the script's address and length, the script -/
abbrev kc_G : Type := Launch × va_G × (Nat → Prop) × (Nat → Nat) × Nat × (Nat → Int32)
def kc_gD (g : kc_G) : va_G := g.2.1
def kc_gA (g : kc_G) : Nat → Prop := g.2.2.1
def kc_gz (g : kc_G) : Nat → Nat := g.2.2.2.1
def kc_gL (g : kc_G) : Nat := g.2.2.2.2.1
def kc_gs (g : kc_G) : Nat → Int32 := g.2.2.2.2.2
def kc_fix (g : kc_G) (d : Nat) (M : wk_M) (p : Program) (R : Room) (s : State) (m : MethodId) (args : Array Value) (meth : Method) (c : Code) : Prop :=
  wk_cx p s m args meth c (wk_Mb M) (wk_My M) (wk_Ml M) (kc_gD g) (kc_gA g) (kc_gz g) (kc_gL g) (kc_gs g) ∧ meth.sig.returnType = wk_Mr M ∧ meth.locks = false ∧ d + 1 ≤ R.frames ∧ 100 + 200 * d ≤ R.locals ∧ ∀ r ∈ wk_Mx M, ∀ row ∈ r, wk_okx wk_mt wk_mw (wk_My M) (wk_Mb M) row = true
/-- what is returned, and the heap -/
def kc_Bq (g : kc_G) (Q : Option kc_V → kc_H → Prop) (as : List Nat) : Option Value → State → Prop := fun rx t =>
  ∃ (rv : Option kc_V) (h : kc_H) (ws : va_W), Q rv h ∧ wk_rv as (kc_gz g) (kc_gs g) (rv.map kc_e) rx ∧ wk_hr (kc_gD g) (kc_gA g) t as (kc_gz g) (kc_gs g) (kc_A h) ws t.heap
def kc_Ev (g : kc_G) (d : Nat) (M : wk_M) (Q : Option kc_V → kc_H → Prop) (pc : Nat) (AL : kc_L) (AS : List kc_V) (h : kc_H) : Prop :=
  ∀ (p : Program) (e : Env) (R : Room) (s : State) (m : MethodId) (args : Array Value) (below : List Frame) (meth : Method) (c : Code) (as : List Nat), kc_fix g d M p R s m args meth c → ∀ (H : Heap) (locs : List Loc) (ws : va_W) (ls : Array Slot) (lv : List (Nat × Value)) (st : List Value), va_S (kc_gA g) s.heap H locs → wk_hr (kc_gD g) (kc_gA g) s as (kc_gz g) (kc_gs g) (kc_A h) ws H → lv_has ls (wk_Ml M) lv → wk_f2 (wk_rl as (kc_gz g) (kc_gs g)) (kc_el AL) lv → wk_f2 (wk_r as (kc_gz g) (kc_gs g)) (AS.map kc_e) st → W p g.1 e R s m args below meth c H locs 0 0 (MQ below (kc_B (kc_Bq g Q as) (kc_gA g)) args s 0 0 (kc_gA g)) (F0 m pc ls st)
section KCE
variable {g : kc_G} {d : Nat} {M : wk_M} {Q : Option kc_V → kc_H → Prop} {pc : Nat} {AL : kc_L} {AS : List kc_V} {h : kc_H} {i : Instr} {n : Nat} {x : Nat × Nat × Int} {wd : List Nat} {t : Nat} {a : Int}
theorem kc_row {p : Program} {R : Room} {s : State} {m : MethodId} {args : Array Value} {meth : Method} {c : Code} (hF : kc_fix g d M p R s m args meth c) (hf : wk_fetch M pc = some (pc, i, n, x, wd, t, a)) : decode (wk_Mb M) pc = .ok (i, n) ∧ wk_lk i n = true ∧ wk_okw wk_mt (wk_My M) i x wd = true ∧ wk_okt i x pc t a = true ∧ wk_okc wk_mw i x = true := by
  obtain ⟨e0, r0, hr0, hrow0⟩ := wk_fetch_r hf
  have hok := hF.2.2.2.2.2 r0 hr0 _ hrow0
  unfold wk_okx at hok
  simp only [Bool.and_eq_true, decide_eq_true_eq] at hok
  exact hok
set_option maxHeartbeats 1000000 in
theorem kc_pure_ok (hf : wk_fetch M pc = some (pc, i, n, x, wd, t, a)) {P : kc_P} (hp : kc_pure (wk_Ml M) i x.2.2 pc AL AS = some P) (k : kc_Ev g d M Q P.1 P.2.1 P.2.2 h) : kc_Ev g d M Q pc AL AS h := by
  intro p e R s m args below meth c as hF H locs ws ls lv st hS hr hl ha hs
  obtain ⟨hd, hlk, hw, hot, hoc⟩ := kc_row hF hf
  have C := hF.1
  obtain ⟨hx, hb, hml, hown, hts, hK, hA, hname, hX, hz, hzA, hLz⟩ := id C
  have hc1 : ∀ idx, i = .ldc idx ∨ i = .ldc_w idx → (Jvm.Cond.constant (wk_My M).cls idx (Int32.ofInt x.2.2)).before args s = true := by
    intro idx hi
    rcases hi with rfl | rfl
    · match wd, hw with
      | [q1], hw => exact hts _ (wk_has_in hw)
      | [], hw => cases hw
      | _ :: _ :: _, hw => cases hw
    · match wd, hw with
      | [q1], hw => exact hts _ (wk_has_in hw)
      | [], hw => cases hw
      | _ :: _ :: _, hw => cases hw
  have hc2 : ∀ idx, i = .ldc2_w idx → (Jvm.Cond.constantLong (wk_My M).cls idx (Int64.ofInt x.2.2)).before args s = true := by
    rintro idx rfl
    match wd, hw with
    | [q1], hw => exact hts _ (wk_has_in hw)
    | [], hw => cases hw
    | _ :: _ :: _, hw => cases hw
  have hbx : wk_bx (fun _ => 0) ([] : wk_I) := fun j q hj => by simp at hj
  exact wk_pure_ok (ρ := fun _ => 0) (iv := []) hx hb hown hd hlk hc1 hc2 hbx (by decide) (kc_pure_e hp) hl (kc_rhoL ha) (kc_rhoS hs) (fun ls' lv' st' hl' ha' hs' => k p e R s m args below meth c as hF H locs ws ls' lv' st' hS hr hl' (kc_rhoL ha') (kc_rhoS hs'))
theorem kc_same {D : va_G} {A : Nat → Prop} {U : State} {as more : List Nat} {z : Nat → Nat} {ρ : Nat → Int32} {ws : va_W} {H : Heap} {AH : wk_A} {ws0 : va_W} {H0 : Heap} (h0 : wk_hr D A U as z ρ (kc_A h) ws0 H0) (hr : wk_hr D A U (as ++ more) z ρ AH ws H) (hn : AH.1 = kc_N) : more = [] := by
  have e1 := congrArg List.length hr.2.2.2.1
  have e2 := congrArg List.length h0.2.2.2.1
  have e3 := h0.2.2.1
  have e4 := hr.2.2.1
  rw [List.length_map, List.length_append] at e1
  rw [List.length_map] at e2
  have e5 : (kc_A h).1 = kc_N := rfl
  exact List.length_eq_zero_iff.mp (by omega)
/-- a step over the heap, out of the engine's -/
theorem kc_hp_ok (hf : wk_fetch M pc = some (pc, i, n, x, wd, t, a)) {r : wk_H} (hp : wk_hp (kc_gL g) [] i x (AS.map kc_e) (kc_A h) = some r) (hnew : r.2.2.2 = ([], 0, 0))
    (k : ∀ (D : va_G) (A : Nat → Prop) (U : State) (as : List Nat) (z : Nat → Nat) (ws : va_W) (H : Heap) (st : List Value), wk_hr D A U as z (kc_gs g) (wk_wr1 (kc_A h) r.2.2.1 []) ws H → wk_f2 (wk_r as z (kc_gs g)) r.2.1 st → ∃ (AS' : List kc_V) (h' : kc_H), wk_hr D A U as z (kc_gs g) (kc_A h') ws H ∧ wk_f2 (wk_r as z (kc_gs g)) (AS'.map kc_e) st ∧ kc_Ev g d M Q (pc + r.1) AL AS' h') : kc_Ev g d M Q pc AL AS h := by
  intro p e R s m args below meth c as hF H locs ws ls lv st hS hr hl ha hs
  obtain ⟨hd, hlk, hw, hot, hoc⟩ := kc_row hF hf
  have hbx : wk_bx (kc_gs g) ([] : wk_I) := fun j q hj => by simp at hj
  obtain ⟨dd, AS2, w, nw, dc, ds⟩ := r
  cases hnew
  refine wk_hp_ok hF.1 hbx hd hlk hw hp hl (Nat.le_trans (by omega) hF.2.2.2.1) (Nat.le_trans (by omega) hF.2.2.2.2.1) rfl (Nat.zero_le _) (Nat.zero_le _) hr hS hs (fun H' locs' more ws' st' hS' hr' hs' hsame => ?_)
  have hmore : more = [] := by
    refine kc_same hr hr' ?_
    cases w <;> rfl
  subst hmore
  rw [List.append_nil] at hr' hs'
  obtain ⟨AS', h', g1, g2, g3⟩ := k _ _ _ _ _ _ _ _ hr' hs'
  exact g3 p e R s m args below meth c as hF H' locs' ws' ls lv st' hS' g1 hl ha g2
end KCE
