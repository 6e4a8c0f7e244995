/-! ===== the law's body: cells have been made ===== -/
def kL_Ev (g : kc_G) (M : wk_M) (p : Program) (e : Env) (R : Room) (s : State) (m : MethodId) (args : Array Value) (below : List Frame) (meth : Method) (c : Code) (as : List Nat) (nc ns : Nat) (Z : State → Prop) (pc : Nat) (AL : kc_L) (AS : List kc_V) (h : kc_H) : Prop :=
  ∀ (H : Heap) (locs : List Loc) (ws : va_W) (ls : Array Slot) (lv : List (Nat × Value)) (st : List Value), va_S (kc_gA g) s.heap H locs → wk_hr (kc_gD g) (kc_gA g) s as (kc_gz g) (kc_gs g) (kc_A h) ws H → lv_has ls (wk_Ml M) lv → wk_f2 (wk_rl as (kc_gz g) (kc_gs g)) (kc_el AL) lv → wk_f2 (wk_r as (kc_gz g) (kc_gs g)) (AS.map kc_e) st → W p g.1 e R s m args below meth c H locs nc ns Z (F0 m pc ls st)
section KLE
variable {g : kc_G} {d : Nat} {M : wk_M} {p : Program} {e : Env} {R : Room} {s : State} {m : MethodId} {args : Array Value} {below : List Frame} {meth : Method} {c : Code} {as : List Nat} {nc ns : Nat} {Z : State → Prop} {pc : Nat} {AL : kc_L} {AS : List kc_V} {h : kc_H} {i : Instr} {n : Nat} {x : Nat × Nat × Int} {wd : List Nat} {t : Nat} {a : Int}
set_option maxHeartbeats 1000000 in
theorem kL_pure (hF : kc_fix g d M p R s m args meth c) (hf : wk_fetch M pc = some (pc, i, n, x, wd, t, a)) {P : kc_P} (hp : kc_pure (wk_Ml M) i x.2.2 pc AL AS = some P) (k : kL_Ev g M p e R s m args below meth c as nc ns Z P.1 P.2.1 P.2.2 h) : kL_Ev g M p e R s m args below meth c as nc ns Z pc AL AS h := by
  intro H locs ws ls lv st hS hr hl ha hs
  obtain ⟨hd, hlk, hw, hot, hoc⟩ := kc_row hF hf
  have C := hF.1
  obtain ⟨hx, hb, hml, hown, hts, hK, hA, hname, hX, hz, hzA, hLz⟩ := id C
  have hc1 : ∀ idx, i = .ldc idx ∨ i = .ldc_w idx → (Jvm.Cond.constant (wk_My M).cls idx (Int32.ofInt x.2.2)).before args s = true := by
    intro idx hi
    rcases hi with rfl | rfl
    · match wd, hw with
      | [q1], hw => exact hts _ (wk_has_in hw)
      | [], hw => cases hw
      | _ :: _ :: _, hw => cases hw
    · match wd, hw with
      | [q1], hw => exact hts _ (wk_has_in hw)
      | [], hw => cases hw
      | _ :: _ :: _, hw => cases hw
  have hc2 : ∀ idx, i = .ldc2_w idx → (Jvm.Cond.constantLong (wk_My M).cls idx (Int64.ofInt x.2.2)).before args s = true := by
    rintro idx rfl
    match wd, hw with
    | [q1], hw => exact hts _ (wk_has_in hw)
    | [], hw => cases hw
    | _ :: _ :: _, hw => cases hw
  have hbx : wk_bx (fun _ => 0) ([] : wk_I) := fun j q hj => by simp at hj
  exact wk_pure_ok (ρ := fun _ => 0) (iv := []) hx hb hown hd hlk hc1 hc2 hbx (by decide) (kc_pure_e hp) hl (kc_rhoL ha) (kc_rhoS hs) (fun ls' lv' st' hl' ha' hs' => k H locs ws ls' lv' st' hS hr hl' (kc_rhoL ha') (kc_rhoS hs'))
theorem kL_hp (hF : kc_fix g d M p R s m args meth c) (hnc : nc ≤ R.cells) (hns : ns ≤ R.slots) (hf : wk_fetch M pc = some (pc, i, n, x, wd, t, a)) {dd : Nat} {AS2 : List wk_V} (hp : wk_hp (kc_gL g) [] i x (AS.map kc_e) (kc_A h) = some (dd, AS2, none, [], 0, 0)) {AS' : List kc_V}
    (hA2 : ∀ st : List Value, wk_f2 (wk_r as (kc_gz g) (kc_gs g)) AS2 st → wk_f2 (wk_r as (kc_gz g) (kc_gs g)) (AS'.map kc_e) st) (k : kL_Ev g M p e R s m args below meth c as nc ns Z (pc + dd) AL AS' h) : kL_Ev g M p e R s m args below meth c as nc ns Z pc AL AS h := by
  intro H locs ws ls lv st hS hr hl ha hs
  obtain ⟨hd, hlk, hw, hot, hoc⟩ := kc_row hF hf
  have hbx : wk_bx (kc_gs g) ([] : wk_I) := fun j q hj => by simp at hj
  refine wk_hp_ok hF.1 hbx hd hlk hw hp hl (Nat.le_trans (by omega) hF.2.2.2.1) (Nat.le_trans (by omega) hF.2.2.2.2.1) rfl (by omega) (by omega) hr hS hs (fun H' locs' more ws' st' hS' hr' hs' hsame => ?_)
  have hmore : more = [] := kc_same hr hr' rfl
  subst hmore
  rw [List.append_nil] at hr' hs'
  exact k H' locs' ws' ls lv st' hS' hr' hl ha (hA2 st' hs')
theorem kL_call (hF : kc_fix g d M p R s m args meth c) (hnc : nc ≤ R.cells) (hns : ns ≤ R.slots) (hf : wk_fetch M pc = some (pc, i, n, x, wd, t, a)) {M2 : wk_M} {av r : List kc_V} {Q2 : Option kc_V → kc_H → Prop} (hc : kc_cl i x AS = some (M2, av, r)) (hCon : kc_Con g d x.2.1 av h Q2) (k : ∀ rv h', Q2 rv h' → kL_Ev g M p e R s m args below meth c as nc ns Z (pc + 3) AL (rv.toList ++ r) h') : kL_Ev g M p e R s m args below meth c as nc ns Z pc AL AS h := by
  intro H locs ws ls lv st hS hr hl ha hs
  obtain ⟨hd, hlk, hw, hot, hoc⟩ := kc_row hF hf
  obtain ⟨M3, m1, m2, m3, d2, hd2, hMet⟩ := hCon
  cases (kc_cl_m hc).symm.trans m1
  have key := kc_call_ok (l := g.1) (e := e) (R := R) (below := below) (cells := nc) (slots := ns) (Q := Z) (d := d2) (B := kc_Bq g Q2 as) (AH := kc_A h) hF.1 wk_mt_ok hd hlk hw hoc (kc_cl_e hc) hl (fun vals hv => by rw [m2, m3]; exact hMet as ws vals hv) (by have := hF.2.2.2.1; omega) (by have := hF.2.2.2.2.1; omega) (by rw [m2]; exact hnc) (by rw [m3]; exact hns) hr hS hs
  rw [m2, m3] at key
  refine key (fun rx t locs1 rest hrest hB hal hS1 => ?_)
  obtain ⟨rv, h1, ws1, q1, q2, q3⟩ := hB
  refine k rv h1 q1 t.heap locs1 ws1 ls lv _ hS1 (wk_hr_moved hal q3) hl ha ?_
  cases rv with
  | none =>
    cases rx with
    | none => exact hrest
    | some _ => exact q2.elim
  | some v =>
    cases rx with
    | none => exact q2.elim
    | some xv => exact ⟨q2, hrest⟩
theorem kL_pop2 (hF : kc_fix g d M p R s m args meth c) {y : Int64} (hd : decode (wk_Mb M) pc = .ok (.pop2, 1)) (k : kL_Ev g M p e R s m args below meth c as nc ns Z (pc + 1) AL AS h) : kL_Ev g M p e R s m args below meth c as nc ns Z pc AL (.inr (.inl y) :: AS) h := by
  intro H locs ws ls lv st hS hr hl ha hs
  obtain ⟨hx, hb, hml, hown, hts, hK, hA, hname, hX, hz, hzA, hLz⟩ := hF.1
  obtain ⟨y1, st0, rfl, hj1, hs0⟩ := wk_f2_cons hs
  obtain ⟨j1, rfl, a1, a2⟩ := hj1
  exact lv_pop2_2 hx hb hd rfl (k H locs ws ls lv _ hS hr hl ha hs0)
theorem kL_sc (hF : kc_fix g d M p R s m args meth c) (hnc : nc ≤ R.cells) (hns : ns ≤ R.slots) {j : Nat} (hf : wk_fetch M pc = some (pc, .iaload, n, x, wd, t, a)) (hj : j < kc_gL g) (hL : kc_gL g < 2147483648) (k : kL_Ev g M p e R s m args below meth c as nc ns Z (pc + 1) AL (.inl (kc_gs g j) :: AS) h) : kL_Ev g M p e R s m args below meth c as nc ns Z pc AL (.inl (Int32.ofNat j) :: .inr (.inr (.inr 0)) :: AS) h := by
  obtain ⟨h1, h2⟩ := kc_ix_e (kx_ix hL hj)
  refine kL_hp hF hnc hns hf (dd := 1) (AS2 := .inr (.inr (.inr (0, j))) :: AS.map kc_e) ?_ (AS' := .inl (kc_gs g j) :: AS) (fun st hst => ?_) k
  · show wk_ild (kc_gL g) [] (kc_e (.inl (Int32.ofNat j))) (.inr (.inr (.inr (2, 0)))) (AS.map kc_e) (kc_A h) = _
    unfold wk_ild
    rw [h1]
    simp only [wk_scr, cond_true, kc_blt h2]
    rfl
  · obtain ⟨y0, st1, rfl, hv, hs1⟩ := wk_f2_cons hst
    have hv : y0 = .int (kc_gs g j) := hv
    subst hv
    exact ⟨⟨_, rfl, Int.le_refl _, Int.le_refl _⟩, hs1⟩
theorem kL_len (hF : kc_fix g d M p R s m args meth c) (hnc : nc ≤ R.cells) (hns : ns ≤ R.slots) (hf : wk_fetch M pc = some (pc, .arraylength, n, x, wd, t, a)) (k : kL_Ev g M p e R s m args below meth c as nc ns Z (pc + 1) AL (.inl (Int32.ofNat (kc_gL g)) :: AS) h) : kL_Ev g M p e R s m args below meth c as nc ns Z pc AL (.inr (.inr (.inr 0)) :: AS) h := by
  refine kL_hp hF hnc hns hf (dd := 1) (AS2 := wk_sI (Int32.ofNat (kc_gL g)) :: AS.map kc_e) ?_ (AS' := .inl (Int32.ofNat (kc_gL g)) :: AS) (fun st hst => hst) k
  show wk_aln (kc_gL g) (.inr (.inr (.inr (2, 0)))) (AS.map kc_e) (kc_A h) = _
  rfl
theorem kL_lo {L : kc_L} (hs : ∀ q ∈ L, kc_get AL q.1 = some q.2) (k : kL_Ev g M p e R s m args below meth c as nc ns Z pc L AS h) : kL_Ev g M p e R s m args below meth c as nc ns Z pc AL AS h := by
  intro H locs ws ls lv st hS hr hl ha hst
  obtain ⟨lv2, h1, h2⟩ := kf_sub_f2 ha L hs
  exact k H locs ws ls lv2 st hS hr ⟨hl.1, hl.2.1, fun q hq => hl.2.2 q (h2 q hq)⟩ h1 hst
def kL_one (M : wk_M) (pc : Nat) (L : kc_L) (S : List kc_V) : Option kc_P := match wk_fetch M pc with
  | some (pc0, i, _, x, _, _, _) => if pc0 = pc then kc_pure (wk_Ml M) i x.2.2 pc L S else none
  | none => none
def kL_run (M : wk_M) : Nat → Nat → kc_L → List kc_V → Option kc_P
  | 0, pc, L, S => some (pc, L, S)
  | n + 1, pc, L, S => match kL_one M pc L S with
    | some (pc', L', S') => kL_run M n pc' L' S'
    | none => none
theorem kL_one_r (hF : kc_fix g d M p R s m args meth c) {P : kc_P} (e0 : kL_one M pc AL AS = some P) (k : kL_Ev g M p e R s m args below meth c as nc ns Z P.1 P.2.1 P.2.2 h) : kL_Ev g M p e R s m args below meth c as nc ns Z pc AL AS h := by
  unfold kL_one at e0
  split at e0
  · rename_i pc0 i n x wd t a hf
    split at e0
    · rename_i hpc
      subst hpc
      exact kL_pure hF hf e0 k
    · cases e0
  · cases e0
end KLE
theorem kL_go {g : kc_G} {d : Nat} {M : wk_M} {p : Program} {e : Env} {R : Room} {s : State} {m : MethodId} {args : Array Value} {below : List Frame} {meth : Method} {c : Code} {as : List Nat} {nc ns : Nat} {Z : State → Prop} {h : kc_H} (hF : kc_fix g d M p R s m args meth c) : ∀ (n : Nat) {pc pc' : Nat} {L L' : kc_L} {S S' : List kc_V}, kL_run M n pc L S = some (pc', L', S') → kL_Ev g M p e R s m args below meth c as nc ns Z pc' L' S' h → kL_Ev g M p e R s m args below meth c as nc ns Z pc L S h
  | 0, _, _, _, _, _, _, e0, k => by cases e0; exact k
  | n + 1, pc, pc', L, L', S, S', e0, k => by
    have e0 : (match kL_one M pc L S with
      | some (pc', L', S') => kL_run M n pc' L' S'
      | none => none) = some (pc', L', S') := e0
    cases h1 : kL_one M pc L S with
    | none => rw [h1] at e0; cases e0
    | some q =>
      obtain ⟨p1, L1, S1⟩ := q
      rw [h1] at e0
      exact kL_one_r hF h1 (kL_go hF n e0 k)
theorem kL_ret {g : kc_G} {d : Nat} {M : wk_M} {p : Program} {e : Env} {R : Room} {s : State} {m : MethodId} {args : Array Value} {below : List Frame} {meth : Method} {c : Code} {as : List Nat} {nc ns : Nat} {h : kc_H} {pc : Nat} {AL : kc_L} {n : Nat} {x : Nat × Nat × Int} {wd : List Nat} {t : Nat} {a : Int} (hF : kc_fix g d M p R s m args meth c) (hf : wk_fetch M pc = some (pc, .ireturn, n, x, wd, t, a)) (hm : wk_Mr M = some .boolean) : kL_Ev g M p e R s m args below meth c as nc ns (MQ below (kc_B (fun rx _ => rx = some (.int 1)) (kc_gA g)) args s nc ns (kc_gA g)) pc AL [.inl (Int32.ofNat 1)] h := by
  intro H locs ws ls lv st hS hr hl ha hs
  obtain ⟨hd, hlk, hw, hot, hoc⟩ := kc_row hF hf
  obtain ⟨⟨hx, hb, -⟩, hret, hlocks, -⟩ := hF
  obtain ⟨y0, st1, rfl, hv, hs1⟩ := wk_f2_cons hs
  have := wk_f2_nil hs1
  subst this
  obtain ⟨i0, rfl, a1, a2⟩ := hv
  have e1 : i0 = 1 := Int32.toInt_inj.mp (by
    have : (Int32.ofNat 1).toInt = (1 : Int32).toInt := by decide
    simp only at a1 a2
    omega)
  subst e1
  obtain rfl := Nat.eq_of_beq_eq_true hlk
  exact W.zret hx hb (hret.trans hm) rfl (fun t ht hW => ⟨⟨_, rfl, rfl⟩, hS.F ht⟩) hS.2.2 hd hlocks
