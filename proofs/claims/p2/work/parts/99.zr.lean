/-! ===== the law's body: cells have been made ===== -/
def kL_Ev (g : kc_G) (M : wk_M) (p : Program) (e : Env) (R : Room) (s : State) (m : MethodId) (args : Array Value) (below : List Frame) (meth : Method) (c : Code) (as : List Nat) (nc ns : Nat) (Z : State → Prop) (pc : Nat) (AL : kc_L) (AS : List kc_V) (h : kc_H) : Prop :=
  ∀ (H : Heap) (locs : List Loc) (ws : va_W) (ls : Array Slot) (lv : List (Nat × Value)) (st : List Value), va_S (kc_gA g) s.heap H locs → wk_hr (kc_gD g) (kc_gA g) s as (kc_gz g) (kc_gs g) (kc_A h) ws H → lv_has ls (wk_Ml M) lv → wk_f2 (wk_rl as (kc_gz g) (kc_gs g)) (kc_el AL) lv → wk_f2 (wk_r as (kc_gz g) (kc_gs g)) (AS.map kc_e) st → W p g.1 e R s m args below meth c H locs nc ns Z (F0 m pc ls st)
section KLE
variable {g : kc_G} {d : Nat} {M : wk_M} {p : Program} {e : Env} {R : Room} {s : State} {m : MethodId} {args : Array Value} {below : List Frame} {meth : Method} {c : Code} {as : List Nat} {nc ns : Nat} {Z : State → Prop} {pc : Nat} {AL : kc_L} {AS : List kc_V} {h : kc_H} {i : Instr} {n : Nat} {x : Nat × Nat × Int} {wd : List Nat} {t : Nat} {a : Int}
set_option maxHeartbeats 1000000 in
theorem kL_pure (hF : kc_fix g d M p R s m args meth c) (hf : wk_fetch M pc = some (pc, i, n, x, wd, t, a)) {P : kc_P} (hp : kc_pure (wk_Ml M) i x.2.2 pc AL AS = some P) (k : kL_Ev g M p e R s m args below meth c as nc ns Z P.1 P.2.1 P.2.2 h) : kL_Ev g M p e R s m args below meth c as nc ns Z pc AL AS h := by
  intro H locs ws ls lv st hS hr hl ha hs
  obtain ⟨hd, hlk, hw, hot, hoc⟩ := kc_row hF hf
  have C := hF.1
  obtain ⟨hx, hb, hml, hown, hts, hK, hA, hname, hX, hz, hzA, hLz⟩ := id C
  have hc1 : ∀ idx, i = .ldc idx ∨ i = .ldc_w idx → (Jvm.Cond.constant (wk_My M).cls idx (Int32.ofInt x.2.2)).before args s = true := by
    intro idx hi
    rcases hi with rfl | rfl
    · match wd, hw with
      | [q1], hw => exact hts _ (wk_has_in hw)
      | [], hw => cases hw
      | _ :: _ :: _, hw => cases hw
    · match wd, hw with
      | [q1], hw => exact hts _ (wk_has_in hw)
      | [], hw => cases hw
      | _ :: _ :: _, hw => cases hw
  have hc2 : ∀ idx, i = .ldc2_w idx → (Jvm.Cond.constantLong (wk_My M).cls idx (Int64.ofInt x.2.2)).before args s = true := by
    rintro idx rfl
    match wd, hw with
    | [q1], hw => exact hts _ (wk_has_in hw)
    | [], hw => cases hw
    | _ :: _ :: _, hw => cases hw
  have hbx : wk_bx (fun _ => 0) ([] : wk_I) := fun j q hj => by simp at hj
  exact wk_pure_ok (ρ := fun _ => 0) (iv := []) hx hb hown hd hlk hc1 hc2 hbx (by decide) (kc_pure_e hp) hl (kc_rhoL ha) (kc_rhoS hs) (fun ls' lv' st' hl' ha' hs' => k H locs ws ls' lv' st' hS hr hl' (kc_rhoL ha') (kc_rhoS hs'))
theorem kL_hp (hF : kc_fix g d M p R s m args meth c) (hnc : nc ≤ R.cells) (hns : ns ≤ R.slots) (hf : wk_fetch M pc = some (pc, i, n, x, wd, t, a)) {dd : Nat} {AS2 : List wk_V} (hp : wk_hp (kc_gL g) [] i x (AS.map kc_e) (kc_A h) = some (dd, AS2, none, [], 0, 0)) {AS' : List kc_V}
    (hA2 : ∀ st : List Value, wk_f2 (wk_r as (kc_gz g) (kc_gs g)) AS2 st → wk_f2 (wk_r as (kc_gz g) (kc_gs g)) (AS'.map kc_e) st) (k : kL_Ev g M p e R s m args below meth c as nc ns Z (pc + dd) AL AS' h) : kL_Ev g M p e R s m args below meth c as nc ns Z pc AL AS h := by
  intro H locs ws ls lv st hS hr hl ha hs
  obtain ⟨hd, hlk, hw, hot, hoc⟩ := kc_row hF hf
  have hbx : wk_bx (kc_gs g) ([] : wk_I) := fun j q hj => by simp at hj
  refine wk_hp_ok hF.1 hbx hd hlk hw hp hl (Nat.le_trans (by omega) hF.2.2.2.1) (Nat.le_trans (by omega) hF.2.2.2.2.1) rfl (by omega) (by omega) hr hS hs (fun H' locs' more ws' st' hS' hr' hs' hsame => ?_)
  have hmore : more = [] := kc_same hr hr' rfl
  subst hmore
  rw [List.append_nil] at hr' hs'
  exact k H' locs' ws' ls lv st' hS' hr' hl ha (hA2 st' hs')
theorem kL_call (hF : kc_fix g d M p R s m args meth c) (hnc : nc ≤ R.cells) (hns : ns ≤ R.slots) (hf : wk_fetch M pc = some (pc, i, n, x, wd, t, a)) {M2 : wk_M} {av r : List kc_V} {Q2 : Option kc_V → kc_H → Prop} (hc : kc_cl i x AS = some (M2, av, r)) (hCon : kc_Con g d x.2.1 av h Q2) (k : ∀ rv h', Q2 rv h' → kL_Ev g M p e R s m args below meth c as nc ns Z (pc + 3) AL (rv.toList ++ r) h') : kL_Ev g M p e R s m args below meth c as nc ns Z pc AL AS h := by
  intro H locs ws ls lv st hS hr hl ha hs
  obtain ⟨hd, hlk, hw, hot, hoc⟩ := kc_row hF hf
  obtain ⟨M3, m1, m2, m3, d2, hd2, hMet⟩ := hCon
  cases (kc_cl_m hc).symm.trans m1
  have key := kc_call_ok (l := g.1) (e := e) (R := R) (below := below) (cells := nc) (slots := ns) (Q := Z) (d := d2) (B := kc_Bq g Q2 as) (AH := kc_A h) hF.1 wk_mt_ok hd hlk hw hoc (kc_cl_e hc) hl (fun vals hv => by rw [m2, m3]; exact hMet as ws vals hv) (by have := hF.2.2.2.1; omega) (by have := hF.2.2.2.2.1; omega) (by rw [m2]; exact hnc) (by rw [m3]; exact hns) hr hS hs
  rw [m2, m3] at key
  refine key (fun rx t locs1 rest hrest hB hal hS1 => ?_)
  obtain ⟨rv, h1, ws1, q1, q2, q3⟩ := hB
  refine k rv h1 q1 t.heap locs1 ws1 ls lv _ hS1 (wk_hr_moved hal q3) hl ha ?_
  cases rv with
  | none =>
    cases rx with
    | none => exact hrest
    | some _ => exact q2.elim
  | some v =>
    cases rx with
    | none => exact q2.elim
    | some xv => exact ⟨q2, hrest⟩
theorem kL_pop2 (hF : kc_fix g d M p R s m args meth c) {y : Int64} (hd : decode (wk_Mb M) pc = .ok (.pop2, 1)) (k : kL_Ev g M p e R s m args below meth c as nc ns Z (pc + 1) AL AS h) : kL_Ev g M p e R s m args below meth c as nc ns Z pc AL (.inr (.inl y) :: AS) h := by
  intro H locs ws ls lv st hS hr hl ha hs
  obtain ⟨hx, hb, hml, hown, hts, hK, hA, hname, hX, hz, hzA, hLz⟩ := hF.1
  obtain ⟨y1, st0, rfl, hj1, hs0⟩ := wk_f2_cons hs
  obtain ⟨j1, rfl, a1, a2⟩ := hj1
  exact lv_pop2_2 hx hb hd rfl (k H locs ws ls lv _ hS hr hl ha hs0)
end KLE
