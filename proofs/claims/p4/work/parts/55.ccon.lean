/-! ===== the clean logic: returns, calls, contracts ===== -/
def kc_Con (g : kc_G) (d id : Nat) (av : List kc_V) (h : kc_H) (Q : Option kc_V → kc_H → Prop) : Prop :=
  ∃ M, wk_mt id = some M ∧ wk_Mk M = 0 ∧ wk_Ms M = 0 ∧ ∃ d2, d2 + 1 ≤ d ∧ ∀ (as : List Nat) (ws : va_W) (vals : List Value), wk_f2 (wk_r as (kc_gz g) (kc_gs g)) (av.map kc_e) vals → Met g.1 (wk_My M) (wk_ws M) (wk_rm M d2) (wk_Pc (kc_gD g) (kc_gA g) (kc_gz g) (kc_gL g) (kc_gs g) vals (kc_A h) as ws) (kc_B (kc_Bq g Q as) (kc_gA g)) 0 0 (kc_gA g)
theorem kc_Con_le {g : kc_G} {d d' id : Nat} {av : List kc_V} {h : kc_H} {Q : Option kc_V → kc_H → Prop} (hc : kc_Con g d id av h Q) (hd : d ≤ d') : kc_Con g d' id av h Q := by
  obtain ⟨M, h1, h2, h3, d2, h4, h5⟩ := hc
  exact ⟨M, h1, h2, h3, d2, Nat.le_trans h4 hd, h5⟩
theorem kc_Bq_mono {g : kc_G} {Q Q' : Option kc_V → kc_H → Prop} {as : List Nat} (hQ : ∀ rv h, Q rv h → Q' rv h) {rx : Option Value} {t : State} (h : kc_Bq g Q as rx t) : kc_Bq g Q' as rx t := by
  obtain ⟨rv, h0, ws, h1, h2⟩ := h
  exact ⟨rv, h0, ws, hQ _ _ h1, h2⟩
theorem kc_Con_mono {g : kc_G} {d id : Nat} {av : List kc_V} {h : kc_H} {Q Q' : Option kc_V → kc_H → Prop} (hc : kc_Con g d id av h Q) (hQ : ∀ rv h, Q rv h → Q' rv h) : kc_Con g d id av h Q' := by
  obtain ⟨M, h1, h2, h3, d2, h4, h5⟩ := hc
  refine ⟨M, h1, h2, h3, d2, h4, fun as ws vals hv => wk_met_mono (h5 as ws vals hv) (fun _ _ q => q) (fun a s o t _ _ q => ?_)⟩
  obtain ⟨⟨rx, q1, q2⟩, q3⟩ := q
  exact ⟨⟨rx, q1, kc_Bq_mono hQ q2⟩, q3⟩
def kc_take : Nat → List kc_V → List kc_V → Option (List kc_V × List kc_V)
  | 0, AS, acc => some (acc, AS)
  | n + 1, v :: AS, acc => kc_take n AS (v :: acc)
  | _ + 1, [], _ => none
theorem kc_take_e : ∀ (n : Nat) (AS acc av r : List kc_V), kc_take n AS acc = some (av, r) → wk_take n (AS.map kc_e) (acc.map kc_e) = some (av.map kc_e, r.map kc_e)
  | 0, AS, acc, av, r, h => by cases h; rfl
  | n + 1, v :: AS, acc, av, r, h => kc_take_e n AS (v :: acc) av r h
  | n + 1, [], acc, av, r, h => by cases h
/-- a call's start -/
def kc_cl (i : Instr) (x : Nat × Nat × Int) (AS : List kc_V) : Option (wk_M × List kc_V × List kc_V) :=
  if wk_isI i x.1 then match wk_mt x.2.1 with
    | some M => match kc_take (wk_argn x.1 (wk_Mn M)) AS [] with
      | some (av, r) => if wk_cat (r.map kc_e) ≤ 8 then (match x.1 with
        | 0 => match av with
          | v :: _ => if (kc_obj v (wk_Mc M) 0).isSome then some (M, av, r) else none
          | [] => none
        | 1 => some (M, av, r)
        | 3 => some (M, av, r)
        | _ => none) else none
      | none => none
    | none => none
  else none
theorem kc_cl_e {i : Instr} {x : Nat × Nat × Int} {AS : List kc_V} {h : kc_H} {M : wk_M} {av r : List kc_V} (hc : kc_cl i x AS = some (M, av, r)) : wk_call wk_mt i x (AS.map kc_e) (kc_A h) = some (M, av.map kc_e, r.map kc_e) := by
  unfold kc_cl at hc
  unfold wk_call
  split at hc
  · rename_i hI
    rw [if_pos hI]
    cases hm : wk_mt x.2.1 with
    | none => rw [hm] at hc; cases hc
    | some M0 =>
      rw [hm] at hc
      simp only at hc ⊢
      cases ht : kc_take (wk_argn x.1 (wk_Mn M0)) AS [] with
      | none => rw [ht] at hc; cases hc
      | some q =>
        obtain ⟨av0, r0⟩ := q
        rw [ht] at hc
        rw [show wk_take (wk_argn x.1 (wk_Mn M0)) (AS.map kc_e) [] = some (av0.map kc_e, r0.map kc_e) from kc_take_e _ _ _ _ _ ht]
        simp only at hc ⊢
        split at hc
        · rename_i h8
          rw [if_pos (Nat.ble_eq_true_of_le h8)]
          split at hc
          · rename_i e0
            split at hc
            · rename_i v av1
              split at hc
              · rename_i ho
                cases hc
                obtain ⟨k0, hk0⟩ := Option.isSome_iff_exists.mp ho
                obtain ⟨nf, rfl, hs, hk, hci, -⟩ := kc_obj_e hk0
                rw [e0]
                simp only [List.map_cons]
                rw [show wk_obj (kc_A h) (kc_e (.inr (.inr (.inl (some k0))))) = _ from kc_wobj hs hk hci]
                simp
              · cases hc
            · cases hc
          · rename_i e0
            cases hc
            rw [e0]
            cases av <;> rfl
          · rename_i e0
            cases hc
            rw [e0]
            cases av <;> rfl
          · cases hc
        · cases hc
  · cases hc
theorem kc_cl_m {i : Instr} {x : Nat × Nat × Int} {AS : List kc_V} {M : wk_M} {av r : List kc_V} (hc : kc_cl i x AS = some (M, av, r)) : wk_mt x.2.1 = some M := wk_call_m (kc_cl_e (h := fun _ _ => .inl 0) hc)
section KCK
variable {g : kc_G} {d : Nat} {M : wk_M} {Q : Option kc_V → kc_H → Prop} {pc : Nat} {AL : kc_L} {AS AS' : List kc_V} {h h' : kc_H} {i : Instr} {n : Nat} {x : Nat × Nat × Int} {wd : List Nat} {t : Nat} {a : Int} {dd : Nat}
theorem kc_call_rule (hf : wk_fetch M pc = some (pc, i, n, x, wd, t, a)) {M2 : wk_M} {av r : List kc_V} {Q2 : Option kc_V → kc_H → Prop} (hc : kc_cl i x AS = some (M2, av, r)) (hCon : kc_Con g d x.2.1 av h Q2) (k : ∀ rv h', Q2 rv h' → kc_Ev g d M Q (pc + 3) AL (rv.toList ++ r) h') : kc_Ev g d M Q pc AL AS h := by
  intro p e R s m args below meth c as hF H locs ws ls lv st hS hr hl ha hs
  obtain ⟨hd, hlk, hw, hot, hoc⟩ := kc_row hF hf
  obtain ⟨M3, m1, m2, m3, d2, hd2, hMet⟩ := hCon
  cases (kc_cl_m hc).symm.trans m1
  have key := kc_call_ok (l := g.1) (e := e) (R := R) (below := below) (cells := 0) (slots := 0) (Q := MQ below (kc_B (kc_Bq g Q as) (kc_gA g)) args s 0 0 (kc_gA g)) (d := d2) (B := kc_Bq g Q2 as) (AH := kc_A h) hF.1 wk_mt_ok hd hlk hw hoc (kc_cl_e hc) hl (fun vals hv => by rw [m2, m3]; exact hMet as ws vals hv) (by have := hF.2.2.2.1; omega) (by have := hF.2.2.2.2.1; omega) (by rw [m2]; exact Nat.zero_le _) (by rw [m3]; exact Nat.zero_le _) hr hS hs
  rw [m2, m3] at key
  refine key (fun rx t locs1 rest hrest hB hal hS1 => ?_)
  obtain ⟨rv, h1, ws1, q1, q2, q3⟩ := hB
  refine k rv h1 q1 p e R s m args below meth c as hF t.heap locs1 ws1 ls lv _ hS1 (wk_hr_moved hal q3) hl ha ?_
  cases rv with
  | none =>
    cases rx with
    | none => exact hrest
    | some _ => exact q2.elim
  | some v =>
    cases rx with
    | none => exact q2.elim
    | some xv => exact ⟨q2, hrest⟩
theorem kc_ret_ok (hf : wk_fetch M pc = some (pc, i, n, x, wd, t, a)) {rv : Option kc_V} (hp : wk_ret [] M i (AS.map kc_e) = some (rv.map kc_e)) (hQ : Q rv h) : kc_Ev g d M Q pc AL AS h := by
  intro p e R s m args below meth c as hF H locs ws ls lv st hS hr hl ha hs
  obtain ⟨hd, hlk, hw, hot, hoc⟩ := kc_row hF hf
  obtain ⟨⟨hx, hb, -⟩, hret, hlocks, -⟩ := hF
  have hbx : wk_bx (kc_gs g) ([] : wk_I) := fun j q hj => by simp at hj
  have fin : ∀ (rx : Option Value), wk_rv as (kc_gz g) (kc_gs g) (rv.map kc_e) rx → ∀ t : State, t.heap = H → s.WarmedH t.vm → kc_B (kc_Bq g Q as) (kc_gA g) args s (.returned rx) t := fun rx hrx t ht hW =>
    ⟨⟨rx, rfl, rv, h, ws, hQ, hrx, by rw [ht]; exact wk_hr_moved hW.alike hr⟩, hS.F ht⟩
  unfold wk_ret at hp
  split at hp
  · rename_i hm hn
    obtain rfl := Nat.eq_of_beq_eq_true hlk
    have hAS : AS = [] := List.map_eq_nil_iff.mp hn
    subst hAS
    have := wk_f2_nil hs
    subst this
    cases rv with
    | none => exact W.vret hx hb (hret.trans hm) (fin none trivial) hS.2.2 hd hlocks
    | some v => cases hp
  · rename_i v hm hn
    rcases AS with _ | ⟨v0, _ | ⟨v1, AS⟩⟩
    · cases hn
    · obtain ⟨y0, st1, rfl, hv, hs1⟩ := wk_f2_cons hs
      have := wk_f2_nil hs1
      subst this
      cases hn
      obtain rfl := Nat.eq_of_beq_eq_true hlk
      split at hp
      · rename_i hg
        obtain ⟨q, hq⟩ := Option.isSome_iff_exists.mp hg
        obtain ⟨i0, rfl, -⟩ := wk_gi_r hbx hq hv
        exact W.iret hx hb (hret.trans hm) (fin _ (by rw [← Option.some.inj hp]; exact hv)) hS.2.2 hd hlocks
      · cases hp
    · cases hn
  · rename_i v hm hn
    rcases AS with _ | ⟨v0, _ | ⟨v1, AS⟩⟩
    · cases hn
    · obtain ⟨y0, st1, rfl, hv, hs1⟩ := wk_f2_cons hs
      have := wk_f2_nil hs1
      subst this
      cases hn
      obtain rfl := Nat.eq_of_beq_eq_true hlk
      split at hp
      · rename_i hg
        have hi : ∃ i0 : Int32, y0 = .int i0 := by
          have hg2 := hg
          unfold wk_fit at hg2
          cases hgi : wk_gi [] (kc_e v0) with
          | none => rw [hgi] at hg2; cases hg2
          | some q =>
            obtain ⟨i0, e0, -⟩ := wk_gi_r hbx hgi hv
            exact ⟨i0, e0⟩
        obtain ⟨i0, rfl⟩ := hi
        exact W.zret hx hb (hret.trans hm) (wk_fit_r (ty := .boolean) hbx hg hv).1 (fin _ (by rw [← Option.some.inj hp]; exact hv)) hS.2.2 hd hlocks
      · cases hp
    · cases hn
  · rename_i v hm hn
    rcases AS with _ | ⟨v0, _ | ⟨v1, AS⟩⟩
    · cases hn
    · obtain ⟨y0, st1, rfl, hv, hs1⟩ := wk_f2_cons hs
      have := wk_f2_nil hs1
      subst this
      cases hn
      obtain rfl := Nat.eq_of_beq_eq_true hlk
      split at hp
      · rename_i hg
        obtain ⟨q, hq⟩ := Option.isSome_iff_exists.mp hg
        obtain ⟨i0, rfl, -⟩ := wk_gj_r hbx hq hv
        exact W.lret hx hb (hret.trans hm) (fin _ (by rw [← Option.some.inj hp]; exact hv)) hS.2.2 hd hlocks
      · cases hp
    · cases hn
  · cases hp
def kc_args : Nat → List kc_V → kc_L
  | _, [] => []
  | i, v :: vs => (i, v) :: kc_args (if kc_c2 v then i + 2 else i + 1) vs
theorem kc_args_e : ∀ (j : Nat) (av : List kc_V), kc_el (kc_args j av) = wk_args j (av.map kc_e)
  | _, [] => rfl
  | j, v :: vs => by
    show (j, kc_e v) :: kc_el (kc_args (if kc_c2 v then j + 2 else j + 1) vs) = (j, kc_e v) :: wk_args (if wk_c2 (kc_e v) then j + 2 else j + 1) (vs.map kc_e)
    rw [kc_c2_e, kc_args_e]
/-- the free addresses don't hold the script; the script is no longer than an int says -/
def kc_ok (g : kc_G) : Prop := ¬ kc_gA g (kc_gz g 0) ∧ kc_gL g < 2 ^ 31
/-- a contract, out of the body -/
theorem kc_Con_new {id : Nat} {av : List kc_V} (hg : kc_ok g) (hm : wk_mt id = some M) (hk : wk_Mk M = 0) (hss : wk_Ms M = 0) (hcat : wk_cat (av.map kc_e) ≤ wk_Ml M) (k : kc_Ev g d M Q 0 (kc_args 0 av) [] h) : kc_Con g (d + 1) id av h Q := by
  refine ⟨M, hm, hk, hss, d, Nat.le_refl _, fun as ws vals hv => ?_⟩
  have hok := wk_mt_ok _ _ hm
  unfold wk_okm at hok
  simp only [Bool.and_eq_true, decide_eq_true_eq] at hok
  obtain ⟨ok1, ⟨ok2, ok3, ok4⟩, ok5, ok6, ok7⟩ := hok
  have hM : ∀ r ∈ wk_Mx M, ∀ row ∈ r, wk_okx wk_mt wk_mw (wk_My M) (wk_Mb M) row = true := fun r hr row hrow => List.all_eq_true.mp (List.all_eq_true.mp ok7 r hr) row hrow
  refine Met.ofW (cc := wk_Mb M) (maxL := wk_Ml M) (ret := wk_Mr M) ok1 rfl ?_
  intro p e s m args below meth c s₁ B hml hP
  obtain ⟨rfl, hK, hX, hz, hA, hr⟩ := hP
  have hts : ∀ w ∈ wk_tbl, w.before vals.toArray s = true := fun w hw => atoms_spec (ws := wk_ws M) B.pre w (List.mem_cons_of_mem _ hw)
  have hown : s.vm.findClass (wk_My M).cls = some m.cls := findClass_of_methodNamed B.named
  have hname : meth.name = (wk_My M).name := (name_of_methodNamed B.named B.method).1
  have C : wk_cx p s m vals.toArray meth c (wk_Mb M) (wk_My M) (wk_Ml M) (kc_gD g) (kc_gA g) (kc_gz g) (kc_gL g) (kc_gs g) := ⟨B.exec, B.bytes, hml, hown, hts, hK, hA, hname, hX, hz, hg.1, hg.2⟩
  have hlen : (lg_sl vals).length ≤ wk_Ml M := by rw [wk_slen, ← wk_cat_r hv]; exact hcat
  rw [lg_entry_eq]
  have hl := lv_entry vals (n := wk_Ml M) hlen
  exact k p e (headSpec (wk_ws M) (wk_rm M d)).room s m vals.toArray below meth c as ⟨C, B.returns, B.notSynchronized, Nat.le_refl _, Nat.le_refl _, hM⟩ s.heap [] ws _ _ [] va_S.rf hr hl (by rw [kc_args_e]; exact wk_args_r 0 hv) trivial
end KCK
