/-! ===== the run is sound ===== -/
theorem wk_ret_ok {p : Program} {l : Launch} {e : Env} {R : Room} {s : State} {m : MethodId} {args : Array Value} {below : List Frame} {meth : Method} {c : Code} {H : Heap} {locs : List Loc} {cc : ByteArray} {pc : Nat} {ls : Array Slot} {z : Nat → Nat} {D : va_G} {A : Nat → Prop} {as0 more : List Nat} {ρ : Nat → Int32} {iv : wk_I} {AS : List wk_V} {AH : wk_A} {ws : va_W} {st : List Value} {M : wk_M} {i : Instr} {n : Nat} {rv : Option wk_V} {L : List wk_F} {nc ns : Nat} {ws0 : va_W} {wrs : List Nat}
    (hx : p.tables.exec = Jvm.exec) (hb : c.code = cc) (hret : meth.sig.returnType = wk_Mr M) (hlocks : meth.locks = false) (hbx : wk_bx ρ iv) (hd : decode cc pc = .ok (i, n)) (hlk : wk_lk i n = true) (hp : wk_ret iv M i AS = some rv) (hL : (iv, rv, AH, wrs) ∈ L) (hsm : ∀ j : Nat, j < ws0.length → j ∉ wrs → ws[j]? = ws0[j]?) (h1 : nc ≤ wk_Mk M) (h2 : ns ≤ wk_Ms M) (hr : wk_hr D A s (as0 ++ more) z ρ AH ws H) (hS : va_S A s.heap H locs) (hs : wk_f2 (wk_r (as0 ++ more) z ρ) AS st) : W p l e R s m args below meth c H locs nc ns (MQ below (wk_Qc D A z ρ L as0 ws0) args s (wk_Mk M) (wk_Ms M) A) (F0 m pc ls st) := by
  refine W.widen h1 h2 ?_
  have fin : ∀ (rx : Option Value), wk_rv (as0 ++ more) z ρ rv rx → ∀ t : State, t.heap = H → s.WarmedH t.vm → wk_Qc D A z ρ L as0 ws0 args s (.returned rx) t := fun rx hrx t ht hW =>
    ⟨⟨_, hL, hbx, rx, more, ws, rfl, hrx, by rw [ht]; exact wk_hr_moved hW.alike hr, hsm⟩, hS.F ht⟩
  unfold wk_ret at hp
  split at hp
  · rename_i hm
    cases hp
    obtain rfl := Nat.eq_of_beq_eq_true hlk
    have := wk_f2_nil hs
    subst this
    exact W.vret hx hb (hret.trans hm) (fin none trivial) hS.2.2 hd hlocks
  · rename_i v hm
    obtain ⟨y0, st1, rfl, hv, hs1⟩ := wk_f2_cons hs
    have := wk_f2_nil hs1
    subst this
    obtain rfl := Nat.eq_of_beq_eq_true hlk
    split at hp
    · cases hp
      rename_i hg
      obtain ⟨q, hq⟩ := Option.isSome_iff_exists.mp hg
      obtain ⟨i0, rfl, -⟩ := wk_gi_r hbx hq hv
      exact W.iret hx hb (hret.trans hm) (fin _ hv) hS.2.2 hd hlocks
    · cases hp
  · rename_i v hm
    obtain ⟨y0, st1, rfl, hv, hs1⟩ := wk_f2_cons hs
    have := wk_f2_nil hs1
    subst this
    obtain rfl := Nat.eq_of_beq_eq_true hlk
    split at hp
    · cases hp
      rename_i hg
      have hi : ∃ i0 : Int32, y0 = .int i0 := by
        have hg2 := hg
        unfold wk_fit at hg2
        cases hgi : wk_gi iv v with
        | none => rw [hgi] at hg2; cases hg2
        | some q =>
          obtain ⟨i0, e0, -⟩ := wk_gi_r hbx hgi hv
          exact ⟨i0, e0⟩
      obtain ⟨i0, rfl⟩ := hi
      exact W.zret hx hb (hret.trans hm) (wk_fit_r (ty := .boolean) hbx hg hv).1 (fin _ hv) hS.2.2 hd hlocks
    · cases hp
  · rename_i v hm
    obtain ⟨y0, st1, rfl, hv, hs1⟩ := wk_f2_cons hs
    have := wk_f2_nil hs1
    subst this
    obtain rfl := Nat.eq_of_beq_eq_true hlk
    split at hp
    · cases hp
      rename_i hg
      obtain ⟨q, hq⟩ := Option.isSome_iff_exists.mp hg
      obtain ⟨i0, rfl, -⟩ := wk_gj_r hbx hq hv
      exact W.lret hx hb (hret.trans hm) (fin _ hv) hS.2.2 hd hlocks
    · cases hp
  · cases hp
/-- what a run of the engine says of the machine at a frame -/
def wk_says (p : Program) (l : Launch) (e : Env) (R : Room) (s : State) (m : MethodId) (args : Array Value) (below : List Frame) (meth : Method) (c : Code) (D : va_G) (A : Nat → Prop) (z : Nat → Nat) (ρ : Nat → Int32) (M : wk_M) (L : List wk_F) (as0 : List Nat) (ws0 : va_W) (iv : wk_I) (pc : Nat) (AL : wk_L) (AS : List wk_V) (AH : wk_A) (nc ns : Nat) (wrs : List Nat) : Prop :=
  wk_bx ρ iv → nc ≤ wk_Mk M → ns ≤ wk_Ms M → ∀ (H : Heap) (locs : List Loc) (more : List Nat) (ws : va_W) (ls : Array Slot) (lv : List (Nat × Value)) (st : List Value), va_S A s.heap H locs → wk_hr D A s (as0 ++ more) z ρ AH ws H → lv_has ls (wk_Ml M) lv → wk_f2 (wk_rl (as0 ++ more) z ρ) AL lv → wk_f2 (wk_r (as0 ++ more) z ρ) AS st → (∀ j : Nat, j < ws0.length → j ∉ wrs → ws[j]? = ws0[j]?) → W p l e R s m args below meth c H locs nc ns (MQ below (wk_Qc D A z ρ L as0 ws0) args s (wk_Mk M) (wk_Ms M) A) (F0 m pc ls st)
theorem wk_fetch_r {M : wk_M} {pc : Nat} {row : wk_X} (h : wk_fetch M pc = some row) : row.1 = pc ∧ ∃ r ∈ wk_Mx M, row ∈ r := by
  unfold wk_fetch at h
  cases hr : wk_at (wk_Mx M) (pc / 16) with
  | none => rw [hr] at h; cases h
  | some r =>
    rw [hr] at h
    rw [wk_at_eq] at hr
    have h : r.find? (fun x => Nat.beq x.1 pc) = some row := h
    have h2 := List.find?_some h
    exact ⟨Nat.eq_of_beq_eq_true h2, r, List.mem_of_getElem? hr, List.mem_of_find?_eq_some h⟩
theorem wk_call_m {mt : Nat → Option wk_M} {i : Instr} {x : Nat × Nat × Int} {AS : List wk_V} {AH : wk_A} {M : wk_M} {av r : List wk_V} (h : wk_call mt i x AS AH = some (M, av, r)) : mt x.2.1 = some M := by
  unfold wk_call at h
  split at h
  · cases hm : mt x.2.1 with
    | none => rw [hm] at h; cases h
    | some M0 =>
      rw [hm] at h
      simp only at h
      split at h
      · split at h
        · split at h
          · split at h
            · split at h
              · cases h; rfl
              · cases h
            · cases h
          · cases h
          · split at h
            · cases h; rfl
            · cases h
          · cases h
          · cases h; rfl
        · cases h
      · cases h
  · cases h
section WKG
variable {p : Program} {l : Launch} {e : Env} {R : Room} {s : State} {m : MethodId} {args : Array Value} {below : List Frame} {meth : Method} {c : Code} {z : Nat → Nat} {Lz d : Nat} {D : va_G} {A : Nat → Prop} {as0 : List Nat} {ρ : Nat → Int32} {M : wk_M} {mt : Nat → Option wk_M} {mw : wk_W} {L : List wk_F} {call : wk_K} {cut : wk_Cu} {ws0 : va_W}
set_option maxHeartbeats 4000000 in
theorem wk_go_ok (hmt : ∀ id M, mt id = some M → wk_okm mt mw id M = true) (hM : ∀ r ∈ wk_Mx M, ∀ row ∈ r, wk_okx mt mw (wk_My M) (wk_Mb M) row = true) (C : wk_cx p s m args meth c (wk_Mb M) (wk_My M) (wk_Ml M) D A z Lz ρ) (hret : meth.sig.returnType = wk_Mr M) (hlocks : meth.locks = false) (hρ : ρ 5 = ρ 0 &&& 63)
    (hfr : d + 1 ≤ R.frames) (hlo : 100 + 200 * d ≤ R.locals) (hRc : wk_Mk M ≤ R.cells) (hRs : wk_Ms M ≤ R.slots)
    (hcall : ∀ id M2 av iv AH fs, mt id = some M2 → call id av iv AH = some fs → wk_bx ρ iv → ∃ d2, d2 + 1 ≤ d ∧ ∀ (as : List Nat) (ws : va_W) (vals : List Value), wk_f2 (wk_r as z ρ) av vals → Met l (wk_My M2) (wk_ws M2) (wk_rm M2 d2) (wk_Pc D A z Lz ρ vals AH as ws) (wk_Qc D A z ρ fs as ws) (wk_Mk M2) (wk_Ms M2) A)
    (hw0 : ws0.length = as0.length) (hcut : ∀ iv pc AL AS AH nc ns wrs, cut iv pc AL AS AH nc ns wrs = true → wk_says p l e R s m args below meth c D A z ρ M L as0 ws0 iv pc AL AS AH nc ns wrs) :
    ∀ (fuel : Nat) (iv : wk_I) (pc : Nat) (AL : wk_L) (AS : List wk_V) (AH : wk_A) (nc ns : Nat) (wrs : List Nat) (fs : List wk_F), wk_go mt Lz M cut call fuel iv pc AL AS AH nc ns wrs = some fs → (∀ f ∈ fs, f ∈ L) → wk_says p l e R s m args below meth c D A z ρ M L as0 ws0 iv pc AL AS AH nc ns wrs := by
  intro fuel
  induction fuel with
  | zero => intro iv pc AL AS AH nc ns wrs fs h; cases h
  | succ fuel ih =>
    intro iv pc AL AS AH nc ns wrs fs h hfs
    have h : (bif cut iv pc AL AS AH nc ns wrs then some [] else match wk_fetch M pc with
      | none => none
      | some row => wk_one mt Lz M call (wk_go mt Lz M cut call fuel) row iv pc AL AS AH nc ns wrs) = some fs := h
    cases hc : cut iv pc AL AS AH nc ns wrs with
    | true => exact hcut _ _ _ _ _ _ _ _ hc
    | false =>
      rw [hc] at h
      simp only [cond_false] at h
      cases hrow : wk_fetch M pc with
      | none => rw [hrow] at h; cases h
      | some row =>
        rw [hrow] at h
        obtain ⟨pc0, i, n, x, wd, t, a⟩ := row
        obtain ⟨e0, r0, hr0, hrow0⟩ := wk_fetch_r hrow
        simp only at e0
        subst e0
        have hok := hM r0 hr0 _ hrow0
        unfold wk_okx at hok
        simp only [Bool.and_eq_true, decide_eq_true_eq] at hok
        obtain ⟨hd, hlk, hw, hot, hoc⟩ := hok
        intro hbx hnc hns H locs more ws ls lv st hS hr hl ha hs hsm
        obtain ⟨hx, hb, hml, hown, hts, hK, hA, hname, hX, hz, hzA, hLz⟩ := id C
        have hwl : ws0.length ≤ ws.length := by
          have e1 := congrArg List.length hr.2.2.2.1
          rw [List.length_map, List.length_append] at e1
          omega
        -- words of constants
        have hc1 : ∀ idx, i = .ldc idx ∨ i = .ldc_w idx → (Jvm.Cond.constant (wk_My M).cls idx (Int32.ofInt x.2.2)).before args s = true := by
          intro idx hi
          rcases hi with rfl | rfl
          · match wd, hw with
            | [q1], hw => exact hts _ (wk_has_in hw)
            | [], hw => cases hw
            | _ :: _ :: _, hw => cases hw
          · match wd, hw with
            | [q1], hw => exact hts _ (wk_has_in hw)
            | [], hw => cases hw
            | _ :: _ :: _, hw => cases hw
        have hc2 : ∀ idx, i = .ldc2_w idx → (Jvm.Cond.constantLong (wk_My M).cls idx (Int64.ofInt x.2.2)).before args s = true := by
          rintro idx rfl
          match wd, hw with
          | [q1], hw => exact hts _ (wk_has_in hw)
          | [], hw => cases hw
          | _ :: _ :: _, hw => cases hw
        have pure : ∀ (P : wk_P), wk_pure iv (wk_Ml M) i x.2.2 pc0 AL AS = some P → (∃ fs2, wk_go mt Lz M cut call fuel iv P.1 P.2.1 P.2.2 AH nc ns wrs = some fs2 ∧ ∀ f ∈ fs2, f ∈ L) → W p l e R s m args below meth c H locs nc ns (MQ below (wk_Qc D A z ρ L as0 ws0) args s (wk_Mk M) (wk_Ms M) A) (F0 m pc0 ls st) := by
          rintro ⟨pc', AL', AS'⟩ hp ⟨fs2, hg, hin⟩
          exact wk_pure_ok hx hb hown hd hlk hc1 hc2 hbx hρ hp hl ha hs (fun ls' lv' st' hl' ha' hs' => ih _ _ _ _ _ _ _ _ _ hg hin hbx hnc hns H locs more ws ls' lv' st' hS hr hl' ha' hs' hsm)
        have heap : ∀ (q : wk_H) (fs2 : List wk_F), wk_hp Lz iv i x AS AH = some q → wk_hgo M (fun pc AS AH nc ns wrs => wk_go mt Lz M cut call fuel iv pc AL AS AH nc ns wrs) pc0 AH nc ns wrs q = some fs2 → (∀ f ∈ fs2, f ∈ L) → W p l e R s m args below meth c H locs nc ns (MQ below (wk_Qc D A z ρ L as0 ws0) args s (wk_Mk M) (wk_Ms M) A) (F0 m pc0 ls st) := by
          rintro ⟨dd, AS', w, nw, dc, ds⟩ fs2 hp hg hin
          have hg : (bif Nat.ble (nc + dc) (wk_Mk M) && (Nat.ble (ns + ds) (wk_Ms M) && wk_room AH nw AH.1) then wk_wr AH w nw (fun AH' => wk_adw wrs w fun wrs' => wk_fN (pc0 + dd) fun pc' => wk_fS AS' fun AS' => wk_fN (nc + dc) fun nc' => wk_fN (ns + ds) fun ns' => wk_go mt Lz M cut call fuel iv pc' AL AS' AH' nc' ns' wrs') else none) = some fs2 := hg
          obtain ⟨g1, g2⟩ := wk_bt hg
          simp only [Bool.and_eq_true] at g1
          obtain ⟨g3, g4, g5⟩ := g1
          have g3 := Nat.le_of_ble_eq_true g3
          have g4 := Nat.le_of_ble_eq_true g4
          simp only [wk_wr_eq, wk_adw_eq, wk_fN_eq, wk_fS_eq] at g2
          refine wk_hp_ok C hbx hd hlk hw hp hl (Nat.le_trans (by omega) hfr) (Nat.le_trans (by omega) hlo) g5 (Nat.le_trans g3 hRc) (Nat.le_trans g4 hRs) hr hS hs (fun H' locs' more' ws' st' hS' hr' hs' hsame => ?_)
          have ha' : wk_f2 (wk_rl (as0 ++ (more ++ more')) z ρ) AL lv := by
            rw [← List.append_assoc]
            exact wk_f2_mono (fun a b q => ⟨q.1, wk_r_mono more' q.2⟩) ha
          rw [List.append_assoc] at hr' hs'
          exact ih _ _ _ _ _ _ _ _ _ g2 hin hbx g3 g4 H' locs' (more ++ more') ws' ls lv st' hS' hr' hl ha' hs' (fun j hj hjw => by
            obtain ⟨j1, j2⟩ := wk_adw1_r hjw
            rw [hsame j (by omega) j2]
            exact hsm j hj j1)
        have cutv : ∀ (q : Nat × List (Int × Int)) (fs2 : List wk_F), wk_cutv (fun iv => wk_go mt Lz M cut call fuel iv pc0 AL AS AH nc ns wrs) iv q = some fs2 → (∀ f ∈ fs2, f ∈ L) → W p l e R s m args below meth c H locs nc ns (MQ below (wk_Qc D A z ρ L as0 ws0) args s (wk_Mk M) (wk_Ms M) A) (F0 m pc0 ls st) := by
          rintro ⟨v, ps⟩ fs2 hg hin
          unfold wk_cutv at hg
          cases hv : wk_at iv v with
          | none => rw [hv] at hg; cases hg
          | some q =>
            obtain ⟨lo, hi⟩ := q
            rw [hv] at hg
            obtain ⟨g1, g2⟩ := wk_bt hg
            rw [wk_at_eq] at hv
            obtain ⟨b1, b2⟩ := hbx v _ hv
            obtain ⟨q, q1, q2, q3⟩ := wk_cv_r _ _ _ _ g1 b1 b2
            obtain ⟨x2, x3, x4⟩ := wk_fold_r g2 q q1
            rw [wk_put_eq] at x3
            exact ih _ _ _ _ _ _ _ _ _ x3 (fun f hf => hin f (x4 f hf)) (wk_bx_set hbx q2 q3) hnc hns H locs more ws ls lv st hS hr hl ha hs hsm
        have h : (match wk_fast t (bif Nat.beq t 7 then x.1 else a.toNat) n a iv (wk_Ml M) pc0 AL AS with
          | some (pc', AL', AS') => wk_fN pc' fun pc' => wk_fS AS' fun AS' => wk_go mt Lz M cut call fuel iv pc' AL' AS' AH nc ns wrs
          | none => match wk_hfast t Lz iv x AS AH with
            | some r => wk_hgo M (fun pc AS AH nc ns wrs => wk_go mt Lz M cut call fuel iv pc AL AS AH nc ns wrs) pc0 AH nc ns wrs r
            | none => wk_slow mt Lz M call (wk_go mt Lz M cut call fuel) i x iv pc0 AL AS AH nc ns wrs) = some fs := h
        cases hf : wk_fast t (bif Nat.beq t 7 then x.1 else a.toNat) n a iv (wk_Ml M) pc0 AL AS with
        | some P =>
          obtain ⟨pc', AL', AS'⟩ := P
          rw [hf] at h
          simp only [wk_fN_eq, wk_fS_eq] at h
          exact pure _ (wk_fast_ok hlk hot hf) ⟨fs, h, hfs⟩
        | none =>
          rw [hf] at h
          simp only at h
          cases hh : wk_hfast t Lz iv x AS AH with
          | some q =>
            rw [hh] at h
            exact heap q fs (wk_hfast_ok hot hh) h hfs
          | none =>
            rw [hh] at h
            simp only at h
            unfold wk_slow at h
            cases hn : wk_need iv i AS with
            | some q =>
              rw [hn] at h
              exact cutv q fs h hfs
            | none =>
              rw [hn] at h
              simp only at h
              cases hrt : wk_ret iv M i AS with
              | some rv =>
                rw [hrt] at h
                cases h
                exact wk_ret_ok hx hb hret hlocks hbx hd hlk hrt (hfs _ List.mem_cons_self) hsm hnc hns hr hS hs
              | none =>
                rw [hrt] at h
                simp only at h
                cases hpu : wk_pure iv (wk_Ml M) i x.2.2 pc0 AL AS with
                | some P =>
                  obtain ⟨pc', AL', AS'⟩ := P
                  rw [hpu] at h
                  simp only [wk_fN_eq, wk_fLs_eq, wk_fA_eq, wk_fS_eq] at h
                  exact pure _ hpu ⟨fs, h, hfs⟩
                | none =>
                  rw [hpu] at h
                  simp only at h
                  cases hhp : wk_hp Lz iv i x AS AH with
                  | some q =>
                    rw [hhp] at h
                    exact heap q fs hhp h hfs
                  | none =>
                    rw [hhp] at h
                    simp only at h
                    cases hcl : wk_call mt i x AS AH with
                    | some q =>
                      obtain ⟨M2, av, r⟩ := q
                      rw [hcl] at h
                      simp only at h
                      unfold wk_cgo at h
                      obtain ⟨g1, g2⟩ := wk_bt h
                      simp only [Bool.and_eq_true] at g1
                      have g3 := Nat.le_of_ble_eq_true g1.1
                      have g4 := Nat.le_of_ble_eq_true g1.2
                      cases hcf : call x.2.1 av iv AH with
                      | none => rw [hcf] at g2; cases g2
                      | some fs1 =>
                        rw [hcf] at g2
                        simp only [wk_fN_eq, wk_uni_eq] at g2
                        have hmm : mt x.2.1 = some M2 := wk_call_m hcl
                        obtain ⟨d2, ed, hMet⟩ := hcall _ _ _ _ _ _ hmm hcf hbx
                        refine wk_call_ok (fs := fs1) (d := d2) C hmt hd hlk hw hoc hcl hl (hMet _ ws) (by omega) (by omega) (Nat.le_trans g3 hRc) (Nat.le_trans g4 hRs) hr hS hs (fun f hf1 hbf rv more' ws1 H1 locs1 rest hrest hrv hr1 hsm1 hS1 => ?_)
                        obtain ⟨x2, x3, x4⟩ := wk_fold_r g2 f hf1
                        have ha' : wk_f2 (wk_rl (as0 ++ (more ++ more')) z ρ) AL lv := by
                          rw [← List.append_assoc]
                          exact wk_f2_mono (fun a b q => ⟨q.1, wk_r_mono more' q.2⟩) ha
                        have hs' : wk_f2 (wk_r (as0 ++ (more ++ more')) z ρ) (wk_st f.1 f.2.1 r) (rv.toList ++ rest) := by
                          rw [← List.append_assoc]
                          have hrest' := wk_f2_mono (fun a b q => wk_r_mono (as := as0 ++ more) (z := z) (ρ := ρ) (v := a) (x := b) more' q) hrest
                          cases hf2 : f.2.1 with
                          | none =>
                            rw [hf2] at hrv
                            cases rv with
                            | none => exact hrest'
                            | some _ => exact hrv.elim
                          | some v =>
                            rw [hf2] at hrv
                            cases rv with
                            | none => exact hrv.elim
                            | some xv => exact ⟨hrv, hrest'⟩
                        rw [List.append_assoc] at hr1
                        exact ih _ _ _ _ _ _ _ _ _ x3 (fun q hq => hfs q (x4 q hq)) hbf g3 g4 H1 locs1 (more ++ more') ws1 ls lv _ hS1 hr1 hl ha' hs' (fun j hj hjw => by
                          obtain ⟨j1, j2⟩ := wk_uni1_r hjw
                          rw [hsm1 j (by omega) j1]
                          exact hsm j hj j2)
                    | none =>
                      rw [hcl] at h
                      simp only at h
                      cases hu : wk_undec iv i AS with
                      | none => rw [hu] at h; cases h
                      | some q =>
                        rw [hu] at h
                        exact cutv q fs h hfs
end WKG
theorem wk_slen : ∀ vals : List Value, (lg_sl vals).length = (vals.map fun v => v.category).sum
  | [] => rfl
  | v :: vs => by
    have e : lg_sl (v :: vs) = (if v.category = 2 then [Slot.val v, Slot.second] else [Slot.val v]) ++ lg_sl vs := rfl
    rw [e, List.length_append, wk_slen vs, List.map_cons, List.sum_cons]
    rcases lv_cat v with h | h <;> rw [h] <;> rfl
/-- a method from its entry -/
theorem wk_run_ok {l : Launch} {z : Nat → Nat} {Lz : Nat} {D : va_G} {A : Nat → Prop} {ρ : Nat → Int32} {mt : Nat → Option wk_M} {mw : wk_W} (fuel : Nat) (hmt : ∀ id M, mt id = some M → wk_okm mt mw id M = true) (hρ : ρ 5 = ρ 0 &&& 63) (hzA : ¬ A (z 0)) (hLz : Lz < 2 ^ 31) :
    ∀ (d id : Nat) (M : wk_M) (av : List wk_V) (iv : wk_I) (AH : wk_A) (fs : List wk_F), mt id = some M → wk_run mt Lz fuel d id av iv AH = some fs → wk_bx ρ iv → ∃ d2, d2 + 1 ≤ d ∧ ∀ (as : List Nat) (ws : va_W) (vals : List Value), wk_f2 (wk_r as z ρ) av vals → Met l (wk_My M) (wk_ws M) (wk_rm M d2) (wk_Pc D A z Lz ρ vals AH as ws) (wk_Qc D A z ρ fs as ws) (wk_Mk M) (wk_Ms M) A := by
  intro d
  induction d with
  | zero => intro id M av iv AH fs _ h; cases h
  | succ d ih =>
    intro id M av iv AH fs hm h hbx
    have h : (match mt id with
      | some M => bif Nat.ble (wk_cat av) (wk_Ml M) then wk_go mt Lz M (fun _ _ _ _ _ _ _ _ => false) (wk_run mt Lz fuel d) fuel iv 0 (wk_args 0 av) [] AH 0 0 [] else none
      | none => none) = some fs := h
    rw [hm] at h
    simp only at h
    replace h := wk_bt h
    obtain ⟨hcat, h⟩ := h
    have hcat := Nat.le_of_ble_eq_true hcat
    refine ⟨d, Nat.le_refl _, fun as ws vals hv => ?_⟩
    have hok := hmt _ _ hm
    unfold wk_okm at hok
    simp only [Bool.and_eq_true, decide_eq_true_eq] at hok
    obtain ⟨ok1, ⟨ok2, ok3, ok4⟩, ok5, ok6, ok7⟩ := hok
    have hM : ∀ r ∈ wk_Mx M, ∀ row ∈ r, wk_okx mt mw (wk_My M) (wk_Mb M) row = true := fun r hr row hrow => List.all_eq_true.mp (List.all_eq_true.mp ok7 r hr) row hrow
    refine Met.ofW (cc := wk_Mb M) (maxL := wk_Ml M) (ret := wk_Mr M) ok1 rfl ?_
    intro p e s m args below meth c s₁ B hml hP
    obtain ⟨rfl, hK, hX, hz, hA, hr⟩ := hP
    have hts : ∀ w ∈ wk_tbl, w.before vals.toArray s = true := fun w hw => atoms_spec (ws := wk_ws M) B.pre w (List.mem_cons_of_mem _ hw)
    have hown : s.vm.findClass (wk_My M).cls = some m.cls := findClass_of_methodNamed B.named
    have hname : meth.name = (wk_My M).name := (name_of_methodNamed B.named B.method).1
    have C : wk_cx p s m vals.toArray meth c (wk_Mb M) (wk_My M) (wk_Ml M) D A z Lz ρ := ⟨B.exec, B.bytes, hml, hown, hts, hK, hA, hname, hX, hz, hzA, hLz⟩
    have hlen : (lg_sl vals).length ≤ wk_Ml M := by rw [wk_slen, ← wk_cat_r hv]; exact hcat
    rw [lg_entry_eq]
    have hl := lv_entry vals (n := wk_Ml M) hlen
    have key := wk_go_ok (R := (headSpec (wk_ws M) (wk_rm M d)).room) (l := l) (e := e) (below := below) (L := fs) (as0 := as) (d := d) hmt hM C B.returns B.notSynchronized hρ (Nat.le_refl _) (Nat.le_refl _) (Nat.le_refl _) (Nat.le_refl _) (fun id M2 av iv AH fs h1 h2 h3 => ih id M2 av iv AH fs h1 h2 h3) (ws0 := ws) (by rw [← hr.2.2.2.1, List.length_map]) (fun _ _ _ _ _ _ _ _ q => by cases q) fuel iv 0 (wk_args 0 av) [] AH 0 0 [] fs h (fun _ q => q) hbx (Nat.zero_le _) (Nat.zero_le _) s.heap [] [] ws _ _ [] va_S.rf (by rw [List.append_nil]; exact hr) hl (by rw [List.append_nil]; exact wk_args_r 0 hv) trivial (fun _ _ _ => rfl)
    exact key
