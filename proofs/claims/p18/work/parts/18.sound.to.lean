section
-- 18.sound
/-! ===== the run is sound ===== -/
theorem wk_ret_ok {p : Program} {l : Launch} {e : Env} {R : Room} {s : State} {m : MethodId} {args : Array Value} {below : List Frame} {meth : Method} {c : Code} {H : Heap} {locs : List Loc} {cc : ByteArray} {pc : Nat} {ls : Array Slot} {z : Nat → Nat} {D : va_G} {A : Nat → Prop} {as0 more : List Nat} {ρ : Nat → Int32} {iv : wk_I} {AS : List wk_V} {AH : wk_A} {ws : va_W} {st : List Value} {M : wk_M} {i : Instr} {n : Nat} {rv : Option wk_V} {L : List wk_F} {nc ns : Nat} {ws0 : va_W} {wrs : List Nat}
    (hx : p.tables.exec = Jvm.exec) (hb : c.code = cc) (hret : meth.sig.returnType = wk_Mr M) (hlocks : meth.locks = false) (hbx : wk_bx ρ iv) (hd : decode cc pc = .ok (i, n)) (hlk : wk_lk i n = true) (hp : wk_ret iv M i AS = some rv) (hL : (iv, rv, AH, wrs) ∈ L) (hsm : ∀ j : Nat, j < ws0.length → j ∉ wrs → ws[j]? = ws0[j]?) (h1 : nc ≤ wk_Mk M) (h2 : ns ≤ wk_Ms M) (hr : wk_hr D A s (as0 ++ more) z ρ AH ws H) (hS : va_S A s.heap H locs) (hs : wk_f2 (wk_r (as0 ++ more) z ρ) AS st) : W p l e R s m args below meth c H locs nc ns (MQ below (wk_Qc D A z ρ L as0 ws0) args s (wk_Mk M) (wk_Ms M) A) (F0 m pc ls st) := by
  refine W.widen h1 h2 ?_
  have fin : ∀ (rx : Option Value), wk_rv (as0 ++ more) z ρ rv rx → ∀ t : State, t.heap = H → s.WarmedH t.vm → wk_Qc D A z ρ L as0 ws0 args s (.returned rx) t := fun rx hrx t ht hW =>
    ⟨⟨_, hL, hbx, rx, more, ws, rfl, hrx, by rw [ht]; exact wk_hr_moved hW.alike hr, hsm⟩, hS.F ht⟩
  unfold wk_ret at hp
  split at hp
  · rename_i hm
    cases hp
    obtain rfl := Nat.eq_of_beq_eq_true hlk
    have := wk_f2_nil hs
    subst this
    exact W.vret hx hb (hret.trans hm) (fin none trivial) hS.2.2 hd hlocks
  · rename_i v hm
    obtain ⟨y0, st1, rfl, hv, hs1⟩ := wk_f2_cons hs
    have := wk_f2_nil hs1
    subst this
    obtain rfl := Nat.eq_of_beq_eq_true hlk
    split at hp
    · cases hp
      rename_i hg
      obtain ⟨q, hq⟩ := Option.isSome_iff_exists.mp hg
      obtain ⟨i0, rfl, -⟩ := wk_gi_r hbx hq hv
      exact W.iret hx hb (hret.trans hm) (fin _ hv) hS.2.2 hd hlocks
    · cases hp
  · rename_i v hm
    obtain ⟨y0, st1, rfl, hv, hs1⟩ := wk_f2_cons hs
    have := wk_f2_nil hs1
    subst this
    obtain rfl := Nat.eq_of_beq_eq_true hlk
    split at hp
    · cases hp
      rename_i hg
      have hi : ∃ i0 : Int32, y0 = .int i0 := by
        have hg2 := hg
        unfold wk_fit at hg2
        cases hgi : wk_gi iv v with
        | none => rw [hgi] at hg2; cases hg2
        | some q =>
          obtain ⟨i0, e0, -⟩ := wk_gi_r hbx hgi hv
          exact ⟨i0, e0⟩
      obtain ⟨i0, rfl⟩ := hi
      exact W.zret hx hb (hret.trans hm) (wk_fit_r (ty := .boolean) hbx hg hv).1 (fin _ hv) hS.2.2 hd hlocks
    · cases hp
  · rename_i v hm
    obtain ⟨y0, st1, rfl, hv, hs1⟩ := wk_f2_cons hs
    have := wk_f2_nil hs1
    subst this
    obtain rfl := Nat.eq_of_beq_eq_true hlk
    split at hp
    · cases hp
      rename_i hg
      obtain ⟨q, hq⟩ := Option.isSome_iff_exists.mp hg
      obtain ⟨i0, rfl, -⟩ := wk_gj_r hbx hq hv
      exact W.lret hx hb (hret.trans hm) (fin _ hv) hS.2.2 hd hlocks
    · cases hp
  · cases hp
/-- what a run of the engine says of the machine at a frame -/
def wk_says (p : Program) (l : Launch) (e : Env) (R : Room) (s : State) (m : MethodId) (args : Array Value) (below : List Frame) (meth : Method) (c : Code) (D : va_G) (A : Nat → Prop) (z : Nat → Nat) (ρ : Nat → Int32) (M : wk_M) (L : List wk_F) (as0 : List Nat) (ws0 : va_W) (iv : wk_I) (pc : Nat) (AL : wk_L) (AS : List wk_V) (AH : wk_A) (nc ns : Nat) (wrs : List Nat) : Prop :=
  wk_bx ρ iv → nc ≤ wk_Mk M → ns ≤ wk_Ms M → ∀ (H : Heap) (locs : List Loc) (more : List Nat) (ws : va_W) (ls : Array Slot) (lv : List (Nat × Value)) (st : List Value), va_S A s.heap H locs → wk_hr D A s (as0 ++ more) z ρ AH ws H → lv_has ls (wk_Ml M) lv → wk_f2 (wk_rl (as0 ++ more) z ρ) AL lv → wk_f2 (wk_r (as0 ++ more) z ρ) AS st → (∀ j : Nat, j < ws0.length → j ∉ wrs → ws[j]? = ws0[j]?) → W p l e R s m args below meth c H locs nc ns (MQ below (wk_Qc D A z ρ L as0 ws0) args s (wk_Mk M) (wk_Ms M) A) (F0 m pc ls st)
theorem wk_fetch_r {M : wk_M} {pc : Nat} {row : wk_X} (h : wk_fetch M pc = some row) : row.1 = pc ∧ ∃ r ∈ wk_Mx M, row ∈ r := by
  unfold wk_fetch at h
  cases hr : wk_at (wk_Mx M) (pc / 16) with
  | none => rw [hr] at h; cases h
  | some r =>
    rw [hr] at h
    rw [wk_at_eq] at hr
    have h : r.find? (fun x => Nat.beq x.1 pc) = some row := h
    have h2 := List.find?_some h
    exact ⟨Nat.eq_of_beq_eq_true h2, r, List.mem_of_getElem? hr, List.mem_of_find?_eq_some h⟩
theorem wk_call_m {mt : Nat → Option wk_M} {i : Instr} {x : Nat × Nat × Int} {AS : List wk_V} {AH : wk_A} {M : wk_M} {av r : List wk_V} (h : wk_call mt i x AS AH = some (M, av, r)) : mt x.2.1 = some M := by
  unfold wk_call at h
  split at h
  · cases hm : mt x.2.1 with
    | none => rw [hm] at h; cases h
    | some M0 =>
      rw [hm] at h
      simp only at h
      split at h
      · split at h
        · split at h
          · split at h
            · split at h
              · cases h; rfl
              · cases h
            · cases h
          · cases h
          · split at h
            · cases h; rfl
            · cases h
          · cases h
          · cases h; rfl
        · cases h
      · cases h
  · cases h
section WKG
variable {p : Program} {l : Launch} {e : Env} {R : Room} {s : State} {m : MethodId} {args : Array Value} {below : List Frame} {meth : Method} {c : Code} {z : Nat → Nat} {Lz d : Nat} {D : va_G} {A : Nat → Prop} {as0 : List Nat} {ρ : Nat → Int32} {M : wk_M} {mt : Nat → Option wk_M} {mw : wk_W} {L : List wk_F} {call : wk_K} {cut : wk_Cu} {ws0 : va_W}
set_option maxHeartbeats 4000000 in
theorem wk_go_ok (hmt : ∀ id M, mt id = some M → wk_okm mt mw id M = true) (hM : ∀ r ∈ wk_Mx M, ∀ row ∈ r, wk_okx mt mw (wk_My M) (wk_Mb M) row = true) (C : wk_cx p s m args meth c (wk_Mb M) (wk_My M) (wk_Ml M) D A z Lz ρ) (hret : meth.sig.returnType = wk_Mr M) (hlocks : meth.locks = false) (hρ : ρ 5 = ρ 0 &&& 63)
    (hfr : d + 1 ≤ R.frames) (hlo : 100 + 200 * d ≤ R.locals) (hRc : wk_Mk M ≤ R.cells) (hRs : wk_Ms M ≤ R.slots)
    (hcall : ∀ id M2 av iv AH fs, mt id = some M2 → call id av iv AH = some fs → wk_bx ρ iv → ∃ d2, d2 + 1 ≤ d ∧ ∀ (as : List Nat) (ws : va_W) (vals : List Value), wk_f2 (wk_r as z ρ) av vals → Met l (wk_My M2) (wk_ws M2) (wk_rm M2 d2) (wk_Pc D A z Lz ρ vals AH as ws) (wk_Qc D A z ρ fs as ws) (wk_Mk M2) (wk_Ms M2) A)
    (hw0 : ws0.length = as0.length) (hcut : ∀ iv pc AL AS AH nc ns wrs, cut iv pc AL AS AH nc ns wrs = true → wk_says p l e R s m args below meth c D A z ρ M L as0 ws0 iv pc AL AS AH nc ns wrs) :
    ∀ (fuel : Nat) (iv : wk_I) (pc : Nat) (AL : wk_L) (AS : List wk_V) (AH : wk_A) (nc ns : Nat) (wrs : List Nat) (fs : List wk_F), wk_go mt Lz M cut call fuel iv pc AL AS AH nc ns wrs = some fs → (∀ f ∈ fs, f ∈ L) → wk_says p l e R s m args below meth c D A z ρ M L as0 ws0 iv pc AL AS AH nc ns wrs := by
  intro fuel
  induction fuel with
  | zero => intro iv pc AL AS AH nc ns wrs fs h; cases h
  | succ fuel ih =>
    intro iv pc AL AS AH nc ns wrs fs h hfs
    have h : (bif cut iv pc AL AS AH nc ns wrs then some [] else match wk_fetch M pc with
      | none => none
      | some row => wk_one mt Lz M call (wk_go mt Lz M cut call fuel) row iv pc AL AS AH nc ns wrs) = some fs := h
    cases hc : cut iv pc AL AS AH nc ns wrs with
    | true => exact hcut _ _ _ _ _ _ _ _ hc
    | false =>
      rw [hc] at h
      simp only [cond_false] at h
      cases hrow : wk_fetch M pc with
      | none => rw [hrow] at h; cases h
      | some row =>
        rw [hrow] at h
        obtain ⟨pc0, i, n, x, wd, t, a⟩ := row
        obtain ⟨e0, r0, hr0, hrow0⟩ := wk_fetch_r hrow
        simp only at e0
        subst e0
        have hok := hM r0 hr0 _ hrow0
        unfold wk_okx at hok
        simp only [Bool.and_eq_true, decide_eq_true_eq] at hok
        obtain ⟨hd, hlk, hw, hot, hoc⟩ := hok
        intro hbx hnc hns H locs more ws ls lv st hS hr hl ha hs hsm
        obtain ⟨hx, hb, hml, hown, hts, hK, hA, hname, hX, hz, hzA, hLz⟩ := id C
        have hwl : ws0.length ≤ ws.length := by
          have e1 := congrArg List.length hr.2.2.2.1
          rw [List.length_map, List.length_append] at e1
          omega
        -- words of constants
        have hc1 : ∀ idx, i = .ldc idx ∨ i = .ldc_w idx → (Jvm.Cond.constant (wk_My M).cls idx (Int32.ofInt x.2.2)).before args s = true := by
          intro idx hi
          rcases hi with rfl | rfl
          · match wd, hw with
            | [q1], hw => exact hts _ (wk_has_in hw)
            | [], hw => cases hw
            | _ :: _ :: _, hw => cases hw
          · match wd, hw with
            | [q1], hw => exact hts _ (wk_has_in hw)
            | [], hw => cases hw
            | _ :: _ :: _, hw => cases hw
        have hc2 : ∀ idx, i = .ldc2_w idx → (Jvm.Cond.constantLong (wk_My M).cls idx (Int64.ofInt x.2.2)).before args s = true := by
          rintro idx rfl
          match wd, hw with
          | [q1], hw => exact hts _ (wk_has_in hw)
          | [], hw => cases hw
          | _ :: _ :: _, hw => cases hw
        have pure : ∀ (P : wk_P), wk_pure iv (wk_Ml M) i x.2.2 pc0 AL AS = some P → (∃ fs2, wk_go mt Lz M cut call fuel iv P.1 P.2.1 P.2.2 AH nc ns wrs = some fs2 ∧ ∀ f ∈ fs2, f ∈ L) → W p l e R s m args below meth c H locs nc ns (MQ below (wk_Qc D A z ρ L as0 ws0) args s (wk_Mk M) (wk_Ms M) A) (F0 m pc0 ls st) := by
          rintro ⟨pc', AL', AS'⟩ hp ⟨fs2, hg, hin⟩
          exact wk_pure_ok hx hb hown hd hlk hc1 hc2 hbx hρ hp hl ha hs (fun ls' lv' st' hl' ha' hs' => ih _ _ _ _ _ _ _ _ _ hg hin hbx hnc hns H locs more ws ls' lv' st' hS hr hl' ha' hs' hsm)
        have heap : ∀ (q : wk_H) (fs2 : List wk_F), wk_hp Lz iv i x AS AH = some q → wk_hgo M (fun pc AS AH nc ns wrs => wk_go mt Lz M cut call fuel iv pc AL AS AH nc ns wrs) pc0 AH nc ns wrs q = some fs2 → (∀ f ∈ fs2, f ∈ L) → W p l e R s m args below meth c H locs nc ns (MQ below (wk_Qc D A z ρ L as0 ws0) args s (wk_Mk M) (wk_Ms M) A) (F0 m pc0 ls st) := by
          rintro ⟨dd, AS', w, nw, dc, ds⟩ fs2 hp hg hin
          have hg : (bif Nat.ble (nc + dc) (wk_Mk M) && (Nat.ble (ns + ds) (wk_Ms M) && wk_room AH nw AH.1) then wk_wr AH w nw (fun AH' => wk_adw wrs w fun wrs' => wk_fN (pc0 + dd) fun pc' => wk_fS AS' fun AS' => wk_fN (nc + dc) fun nc' => wk_fN (ns + ds) fun ns' => wk_go mt Lz M cut call fuel iv pc' AL AS' AH' nc' ns' wrs') else none) = some fs2 := hg
          obtain ⟨g1, g2⟩ := wk_bt hg
          simp only [Bool.and_eq_true] at g1
          obtain ⟨g3, g4, g5⟩ := g1
          have g3 := Nat.le_of_ble_eq_true g3
          have g4 := Nat.le_of_ble_eq_true g4
          simp only [wk_wr_eq, wk_adw_eq, wk_fN_eq, wk_fS_eq] at g2
          refine wk_hp_ok C hbx hd hlk hw hp hl (Nat.le_trans (by omega) hfr) (Nat.le_trans (by omega) hlo) g5 (Nat.le_trans g3 hRc) (Nat.le_trans g4 hRs) hr hS hs (fun H' locs' more' ws' st' hS' hr' hs' hsame => ?_)
          have ha' : wk_f2 (wk_rl (as0 ++ (more ++ more')) z ρ) AL lv := by
            rw [← List.append_assoc]
            exact wk_f2_mono (fun a b q => ⟨q.1, wk_r_mono more' q.2⟩) ha
          rw [List.append_assoc] at hr' hs'
          exact ih _ _ _ _ _ _ _ _ _ g2 hin hbx g3 g4 H' locs' (more ++ more') ws' ls lv st' hS' hr' hl ha' hs' (fun j hj hjw => by
            obtain ⟨j1, j2⟩ := wk_adw1_r hjw
            rw [hsame j (by omega) j2]
            exact hsm j hj j1)
        have cutv : ∀ (q : Nat × List (Int × Int)) (fs2 : List wk_F), wk_cutv (fun iv => wk_go mt Lz M cut call fuel iv pc0 AL AS AH nc ns wrs) iv q = some fs2 → (∀ f ∈ fs2, f ∈ L) → W p l e R s m args below meth c H locs nc ns (MQ below (wk_Qc D A z ρ L as0 ws0) args s (wk_Mk M) (wk_Ms M) A) (F0 m pc0 ls st) := by
          rintro ⟨v, ps⟩ fs2 hg hin
          unfold wk_cutv at hg
          cases hv : wk_at iv v with
          | none => rw [hv] at hg; cases hg
          | some q =>
            obtain ⟨lo, hi⟩ := q
            rw [hv] at hg
            obtain ⟨g1, g2⟩ := wk_bt hg
            rw [wk_at_eq] at hv
            obtain ⟨b1, b2⟩ := hbx v _ hv
            obtain ⟨q, q1, q2, q3⟩ := wk_cv_r _ _ _ _ g1 b1 b2
            obtain ⟨x2, x3, x4⟩ := wk_fold_r g2 q q1
            rw [wk_put_eq] at x3
            exact ih _ _ _ _ _ _ _ _ _ x3 (fun f hf => hin f (x4 f hf)) (wk_bx_set hbx q2 q3) hnc hns H locs more ws ls lv st hS hr hl ha hs hsm
        have h : (match wk_fast t (bif Nat.beq t 7 then x.1 else a.toNat) n a iv (wk_Ml M) pc0 AL AS with
          | some (pc', AL', AS') => wk_fN pc' fun pc' => wk_fS AS' fun AS' => wk_go mt Lz M cut call fuel iv pc' AL' AS' AH nc ns wrs
          | none => match wk_hfast t Lz iv x AS AH with
            | some r => wk_hgo M (fun pc AS AH nc ns wrs => wk_go mt Lz M cut call fuel iv pc AL AS AH nc ns wrs) pc0 AH nc ns wrs r
            | none => wk_slow mt Lz M call (wk_go mt Lz M cut call fuel) i x iv pc0 AL AS AH nc ns wrs) = some fs := h
        cases hf : wk_fast t (bif Nat.beq t 7 then x.1 else a.toNat) n a iv (wk_Ml M) pc0 AL AS with
        | some P =>
          obtain ⟨pc', AL', AS'⟩ := P
          rw [hf] at h
          simp only [wk_fN_eq, wk_fS_eq] at h
          exact pure _ (wk_fast_ok hlk hot hf) ⟨fs, h, hfs⟩
        | none =>
          rw [hf] at h
          simp only at h
          cases hh : wk_hfast t Lz iv x AS AH with
          | some q =>
            rw [hh] at h
            exact heap q fs (wk_hfast_ok hot hh) h hfs
          | none =>
            rw [hh] at h
            simp only at h
            unfold wk_slow at h
            cases hn : wk_need iv i AS with
            | some q =>
              rw [hn] at h
              exact cutv q fs h hfs
            | none =>
              rw [hn] at h
              simp only at h
              cases hrt : wk_ret iv M i AS with
              | some rv =>
                rw [hrt] at h
                cases h
                exact wk_ret_ok hx hb hret hlocks hbx hd hlk hrt (hfs _ List.mem_cons_self) hsm hnc hns hr hS hs
              | none =>
                rw [hrt] at h
                simp only at h
                cases hpu : wk_pure iv (wk_Ml M) i x.2.2 pc0 AL AS with
                | some P =>
                  obtain ⟨pc', AL', AS'⟩ := P
                  rw [hpu] at h
                  simp only [wk_fN_eq, wk_fLs_eq, wk_fA_eq, wk_fS_eq] at h
                  exact pure _ hpu ⟨fs, h, hfs⟩
                | none =>
                  rw [hpu] at h
                  simp only at h
                  cases hhp : wk_hp Lz iv i x AS AH with
                  | some q =>
                    rw [hhp] at h
                    exact heap q fs hhp h hfs
                  | none =>
                    rw [hhp] at h
                    simp only at h
                    cases hcl : wk_call mt i x AS AH with
                    | some q =>
                      obtain ⟨M2, av, r⟩ := q
                      rw [hcl] at h
                      simp only at h
                      unfold wk_cgo at h
                      obtain ⟨g1, g2⟩ := wk_bt h
                      simp only [Bool.and_eq_true] at g1
                      have g3 := Nat.le_of_ble_eq_true g1.1
                      have g4 := Nat.le_of_ble_eq_true g1.2
                      cases hcf : call x.2.1 av iv AH with
                      | none => rw [hcf] at g2; cases g2
                      | some fs1 =>
                        rw [hcf] at g2
                        simp only [wk_fN_eq, wk_uni_eq] at g2
                        have hmm : mt x.2.1 = some M2 := wk_call_m hcl
                        obtain ⟨d2, ed, hMet⟩ := hcall _ _ _ _ _ _ hmm hcf hbx
                        refine wk_call_ok (fs := fs1) (d := d2) C hmt hd hlk hw hoc hcl hl (hMet _ ws) (by omega) (by omega) (Nat.le_trans g3 hRc) (Nat.le_trans g4 hRs) hr hS hs (fun f hf1 hbf rv more' ws1 H1 locs1 rest hrest hrv hr1 hsm1 hS1 => ?_)
                        obtain ⟨x2, x3, x4⟩ := wk_fold_r g2 f hf1
                        have ha' : wk_f2 (wk_rl (as0 ++ (more ++ more')) z ρ) AL lv := by
                          rw [← List.append_assoc]
                          exact wk_f2_mono (fun a b q => ⟨q.1, wk_r_mono more' q.2⟩) ha
                        have hs' : wk_f2 (wk_r (as0 ++ (more ++ more')) z ρ) (wk_st f.1 f.2.1 r) (rv.toList ++ rest) := by
                          rw [← List.append_assoc]
                          have hrest' := wk_f2_mono (fun a b q => wk_r_mono (as := as0 ++ more) (z := z) (ρ := ρ) (v := a) (x := b) more' q) hrest
                          cases hf2 : f.2.1 with
                          | none =>
                            rw [hf2] at hrv
                            cases rv with
                            | none => exact hrest'
                            | some _ => exact hrv.elim
                          | some v =>
                            rw [hf2] at hrv
                            cases rv with
                            | none => exact hrv.elim
                            | some xv => exact ⟨hrv, hrest'⟩
                        rw [List.append_assoc] at hr1
                        exact ih _ _ _ _ _ _ _ _ _ x3 (fun q hq => hfs q (x4 q hq)) hbf g3 g4 H1 locs1 (more ++ more') ws1 ls lv _ hS1 hr1 hl ha' hs' (fun j hj hjw => by
                          obtain ⟨j1, j2⟩ := wk_uni1_r hjw
                          rw [hsm1 j (by omega) j1]
                          exact hsm j hj j2)
                    | none =>
                      rw [hcl] at h
                      simp only at h
                      cases hu : wk_undec iv i AS with
                      | none => rw [hu] at h; cases h
                      | some q =>
                        rw [hu] at h
                        exact cutv q fs h hfs
end WKG
theorem wk_slen : ∀ vals : List Value, (lg_sl vals).length = (vals.map fun v => v.category).sum
  | [] => rfl
  | v :: vs => by
    have e : lg_sl (v :: vs) = (if v.category = 2 then [Slot.val v, Slot.second] else [Slot.val v]) ++ lg_sl vs := rfl
    rw [e, List.length_append, wk_slen vs, List.map_cons, List.sum_cons]
    rcases lv_cat v with h | h <;> rw [h] <;> rfl
/-- a method from its entry -/
theorem wk_run_ok {l : Launch} {z : Nat → Nat} {Lz : Nat} {D : va_G} {A : Nat → Prop} {ρ : Nat → Int32} {mt : Nat → Option wk_M} {mw : wk_W} (fuel : Nat) (hmt : ∀ id M, mt id = some M → wk_okm mt mw id M = true) (hρ : ρ 5 = ρ 0 &&& 63) (hzA : ¬ A (z 0)) (hLz : Lz < 2 ^ 31) :
    ∀ (d id : Nat) (M : wk_M) (av : List wk_V) (iv : wk_I) (AH : wk_A) (fs : List wk_F), mt id = some M → wk_run mt Lz fuel d id av iv AH = some fs → wk_bx ρ iv → ∃ d2, d2 + 1 ≤ d ∧ ∀ (as : List Nat) (ws : va_W) (vals : List Value), wk_f2 (wk_r as z ρ) av vals → Met l (wk_My M) (wk_ws M) (wk_rm M d2) (wk_Pc D A z Lz ρ vals AH as ws) (wk_Qc D A z ρ fs as ws) (wk_Mk M) (wk_Ms M) A := by
  intro d
  induction d with
  | zero => intro id M av iv AH fs _ h; cases h
  | succ d ih =>
    intro id M av iv AH fs hm h hbx
    have h : (match mt id with
      | some M => bif Nat.ble (wk_cat av) (wk_Ml M) then wk_go mt Lz M (fun _ _ _ _ _ _ _ _ => false) (wk_run mt Lz fuel d) fuel iv 0 (wk_args 0 av) [] AH 0 0 [] else none
      | none => none) = some fs := h
    rw [hm] at h
    simp only at h
    replace h := wk_bt h
    obtain ⟨hcat, h⟩ := h
    have hcat := Nat.le_of_ble_eq_true hcat
    refine ⟨d, Nat.le_refl _, fun as ws vals hv => ?_⟩
    have hok := hmt _ _ hm
    unfold wk_okm at hok
    simp only [Bool.and_eq_true, decide_eq_true_eq] at hok
    obtain ⟨ok1, ⟨ok2, ok3, ok4⟩, ok5, ok6, ok7⟩ := hok
    have hM : ∀ r ∈ wk_Mx M, ∀ row ∈ r, wk_okx mt mw (wk_My M) (wk_Mb M) row = true := fun r hr row hrow => List.all_eq_true.mp (List.all_eq_true.mp ok7 r hr) row hrow
    refine Met.ofW (cc := wk_Mb M) (maxL := wk_Ml M) (ret := wk_Mr M) ok1 rfl ?_
    intro p e s m args below meth c s₁ B hml hP
    obtain ⟨rfl, hK, hX, hz, hA, hr⟩ := hP
    have hts : ∀ w ∈ wk_tbl, w.before vals.toArray s = true := fun w hw => atoms_spec (ws := wk_ws M) B.pre w (List.mem_cons_of_mem _ hw)
    have hown : s.vm.findClass (wk_My M).cls = some m.cls := findClass_of_methodNamed B.named
    have hname : meth.name = (wk_My M).name := (name_of_methodNamed B.named B.method).1
    have C : wk_cx p s m vals.toArray meth c (wk_Mb M) (wk_My M) (wk_Ml M) D A z Lz ρ := ⟨B.exec, B.bytes, hml, hown, hts, hK, hA, hname, hX, hz, hzA, hLz⟩
    have hlen : (lg_sl vals).length ≤ wk_Ml M := by rw [wk_slen, ← wk_cat_r hv]; exact hcat
    rw [lg_entry_eq]
    have hl := lv_entry vals (n := wk_Ml M) hlen
    have key := wk_go_ok (R := (headSpec (wk_ws M) (wk_rm M d)).room) (l := l) (e := e) (below := below) (L := fs) (as0 := as) (d := d) hmt hM C B.returns B.notSynchronized hρ (Nat.le_refl _) (Nat.le_refl _) (Nat.le_refl _) (Nat.le_refl _) (fun id M2 av iv AH fs h1 h2 h3 => ih id M2 av iv AH fs h1 h2 h3) (ws0 := ws) (by rw [← hr.2.2.2.1, List.length_map]) (fun _ _ _ _ _ _ _ _ q => by cases q) fuel iv 0 (wk_args 0 av) [] AH 0 0 [] fs h (fun _ q => q) hbx (Nat.zero_le _) (Nat.zero_le _) s.heap [] [] ws _ _ [] va_S.rf (by rw [List.append_nil]; exact hr) hl (by rw [List.append_nil]; exact wk_args_r 0 hv) trivial (fun _ _ _ => rfl)
    exact key
end
section
-- 19.fast
/-! ===== rows checked fast: the bytes one after another ===== -/
theorem wq_drp {l : List UInt8} {p : Nat} {b : UInt8} {r : List UInt8} (h : l.drop p = b :: r) : l.drop (p + 1) = r := by
  have := congrArg (List.drop 1) h
  rw [List.drop_drop] at this
  exact this
theorem wq_u1 {cc : ByteArray} {p : Nat} {b : UInt8} {r : List UInt8} (h : cc.data.toList.drop p = b :: r) : (Jvm.ClassFile.Reader.u1 : Jvm.ClassFile.Decoder Nat) cc p = .ok (b.toNat, p + 1) := by
  have hb : cc.data.toList[p]? = some b := by rw [← List.head?_drop, h]; rfl
  have h2 : cc.data[p]? = some b := by rw [← Array.getElem?_toList]; exact hb
  obtain ⟨hs, e⟩ := Array.getElem?_eq_some_iff.mp h2
  have hs' : p < cc.size := hs
  have e' : cc[p]'hs' = b := e
  show (if h : p < cc.size then (do set (p + 1); pure (cc[p].toNat) : Jvm.ClassFile.Decoder Nat) else throw (Jvm.ClassFile.HasTruncated.truncated p)) cc p = _
  rw [dif_pos hs', e']
  rfl
theorem wq_u2 {cc : ByteArray} {p : Nat} {b b1 : UInt8} {r : List UInt8} (h : cc.data.toList.drop p = b :: b1 :: r) : (Jvm.ClassFile.Reader.u2 : Jvm.ClassFile.Decoder Nat) cc p = .ok (b.toNat * 256 + b1.toNat, p + 2) := by
  have e : (Jvm.ClassFile.Reader.u2 : Jvm.ClassFile.Decoder Nat) cc p = Except.bind ((Jvm.ClassFile.Reader.u1 : Jvm.ClassFile.Decoder Nat) cc p) (fun x => Except.bind ((Jvm.ClassFile.Reader.u1 : Jvm.ClassFile.Decoder Nat) cc x.2) (fun y => .ok (x.1 * 256 + y.1, y.2))) := rfl
  rw [e, wq_u1 h]
  show Except.bind ((Jvm.ClassFile.Reader.u1 : Jvm.ClassFile.Decoder Nat) cc (p + 1)) _ = _
  rw [wq_u1 (wq_drp h)]
  rfl
theorem wq_s1 {cc : ByteArray} {p : Nat} {b : UInt8} {r : List UInt8} (h : cc.data.toList.drop p = b :: r) : (Jvm.ClassFile.Reader.s1 : Jvm.ClassFile.Decoder Int) cc p = .ok (Jvm.ClassFile.Reader.signed 8 b.toNat, p + 1) := by
  have e : (Jvm.ClassFile.Reader.s1 : Jvm.ClassFile.Decoder Int) cc p = Except.bind ((Jvm.ClassFile.Reader.u1 : Jvm.ClassFile.Decoder Nat) cc p) (fun x => .ok (Jvm.ClassFile.Reader.signed 8 x.1, x.2)) := rfl
  rw [e, wq_u1 h]
  rfl
theorem wq_s2 {cc : ByteArray} {p : Nat} {b b1 : UInt8} {r : List UInt8} (h : cc.data.toList.drop p = b :: b1 :: r) : (Jvm.ClassFile.Reader.s2 : Jvm.ClassFile.Decoder Int) cc p = .ok (Jvm.ClassFile.Reader.signed 16 (b.toNat * 256 + b1.toNat), p + 2) := by
  have e : (Jvm.ClassFile.Reader.s2 : Jvm.ClassFile.Decoder Int) cc p = Except.bind ((Jvm.ClassFile.Reader.u2 : Jvm.ClassFile.Decoder Nat) cc p) (fun x => .ok (Jvm.ClassFile.Reader.signed 16 x.1, x.2)) := rfl
  rw [e, wq_u2 h]
  rfl
/-- what is read behind the opcode -/
def wq_F : { F : Nat → Nat → Jvm.ClassFile.Decoder Instr // ∀ pc, Jvm.ClassFile.Decoder.instr pc = ((Jvm.ClassFile.Reader.u1 : Jvm.ClassFile.Decoder Nat) >>= F pc) } := ⟨_, fun _ => rfl⟩
theorem wq_dcb {cc : ByteArray} {pc : Nat} {b : UInt8} {r : List UInt8} (h : cc.data.toList.drop pc = b :: r) : decode cc pc = Except.bind (wq_F.1 pc b.toNat cc (pc + 1)) (fun x => .ok (x.1, x.2 - pc)) := by
  have e : decode cc pc = Except.bind (Jvm.ClassFile.Decoder.instr pc cc pc) (fun x => .ok (x.1, x.2 - pc)) := rfl
  have e2 : ((Jvm.ClassFile.Reader.u1 : Jvm.ClassFile.Decoder Nat) >>= wq_F.1 pc) cc pc = Except.bind ((Jvm.ClassFile.Reader.u1 : Jvm.ClassFile.Decoder Nat) cc pc) (fun x => wq_F.1 pc x.1 cc x.2) := rfl
  rw [e, wq_F.2 pc, e2, wq_u1 h]
  rfl
def wq_c0 (op n : Nat) (b : UInt8) (bs : List UInt8) (k : List UInt8 → Bool) : Bool := Nat.beq b.toNat op && (Nat.beq n 1 && k bs)
def wq_c1 (op u n : Nat) (b : UInt8) (bs : List UInt8) (k : List UInt8 → Bool) : Bool := match bs with
  | [] => false
  | b1 :: bs => Nat.beq b.toNat op && (Nat.beq b1.toNat u && (Nat.beq n 2 && k bs))
def wq_c2 (op : Nat) (v : Int) (n : Nat) (b : UInt8) (bs : List UInt8) (k : List UInt8 → Bool) : Bool := match bs with
  | [] => false
  | b1 :: bs => Nat.beq b.toNat op && (decide (Jvm.ClassFile.Reader.signed 8 b1.toNat = v) && (Nat.beq n 2 && k bs))
def wq_c3 (op u n : Nat) (b : UInt8) (bs : List UInt8) (k : List UInt8 → Bool) : Bool := match bs with
  | b1 :: b2 :: bs => Nat.beq b.toNat op && (Nat.beq (b1.toNat * 256 + b2.toNat) u && (Nat.beq n 3 && k bs))
  | _ => false
def wq_c4 (op : Nat) (v : Int) (n : Nat) (b : UInt8) (bs : List UInt8) (k : List UInt8 → Bool) : Bool := match bs with
  | b1 :: b2 :: bs => Nat.beq b.toNat op && (decide (Jvm.ClassFile.Reader.signed 16 (b1.toNat * 256 + b2.toNat) = v) && (Nat.beq n 3 && k bs))
  | _ => false
def wq_c5 (op u : Nat) (v : Int) (n : Nat) (b : UInt8) (bs : List UInt8) (k : List UInt8 → Bool) : Bool := match bs with
  | b1 :: b2 :: bs => Nat.beq b.toNat op && (Nat.beq b1.toNat u && (decide (Jvm.ClassFile.Reader.signed 8 b2.toNat = v) && (Nat.beq n 3 && k bs)))
  | _ => false
def wq_c9 (cc : ByteArray) (pc : Nat) (i : Instr) (n : Nat) (bs : List UInt8) (k : List UInt8 → Bool) : Bool := decide (decode cc pc = .ok (i, n)) && (Nat.ble 1 n && k (bs.drop (n - 1)))
section WKQ
variable {cc : ByteArray} {pc op u n : Nat} {v : Int} {i : Instr} {b : UInt8} {bs : List UInt8} {k : List UInt8 → Bool}
theorem wq_c0_ok (hF : wq_F.1 pc op = Pure.pure (f := Jvm.ClassFile.Decoder) i) (h : cc.data.toList.drop pc = b :: bs) (hc : wq_c0 op n b bs k = true) : decode cc pc = .ok (i, n) ∧ k (cc.data.toList.drop (pc + n)) = true := by
  unfold wq_c0 at hc
  simp only [Bool.and_eq_true, Nat.beq_eq] at hc
  obtain ⟨h1, rfl, h3⟩ := hc
  refine ⟨?_, by rw [wq_drp h]; exact h3⟩
  rw [wq_dcb h, h1, hF]
  show Except.ok (i, pc + 1 - pc) = _
  rw [Nat.add_sub_cancel_left]
theorem wq_c1_ok {g : Nat → Instr} (hF : wq_F.1 pc op = (Jvm.ClassFile.Reader.u1 >>= fun x => Pure.pure (g x))) (h : cc.data.toList.drop pc = b :: bs) (hc : wq_c1 op u n b bs k = true) : decode cc pc = .ok (g u, n) ∧ k (cc.data.toList.drop (pc + n)) = true := by
  unfold wq_c1 at hc
  split at hc
  · cases hc
  · rename_i b1 bs
    simp only [Bool.and_eq_true, Nat.beq_eq] at hc
    obtain ⟨h1, rfl, rfl, h3⟩ := hc
    refine ⟨?_, by rw [show pc + 2 = pc + 1 + 1 from rfl, wq_drp (wq_drp h)]; exact h3⟩
    rw [wq_dcb h, h1, hF]
    show Except.bind (Except.bind ((Jvm.ClassFile.Reader.u1 : Jvm.ClassFile.Decoder Nat) cc (pc + 1)) (fun x => .ok (g x.1, x.2))) (fun x => .ok (x.1, x.2 - pc)) = _
    rw [wq_u1 (wq_drp h)]
    show Except.ok (g b1.toNat, pc + 2 - pc) = _
    rw [Nat.add_sub_cancel_left]
theorem wq_c2_ok {g : Int → Instr} (hF : wq_F.1 pc op = (Jvm.ClassFile.Reader.s1 >>= fun x => Pure.pure (g x))) (h : cc.data.toList.drop pc = b :: bs) (hc : wq_c2 op v n b bs k = true) : decode cc pc = .ok (g v, n) ∧ k (cc.data.toList.drop (pc + n)) = true := by
  unfold wq_c2 at hc
  split at hc
  · cases hc
  · rename_i b1 bs
    simp only [Bool.and_eq_true, Nat.beq_eq, decide_eq_true_eq] at hc
    obtain ⟨h1, rfl, rfl, h3⟩ := hc
    refine ⟨?_, by rw [show pc + 2 = pc + 1 + 1 from rfl, wq_drp (wq_drp h)]; exact h3⟩
    rw [wq_dcb h, h1, hF]
    show Except.bind (Except.bind ((Jvm.ClassFile.Reader.s1 : Jvm.ClassFile.Decoder Int) cc (pc + 1)) (fun x => .ok (g x.1, x.2))) (fun x => .ok (x.1, x.2 - pc)) = _
    rw [wq_s1 (wq_drp h)]
    show Except.ok (_, pc + 2 - pc) = _
    rw [Nat.add_sub_cancel_left]
theorem wq_c3_ok {g : Nat → Instr} (hF : wq_F.1 pc op = (Jvm.ClassFile.Reader.u2 >>= fun x => Pure.pure (g x))) (h : cc.data.toList.drop pc = b :: bs) (hc : wq_c3 op u n b bs k = true) : decode cc pc = .ok (g u, n) ∧ k (cc.data.toList.drop (pc + n)) = true := by
  unfold wq_c3 at hc
  split at hc
  · rename_i b1 b2 bs
    simp only [Bool.and_eq_true, Nat.beq_eq] at hc
    obtain ⟨h1, rfl, rfl, h3⟩ := hc
    refine ⟨?_, by rw [show pc + 3 = pc + 1 + 1 + 1 from rfl, wq_drp (wq_drp (wq_drp h))]; exact h3⟩
    rw [wq_dcb h, h1, hF]
    show Except.bind (Except.bind ((Jvm.ClassFile.Reader.u2 : Jvm.ClassFile.Decoder Nat) cc (pc + 1)) (fun x => .ok (g x.1, x.2))) (fun x => .ok (x.1, x.2 - pc)) = _
    rw [wq_u2 (wq_drp h)]
    show Except.ok (_, pc + 3 - pc) = _
    rw [Nat.add_sub_cancel_left]
  · cases hc
theorem wq_c4_ok {g : Int → Instr} (hF : wq_F.1 pc op = (Jvm.ClassFile.Reader.s2 >>= fun x => Pure.pure (g x))) (h : cc.data.toList.drop pc = b :: bs) (hc : wq_c4 op v n b bs k = true) : decode cc pc = .ok (g v, n) ∧ k (cc.data.toList.drop (pc + n)) = true := by
  unfold wq_c4 at hc
  split at hc
  · rename_i b1 b2 bs
    simp only [Bool.and_eq_true, Nat.beq_eq, decide_eq_true_eq] at hc
    obtain ⟨h1, rfl, rfl, h3⟩ := hc
    refine ⟨?_, by rw [show pc + 3 = pc + 1 + 1 + 1 from rfl, wq_drp (wq_drp (wq_drp h))]; exact h3⟩
    rw [wq_dcb h, h1, hF]
    show Except.bind (Except.bind ((Jvm.ClassFile.Reader.s2 : Jvm.ClassFile.Decoder Int) cc (pc + 1)) (fun x => .ok (g x.1, x.2))) (fun x => .ok (x.1, x.2 - pc)) = _
    rw [wq_s2 (wq_drp h)]
    show Except.ok (_, pc + 3 - pc) = _
    rw [Nat.add_sub_cancel_left]
  · cases hc
theorem wq_c5_ok {g : Nat → Int → Instr} (hF : wq_F.1 pc op = (Jvm.ClassFile.Reader.u1 >>= fun x => Jvm.ClassFile.Reader.s1 >>= fun y => Pure.pure (g x y))) (h : cc.data.toList.drop pc = b :: bs) (hc : wq_c5 op u v n b bs k = true) : decode cc pc = .ok (g u v, n) ∧ k (cc.data.toList.drop (pc + n)) = true := by
  unfold wq_c5 at hc
  split at hc
  · rename_i b1 b2 bs
    simp only [Bool.and_eq_true, Nat.beq_eq, decide_eq_true_eq] at hc
    obtain ⟨h1, rfl, rfl, rfl, h3⟩ := hc
    refine ⟨?_, by rw [show pc + 3 = pc + 1 + 1 + 1 from rfl, wq_drp (wq_drp (wq_drp h))]; exact h3⟩
    rw [wq_dcb h, h1, hF]
    show Except.bind (Except.bind ((Jvm.ClassFile.Reader.u1 : Jvm.ClassFile.Decoder Nat) cc (pc + 1)) (fun x => Except.bind ((Jvm.ClassFile.Reader.s1 : Jvm.ClassFile.Decoder Int) cc x.2) (fun y => .ok (g x.1 y.1, y.2)))) (fun x => .ok (x.1, x.2 - pc)) = _
    rw [wq_u1 (wq_drp h)]
    show Except.bind (Except.bind ((Jvm.ClassFile.Reader.s1 : Jvm.ClassFile.Decoder Int) cc (pc + 1 + 1)) (fun y => .ok (g b1.toNat y.1, y.2))) (fun x => .ok (x.1, x.2 - pc)) = _
    rw [wq_s1 (wq_drp (wq_drp h))]
    show Except.ok (_, pc + 3 - pc) = _
    rw [Nat.add_sub_cancel_left]
  · cases hc
theorem wq_c9_ok (h : cc.data.toList.drop pc = b :: bs) (hc : wq_c9 cc pc i n bs k = true) : decode cc pc = .ok (i, n) ∧ k (cc.data.toList.drop (pc + n)) = true := by
  unfold wq_c9 at hc
  simp only [Bool.and_eq_true, Nat.ble_eq, decide_eq_true_eq] at hc
  refine ⟨hc.1, ?_⟩
  have e : cc.data.toList.drop (pc + n) = bs.drop (n - 1) := by
    have := congrArg (List.drop n) h
    rw [List.drop_drop] at this
    rw [this]
    obtain ⟨m, rfl⟩ : ∃ m, n = m + 1 := ⟨n - 1, by omega⟩
    rfl
  rw [e]
  exact hc.2.2
end WKQ
def wq_cd : Jvm.ClassFile.Cond → Nat
  | .eq => 0
  | .ne => 1
  | .lt => 2
  | .ge => 3
  | .gt => 4
  | .le => 5
/-- an instruction as numbers: its form, the opcode, what it names -/
def wq_op : Instr → Nat × Nat × Nat × Int
  | .aaload => (0, 50, 0, 0)
  | .aastore => (0, 83, 0, 0)
  | .areturn => (0, 176, 0, 0)
  | .arraylength => (0, 190, 0, 0)
  | .baload => (0, 51, 0, 0)
  | .bastore => (0, 84, 0, 0)
  | .dup => (0, 89, 0, 0)
  | .dup2 => (0, 92, 0, 0)
  | .i2l => (0, 133, 0, 0)
  | .iadd => (0, 96, 0, 0)
  | .iaload => (0, 46, 0, 0)
  | .iand => (0, 126, 0, 0)
  | .iastore => (0, 79, 0, 0)
  | .idiv => (0, 108, 0, 0)
  | .imul => (0, 104, 0, 0)
  | .ineg => (0, 116, 0, 0)
  | .ior => (0, 128, 0, 0)
  | .irem => (0, 112, 0, 0)
  | .ireturn => (0, 172, 0, 0)
  | .ishl => (0, 120, 0, 0)
  | .ishr => (0, 122, 0, 0)
  | .isub => (0, 100, 0, 0)
  | .ixor => (0, 130, 0, 0)
  | .l2i => (0, 136, 0, 0)
  | .ladd => (0, 97, 0, 0)
  | .land => (0, 127, 0, 0)
  | .lcmp => (0, 148, 0, 0)
  | .ldiv => (0, 109, 0, 0)
  | .lmul => (0, 105, 0, 0)
  | .lrem => (0, 113, 0, 0)
  | .lreturn => (0, 173, 0, 0)
  | .lsub => (0, 101, 0, 0)
  | .lushr => (0, 125, 0, 0)
  | .lshl => (0, 121, 0, 0)
  | .lxor => (0, 131, 0, 0)
  | .pop => (0, 87, 0, 0)
  | .pop2 => (0, 88, 0, 0)
  | .return_ => (0, 177, 0, 0)
  | .iushr => (0, 124, 0, 0)
  | .lshr => (0, 123, 0, 0)
  | .lor => (0, 129, 0, 0)
  | .dup_x1 => (0, 90, 0, 0)
  | .dup2_x1 => (0, 93, 0, 0)
  | .aload_n m => (0, 42 + m.val, 0, 0)
  | .iload_n m => (0, 26 + m.val, 0, 0)
  | .lload_n m => (0, 30 + m.val, 0, 0)
  | .astore_n m => (0, 75 + m.val, 0, 0)
  | .istore_n m => (0, 59 + m.val, 0, 0)
  | .lstore_n m => (0, 63 + m.val, 0, 0)
  | .lconst m => (0, 9 + m.val, 0, 0)
  | .iconst v => (6, 0, 0, v)
  | .iload u => (1, 21, u, 0)
  | .lload u => (1, 22, u, 0)
  | .aload u => (1, 25, u, 0)
  | .istore u => (1, 54, u, 0)
  | .lstore u => (1, 55, u, 0)
  | .astore u => (1, 58, u, 0)
  | .ldc u => (1, 18, u, 0)
  | .bipush v => (2, 16, 0, v)
  | .ldc_w u => (3, 19, u, 0)
  | .ldc2_w u => (3, 20, u, 0)
  | .getfield u => (3, 180, u, 0)
  | .putfield u => (3, 181, u, 0)
  | .invokevirtual u => (3, 182, u, 0)
  | .invokespecial u => (3, 183, u, 0)
  | .invokestatic u => (3, 184, u, 0)
  | .new u => (3, 187, u, 0)
  | .anewarray u => (3, 189, u, 0)
  | .sipush v => (4, 17, 0, v)
  | .goto v => (4, 167, 0, v)
  | .ifCond c v => (4, 153 + wq_cd c, 0, v)
  | .if_icmp c v => (4, 159 + wq_cd c, 0, v)
  | .iinc u v => (5, 132, u, v)
  | _ => (9, 0, 0, 0)
/-- iconst_m1 to iconst_5 -/
def wq_c6 (v : Int) (n : Nat) (b : UInt8) (bs : List UInt8) (k : List UInt8 → Bool) : Bool := match v with
  | .ofNat m => Nat.ble m 5 && wq_c0 (m + 3) n b bs k
  | .negSucc m => Nat.beq m 0 && wq_c0 2 n b bs k
theorem wq_c6_ok {cc : ByteArray} {pc n : Nat} {v : Int} {b : UInt8} {bs : List UInt8} {k : List UInt8 → Bool} (h : cc.data.toList.drop pc = b :: bs) (hc : wq_c6 v n b bs k = true) : decode cc pc = .ok (.iconst v, n) ∧ k (cc.data.toList.drop (pc + n)) = true := by
  unfold wq_c6 at hc
  split at hc
  · rename_i m
    simp only [Bool.and_eq_true, Nat.ble_eq] at hc
    have hF : wq_F.1 pc (m + 3) = Pure.pure (f := Jvm.ClassFile.Decoder) (Instr.iconst (Int.ofNat m)) := match m, hc.1 with
      | 0, _ => rfl
      | 1, _ => rfl
      | 2, _ => rfl
      | 3, _ => rfl
      | 4, _ => rfl
      | 5, _ => rfl
      | _ + 6, q => absurd q (by omega)
    exact wq_c0_ok hF h hc.2
  · rename_i m
    simp only [Bool.and_eq_true, Nat.beq_eq] at hc
    obtain ⟨rfl, h2⟩ := hc
    exact wq_c0_ok (op := 2) (i := .iconst (Int.negSucc 0)) rfl h h2
def wq_ck (cc : ByteArray) (pc : Nat) (i : Instr) (n : Nat) (bs : List UInt8) (k : List UInt8 → Bool) : Bool := match bs with
  | [] => false
  | b :: bs => match wq_op i with
    | (f, op, u, v) => bif Nat.beq f 0 then wq_c0 op n b bs k else bif Nat.beq f 1 then wq_c1 op u n b bs k else bif Nat.beq f 3 then wq_c3 op u n b bs k else bif Nat.beq f 4 then wq_c4 op v n b bs k else bif Nat.beq f 6 then wq_c6 v n b bs k else bif Nat.beq f 2 then wq_c2 op v n b bs k else bif Nat.beq f 5 then wq_c5 op u v n b bs k else wq_c9 cc pc i n bs k
theorem wq_g_aload_n (pc : Nat) : ∀ m : Fin 4, wq_F.1 pc (42 + m.val) = Pure.pure (f := Jvm.ClassFile.Decoder) (Instr.aload_n m)
  | 0 => rfl
  | 1 => rfl
  | 2 => rfl
  | 3 => rfl
theorem wq_g_iload_n (pc : Nat) : ∀ m : Fin 4, wq_F.1 pc (26 + m.val) = Pure.pure (f := Jvm.ClassFile.Decoder) (Instr.iload_n m)
  | 0 => rfl
  | 1 => rfl
  | 2 => rfl
  | 3 => rfl
theorem wq_g_lload_n (pc : Nat) : ∀ m : Fin 4, wq_F.1 pc (30 + m.val) = Pure.pure (f := Jvm.ClassFile.Decoder) (Instr.lload_n m)
  | 0 => rfl
  | 1 => rfl
  | 2 => rfl
  | 3 => rfl
theorem wq_g_astore_n (pc : Nat) : ∀ m : Fin 4, wq_F.1 pc (75 + m.val) = Pure.pure (f := Jvm.ClassFile.Decoder) (Instr.astore_n m)
  | 0 => rfl
  | 1 => rfl
  | 2 => rfl
  | 3 => rfl
theorem wq_g_istore_n (pc : Nat) : ∀ m : Fin 4, wq_F.1 pc (59 + m.val) = Pure.pure (f := Jvm.ClassFile.Decoder) (Instr.istore_n m)
  | 0 => rfl
  | 1 => rfl
  | 2 => rfl
  | 3 => rfl
theorem wq_g_lstore_n (pc : Nat) : ∀ m : Fin 4, wq_F.1 pc (63 + m.val) = Pure.pure (f := Jvm.ClassFile.Decoder) (Instr.lstore_n m)
  | 0 => rfl
  | 1 => rfl
  | 2 => rfl
  | 3 => rfl
theorem wq_g_lconst (pc : Nat) : ∀ m : Fin 2, wq_F.1 pc (9 + m.val) = Pure.pure (f := Jvm.ClassFile.Decoder) (Instr.lconst m)
  | 0 => rfl
  | 1 => rfl
theorem wq_ck_ok {cc : ByteArray} {pc n : Nat} {i : Instr} {bs : List UInt8} {k : List UInt8 → Bool} (h : cc.data.toList.drop pc = bs) (hc : wq_ck cc pc i n bs k = true) : decode cc pc = .ok (i, n) ∧ k (cc.data.toList.drop (pc + n)) = true := by
  cases bs with
  | nil => cases hc
  | cons b bs =>
    cases i with
    | aaload => exact wq_c0_ok (op := 50) (n := n) (k := k) rfl h hc
    | aastore => exact wq_c0_ok (op := 83) (n := n) (k := k) rfl h hc
    | areturn => exact wq_c0_ok (op := 176) (n := n) (k := k) rfl h hc
    | arraylength => exact wq_c0_ok (op := 190) (n := n) (k := k) rfl h hc
    | baload => exact wq_c0_ok (op := 51) (n := n) (k := k) rfl h hc
    | bastore => exact wq_c0_ok (op := 84) (n := n) (k := k) rfl h hc
    | dup => exact wq_c0_ok (op := 89) (n := n) (k := k) rfl h hc
    | dup2 => exact wq_c0_ok (op := 92) (n := n) (k := k) rfl h hc
    | i2l => exact wq_c0_ok (op := 133) (n := n) (k := k) rfl h hc
    | iadd => exact wq_c0_ok (op := 96) (n := n) (k := k) rfl h hc
    | iaload => exact wq_c0_ok (op := 46) (n := n) (k := k) rfl h hc
    | iand => exact wq_c0_ok (op := 126) (n := n) (k := k) rfl h hc
    | iastore => exact wq_c0_ok (op := 79) (n := n) (k := k) rfl h hc
    | idiv => exact wq_c0_ok (op := 108) (n := n) (k := k) rfl h hc
    | imul => exact wq_c0_ok (op := 104) (n := n) (k := k) rfl h hc
    | ineg => exact wq_c0_ok (op := 116) (n := n) (k := k) rfl h hc
    | ior => exact wq_c0_ok (op := 128) (n := n) (k := k) rfl h hc
    | irem => exact wq_c0_ok (op := 112) (n := n) (k := k) rfl h hc
    | ireturn => exact wq_c0_ok (op := 172) (n := n) (k := k) rfl h hc
    | ishl => exact wq_c0_ok (op := 120) (n := n) (k := k) rfl h hc
    | ishr => exact wq_c0_ok (op := 122) (n := n) (k := k) rfl h hc
    | isub => exact wq_c0_ok (op := 100) (n := n) (k := k) rfl h hc
    | ixor => exact wq_c0_ok (op := 130) (n := n) (k := k) rfl h hc
    | l2i => exact wq_c0_ok (op := 136) (n := n) (k := k) rfl h hc
    | ladd => exact wq_c0_ok (op := 97) (n := n) (k := k) rfl h hc
    | land => exact wq_c0_ok (op := 127) (n := n) (k := k) rfl h hc
    | lcmp => exact wq_c0_ok (op := 148) (n := n) (k := k) rfl h hc
    | ldiv => exact wq_c0_ok (op := 109) (n := n) (k := k) rfl h hc
    | lmul => exact wq_c0_ok (op := 105) (n := n) (k := k) rfl h hc
    | lrem => exact wq_c0_ok (op := 113) (n := n) (k := k) rfl h hc
    | lreturn => exact wq_c0_ok (op := 173) (n := n) (k := k) rfl h hc
    | lsub => exact wq_c0_ok (op := 101) (n := n) (k := k) rfl h hc
    | lushr => exact wq_c0_ok (op := 125) (n := n) (k := k) rfl h hc
    | lshl => exact wq_c0_ok (op := 121) (n := n) (k := k) rfl h hc
    | lxor => exact wq_c0_ok (op := 131) (n := n) (k := k) rfl h hc
    | pop => exact wq_c0_ok (op := 87) (n := n) (k := k) rfl h hc
    | pop2 => exact wq_c0_ok (op := 88) (n := n) (k := k) rfl h hc
    | return_ => exact wq_c0_ok (op := 177) (n := n) (k := k) rfl h hc
    | iushr => exact wq_c0_ok (op := 124) (n := n) (k := k) rfl h hc
    | lshr => exact wq_c0_ok (op := 123) (n := n) (k := k) rfl h hc
    | lor => exact wq_c0_ok (op := 129) (n := n) (k := k) rfl h hc
    | dup_x1 => exact wq_c0_ok (op := 90) (n := n) (k := k) rfl h hc
    | dup2_x1 => exact wq_c0_ok (op := 93) (n := n) (k := k) rfl h hc
    | aload_n m => exact wq_c0_ok (op := 42 + m.val) (n := n) (k := k) (wq_g_aload_n pc m) h hc
    | iload_n m => exact wq_c0_ok (op := 26 + m.val) (n := n) (k := k) (wq_g_iload_n pc m) h hc
    | lload_n m => exact wq_c0_ok (op := 30 + m.val) (n := n) (k := k) (wq_g_lload_n pc m) h hc
    | astore_n m => exact wq_c0_ok (op := 75 + m.val) (n := n) (k := k) (wq_g_astore_n pc m) h hc
    | istore_n m => exact wq_c0_ok (op := 59 + m.val) (n := n) (k := k) (wq_g_istore_n pc m) h hc
    | lstore_n m => exact wq_c0_ok (op := 63 + m.val) (n := n) (k := k) (wq_g_lstore_n pc m) h hc
    | lconst m => exact wq_c0_ok (op := 9 + m.val) (n := n) (k := k) (wq_g_lconst pc m) h hc
    | iconst v => exact wq_c6_ok (n := n) (k := k) h hc
    | iload u => exact wq_c1_ok (op := 21) (u := u) (n := n) (k := k) (g := fun x => .iload x) rfl h hc
    | lload u => exact wq_c1_ok (op := 22) (u := u) (n := n) (k := k) (g := fun x => .lload x) rfl h hc
    | aload u => exact wq_c1_ok (op := 25) (u := u) (n := n) (k := k) (g := fun x => .aload x) rfl h hc
    | istore u => exact wq_c1_ok (op := 54) (u := u) (n := n) (k := k) (g := fun x => .istore x) rfl h hc
    | lstore u => exact wq_c1_ok (op := 55) (u := u) (n := n) (k := k) (g := fun x => .lstore x) rfl h hc
    | astore u => exact wq_c1_ok (op := 58) (u := u) (n := n) (k := k) (g := fun x => .astore x) rfl h hc
    | ldc u => exact wq_c1_ok (op := 18) (u := u) (n := n) (k := k) (g := fun x => .ldc x) rfl h hc
    | bipush v => exact wq_c2_ok (op := 16) (v := v) (n := n) (k := k) (g := fun x => .bipush x) rfl h hc
    | ldc_w u => exact wq_c3_ok (op := 19) (u := u) (n := n) (k := k) (g := fun x => .ldc_w x) rfl h hc
    | ldc2_w u => exact wq_c3_ok (op := 20) (u := u) (n := n) (k := k) (g := fun x => .ldc2_w x) rfl h hc
    | getfield u => exact wq_c3_ok (op := 180) (u := u) (n := n) (k := k) (g := fun x => .getfield x) rfl h hc
    | putfield u => exact wq_c3_ok (op := 181) (u := u) (n := n) (k := k) (g := fun x => .putfield x) rfl h hc
    | invokevirtual u => exact wq_c3_ok (op := 182) (u := u) (n := n) (k := k) (g := fun x => .invokevirtual x) rfl h hc
    | invokespecial u => exact wq_c3_ok (op := 183) (u := u) (n := n) (k := k) (g := fun x => .invokespecial x) rfl h hc
    | invokestatic u => exact wq_c3_ok (op := 184) (u := u) (n := n) (k := k) (g := fun x => .invokestatic x) rfl h hc
    | new u => exact wq_c3_ok (op := 187) (u := u) (n := n) (k := k) (g := fun x => .new x) rfl h hc
    | anewarray u => exact wq_c3_ok (op := 189) (u := u) (n := n) (k := k) (g := fun x => .anewarray x) rfl h hc
    | sipush v => exact wq_c4_ok (op := 17) (v := v) (n := n) (k := k) (g := fun x => .sipush x) rfl h hc
    | goto v => exact wq_c4_ok (op := 167) (v := v) (n := n) (k := k) (g := fun x => .goto x) rfl h hc
    | iinc u v => exact wq_c5_ok (op := 132) (u := u) (v := v) (n := n) (k := k) (g := fun x y => .iinc x y) rfl h hc
    | ifCond c v =>
      cases c with
      | eq => exact wq_c4_ok (op := 153) (v := v) (n := n) (k := k) (g := fun x => .ifCond .eq x) rfl h hc
      | ne => exact wq_c4_ok (op := 154) (v := v) (n := n) (k := k) (g := fun x => .ifCond .ne x) rfl h hc
      | lt => exact wq_c4_ok (op := 155) (v := v) (n := n) (k := k) (g := fun x => .ifCond .lt x) rfl h hc
      | ge => exact wq_c4_ok (op := 156) (v := v) (n := n) (k := k) (g := fun x => .ifCond .ge x) rfl h hc
      | gt => exact wq_c4_ok (op := 157) (v := v) (n := n) (k := k) (g := fun x => .ifCond .gt x) rfl h hc
      | le => exact wq_c4_ok (op := 158) (v := v) (n := n) (k := k) (g := fun x => .ifCond .le x) rfl h hc
    | if_icmp c v =>
      cases c with
      | eq => exact wq_c4_ok (op := 159) (v := v) (n := n) (k := k) (g := fun x => .if_icmp .eq x) rfl h hc
      | ne => exact wq_c4_ok (op := 160) (v := v) (n := n) (k := k) (g := fun x => .if_icmp .ne x) rfl h hc
      | lt => exact wq_c4_ok (op := 161) (v := v) (n := n) (k := k) (g := fun x => .if_icmp .lt x) rfl h hc
      | ge => exact wq_c4_ok (op := 162) (v := v) (n := n) (k := k) (g := fun x => .if_icmp .ge x) rfl h hc
      | gt => exact wq_c4_ok (op := 163) (v := v) (n := n) (k := k) (g := fun x => .if_icmp .gt x) rfl h hc
      | le => exact wq_c4_ok (op := 164) (v := v) (n := n) (k := k) (g := fun x => .if_icmp .le x) rfl h hc
    | _ => exact wq_c9_ok (n := n) (k := k) h hc
/-- rows one after another -/
def wq_sq (cc : ByteArray) (f : wk_X → Bool) : List wk_X → Nat → List UInt8 → (Nat → List UInt8 → Bool) → Bool
  | [], pc, bs, k => k pc bs
  | (p, i, n, w) :: r, pc, bs, k => f (p, i, n, w) && (bif Nat.beq p pc then wq_ck cc p i n bs (fun bs => wk_fN (p + n) fun pc => wq_sq cc f r pc bs k) else Nat.ble pc p && wq_ck cc p i n (bs.drop (p - pc)) (fun bs => wk_fN (p + n) fun pc => wq_sq cc f r pc bs k))
def wq_sqs (cc : ByteArray) (f : wk_X → Bool) : List (List wk_X) → Nat → List UInt8 → Bool
  | [], _, _ => true
  | r :: l, pc, bs => wq_sq cc f r pc bs (fun pc bs => wq_sqs cc f l pc bs)
theorem wq_sq_ok {cc : ByteArray} {f : wk_X → Bool} : ∀ {l : List wk_X} {pc : Nat} {k : Nat → List UInt8 → Bool}, wq_sq cc f l pc (cc.data.toList.drop pc) k = true → (∀ x ∈ l, f x = true ∧ decode cc x.1 = .ok (x.2.1, x.2.2.1)) ∧ ∃ pc', k pc' (cc.data.toList.drop pc') = true
  | [], pc, k, h => ⟨fun x hx => absurd hx List.not_mem_nil, pc, h⟩
  | (p, i, n, w) :: r, pc, k, h => by
    unfold wq_sq at h
    rw [Bool.and_eq_true] at h
    have key : decode cc p = .ok (i, n) ∧ (fun bs => wk_fN (p + n) fun pc => wq_sq cc f r pc bs k) (cc.data.toList.drop (p + n)) = true := by
      have h2 := h.2
      cases hp : Nat.beq p pc with
      | true =>
        rw [hp] at h2
        have e := Nat.eq_of_beq_eq_true hp
        subst e
        exact wq_ck_ok rfl h2
      | false =>
        rw [hp] at h2
        have h3 : (Nat.ble pc p && wq_ck cc p i n ((cc.data.toList.drop pc).drop (p - pc)) (fun bs => wk_fN (p + n) fun pc => wq_sq cc f r pc bs k)) = true := h2
        rw [Bool.and_eq_true, Nat.ble_eq, List.drop_drop, show ∀ h : pc ≤ p, pc + (p - pc) = p from fun h => by omega] at h3
        · exact wq_ck_ok rfl h3.2
        · have := h2
          rw [show (bif false then wq_ck cc p i n (List.drop pc cc.data.toList) (fun bs => wk_fN (p + n) fun pc => wq_sq cc f r pc bs k) else Nat.ble pc p && wq_ck cc p i n (List.drop (p - pc) (List.drop pc cc.data.toList)) (fun bs => wk_fN (p + n) fun pc => wq_sq cc f r pc bs k)) = (Nat.ble pc p && wq_ck cc p i n (List.drop (p - pc) (List.drop pc cc.data.toList)) (fun bs => wk_fN (p + n) fun pc => wq_sq cc f r pc bs k)) from rfl, Bool.and_eq_true, Nat.ble_eq] at this
          exact this.1
    have k2 := key.2
    simp only [wk_fN_eq] at k2
    obtain ⟨h5, h6⟩ := wq_sq_ok k2
    refine ⟨fun x hx => ?_, h6⟩
    rcases List.mem_cons.mp hx with rfl | hx
    · exact ⟨h.1, key.1⟩
    · exact h5 x hx
theorem wq_sqs_ok {cc : ByteArray} {f : wk_X → Bool} : ∀ {l : List (List wk_X)} {pc : Nat}, wq_sqs cc f l pc (cc.data.toList.drop pc) = true → ∀ r ∈ l, ∀ x ∈ r, f x = true ∧ decode cc x.1 = .ok (x.2.1, x.2.2.1)
  | [], _, _, r, hr => absurd hr List.not_mem_nil
  | r :: l, pc, h, r', hr => by
    unfold wq_sqs at h
    obtain ⟨h1, pc', h2⟩ := wq_sq_ok h
    rcases List.mem_cons.mp hr with rfl | hr
    · exact h1
    · exact wq_sqs_ok h2 r' hr
end
