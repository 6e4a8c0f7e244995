section
-- 99.zt
/-! ===== runs without the script: sound for a script of any length ===== -/
def wk_nv (v : wk_V) : Bool := match v with
  | .inr (.inr (.inr _)) => false
  | _ => true
def wk_nw (v : wk_V) : Bool := match v with
  | .inr (.inr (.inr (2, _))) => true
  | .inr (.inr (.inr _)) => false
  | _ => true
noncomputable def kS_go (mt : Nat → Option wk_M) (M : wk_M) (cut : wk_Cu) (call : wk_K) (fuel : Nat) : wk_G :=
  Nat.rec (fun _ _ _ _ _ _ _ _ => none) (fun _ go iv pc AL AS AH nc ns wr =>
    bif cut iv pc AL AS AH nc ns wr then some [] else bif iv.isEmpty && ((AL.all fun q => wk_nw q.2) && AS.all wk_nv) then (match wk_fetch M pc with
      | none => none
      | some row => wk_one mt 0 M call go row iv pc AL AS AH nc ns wr) else none) fuel
noncomputable def kS_run (mt : Nat → Option wk_M) (fuel : Nat) (d : Nat) : wk_K :=
  Nat.rec (fun _ _ _ _ => none) (fun _ run id av iv AH => match mt id with
    | some M => bif Nat.ble (wk_cat av) (wk_Ml M) then kS_go mt M (fun _ _ _ _ _ _ _ _ => false) run fuel iv 0 (wk_args 0 av) [] AH 0 0 [] else none
    | none => none) d
theorem kS_mono {p : Program} {l : Launch} {e : Env} {R : Room} {s : State} {m : MethodId} {args : Array Value} {below : List Frame} {meth : Method} {c : Code} {H : Heap} {locs : List Loc} {nc ns : Nat} {Z Z' : State → Prop} {F : JFrame} (h : ∀ t, Z t → Z' t) (k : W p l e R s m args below meth c H locs nc ns Z F) : W p l e R s m args below meth c H locs nc ns Z' F := by
  intro T hT X
  obtain ⟨t, a1, b1⟩ := k T hT X
  exact ⟨t, a1, h t b1⟩
def kS_says (p : Program) (l : Launch) (e : Env) (R : Room) (s : State) (m : MethodId) (args : Array Value) (below : List Frame) (meth : Method) (c : Code) (D : va_G) (A : Nat → Prop) (z : Nat → Nat) (ρ : Nat → Int32) (M : wk_M) (Z : State → Prop) (as0 : List Nat) (ws0 : va_W) (iv : wk_I) (pc : Nat) (AL : wk_L) (AS : List wk_V) (AH : wk_A) (nc ns : Nat) (wrs : List Nat) : Prop :=
  wk_bx ρ iv → nc ≤ wk_Mk M → ns ≤ wk_Ms M → ∀ (H : Heap) (locs : List Loc) (more : List Nat) (ws : va_W) (ls : Array Slot) (lv : List (Nat × Value)) (st : List Value), va_S A s.heap H locs → wk_hr D A s (as0 ++ more) z ρ AH ws H → lv_has ls (wk_Ml M) lv → wk_f2 (wk_rl (as0 ++ more) z ρ) AL lv → wk_f2 (wk_r (as0 ++ more) z ρ) AS st → (∀ j : Nat, j < ws0.length → j ∉ wrs → ws[j]? = ws0[j]?) → W p l e R s m args below meth c H locs nc ns Z (F0 m pc ls st)
theorem kS_gd {mt : Nat → Option wk_M} {M : wk_M} {cut : wk_Cu} {call : wk_K} {iv : wk_I} {pc : Nat} {AL : wk_L} {AS : List wk_V} {AH : wk_A} {nc ns : Nat} {wrs : List Nat} {fs : List wk_F} (hcv : ∀ iv pc AL AS AH nc ns wrs, cut iv pc AL AS AH nc ns wrs = true → (AL.all fun q => wk_nw q.2) = true ∧ AS.all wk_nv = true) : ∀ fuel, kS_go mt M cut call fuel iv pc AL AS AH nc ns wrs = some fs → (AL.all fun q => wk_nw q.2) = true ∧ AS.all wk_nv = true
  | 0, h => by cases h
  | fuel + 1, h => by
    have h : (bif cut iv pc AL AS AH nc ns wrs then some [] else bif iv.isEmpty && ((AL.all fun q => wk_nw q.2) && AS.all wk_nv) then (match wk_fetch M pc with
      | none => none
      | some row => wk_one mt 0 M call (kS_go mt M cut call fuel) row iv pc AL AS AH nc ns wrs) else none) = some fs := h
    cases hc : cut iv pc AL AS AH nc ns wrs with
    | true => exact hcv _ _ _ _ _ _ _ _ hc
    | false =>
      rw [hc] at h
      simp only [cond_false] at h
      obtain ⟨hgd, h⟩ := wk_bt h
      simp only [Bool.and_eq_true] at hgd
      exact hgd.2
theorem kS_v {as : List Nat} {z : Nat → Nat} {ρ ρ' : Nat → Int32} {v : wk_V} {x : Value} (hv : wk_nv v = true) (h : wk_r as z ρ v x) : wk_r as z ρ' v x := by
  match v, hv, h with
  | .inl _, _, h => exact h
  | .inr (.inl _), _, h => exact h
  | .inr (.inr (.inl none)), _, h => exact h
  | .inr (.inr (.inl (some _))), _, h => exact h
theorem kS_w {as : List Nat} {z : Nat → Nat} {ρ ρ' : Nat → Int32} {v : wk_V} {x : Value} (hv : wk_nw v = true) (h : wk_r as z ρ v x) : wk_r as z ρ' v x := by
  match v, hv, h with
  | .inl _, _, h => exact h
  | .inr (.inl _), _, h => exact h
  | .inr (.inr (.inl none)), _, h => exact h
  | .inr (.inr (.inl (some _))), _, h => exact h
  | .inr (.inr (.inr (2, _))), _, h =>
    have h : x = .ref (z 0) := h
    show x = .ref (z 0)
    exact h
  | .inr (.inr (.inr (0, _))), hv, _ => cases hv
  | .inr (.inr (.inr (1, _))), hv, _ => cases hv
  | .inr (.inr (.inr (_ + 3, _))), hv, _ => cases hv
theorem kS_S {as : List Nat} {z : Nat → Nat} {ρ ρ' : Nat → Int32} : ∀ {AS : List wk_V} {st : List Value}, AS.all wk_nv = true → wk_f2 (wk_r as z ρ) AS st → wk_f2 (wk_r as z ρ') AS st := by
  intro AS
  induction AS with
  | nil =>
    intro st _ h
    cases st with
    | nil => trivial
    | cons x st => exact h.elim
  | cons v AS ih =>
    intro st hv h
    cases st with
    | nil => exact h.elim
    | cons x st =>
      rw [List.all_cons, Bool.and_eq_true] at hv
      obtain ⟨h1, h2⟩ := h
      exact ⟨kS_v hv.1 h1, ih hv.2 h2⟩
theorem kS_L {as : List Nat} {z : Nat → Nat} {ρ ρ' : Nat → Int32} : ∀ {AL : wk_L} {lv : List (Nat × Value)}, (AL.all fun q => wk_nw q.2) = true → wk_f2 (wk_rl as z ρ) AL lv → wk_f2 (wk_rl as z ρ') AL lv := by
  intro AL
  induction AL with
  | nil =>
    intro lv _ h
    cases lv with
    | nil => trivial
    | cons x lv => exact h.elim
  | cons q AL ih =>
    intro lv hv h
    cases lv with
    | nil => exact h.elim
    | cons x lv =>
      rw [List.all_cons, Bool.and_eq_true] at hv
      obtain ⟨⟨h0, h1⟩, h2⟩ := h
      exact ⟨⟨h0, kS_w hv.1 h1⟩, ih hv.2 h2⟩
theorem kS_scr {v : wk_V} (h : wk_nv v = true) : wk_scr v = false := by
  match v, h with
  | .inl _, _ => rfl
  | .inr (.inl _), _ => rfl
  | .inr (.inr (.inl _)), _ => rfl
theorem kS_ild {Lz : Nat} {iv : wk_I} {v a : wk_V} {AS : List wk_V} {AH : wk_A} (h : wk_nv a = true) : wk_ild Lz iv v a AS AH = wk_ild 0 iv v a AS AH := by
  unfold wk_ild
  rw [kS_scr h]
  rfl
theorem kS_aln {Lz : Nat} {a : wk_V} {AS : List wk_V} {AH : wk_A} (h : wk_nv a = true) : wk_aln Lz a AS AH = wk_aln 0 a AS AH := by
  unfold wk_aln
  rw [kS_scr h]
  rfl
theorem kS_heap {Lz : Nat} {iv : wk_I} {i : Instr} {x : Nat × Nat × Int} {AS : List wk_V} {AH : wk_A} (h : AS.all wk_nv = true) : wk_heap Lz iv i x AS AH = wk_heap 0 iv i x AS AH := by
  by_cases h1 : i = .iaload
  · subst h1
    rcases AS with _ | ⟨v, _ | ⟨a, AS⟩⟩
    · rfl
    · rfl
    · simp only [List.all_cons, Bool.and_eq_true] at h
      exact kS_ild h.2.1
  · by_cases h2 : i = .arraylength
    · subst h2
      rcases AS with _ | ⟨a, AS⟩
      · rfl
      · simp only [List.all_cons, Bool.and_eq_true] at h
        exact kS_aln h.1
    · unfold wk_heap
      split
      · rfl
      · rfl
      · exact absurd rfl h1
      · rfl
      · rfl
      · rfl
      · rfl
      · rfl
      · exact absurd rfl h2
      · rfl
      · rfl
      · rfl
      · rfl
      · rfl
theorem kS_hp {Lz : Nat} {iv : wk_I} {i : Instr} {x : Nat × Nat × Int} {AS : List wk_V} {AH : wk_A} {q : wk_H} (h : AS.all wk_nv = true) (hp : wk_hp 0 iv i x AS AH = some q) : wk_hp Lz iv i x AS AH = some q := by
  unfold wk_hp at hp ⊢
  rw [kS_heap h]
  exact hp
section KSG
variable {p : Program} {l : Launch} {e : Env} {R : Room} {s : State} {m : MethodId} {args : Array Value} {below : List Frame} {meth : Method} {c : Code} {z : Nat → Nat} {Lz d : Nat} {D : va_G} {A : Nat → Prop} {as0 : List Nat} {ρ : Nat → Int32} {M : wk_M} {mt : Nat → Option wk_M} {mw : wk_W} {L : List wk_F} {call : wk_K} {cut : wk_Cu} {ws0 : va_W}
set_option maxHeartbeats 4000000 in
theorem kS_go_ok {Z : State → Prop} (hZ : ∀ t, MQ below (wk_Qc D A z ρ L as0 ws0) args s (wk_Mk M) (wk_Ms M) A t → Z t) (hmt : ∀ id M, mt id = some M → wk_okm mt mw id M = true) (hM : ∀ r ∈ wk_Mx M, ∀ row ∈ r, wk_okx mt mw (wk_My M) (wk_Mb M) row = true) (C : wk_cx p s m args meth c (wk_Mb M) (wk_My M) (wk_Ml M) D A z Lz ρ) (hret : meth.sig.returnType = wk_Mr M) (hlocks : meth.locks = false) (hcv : ∀ iv pc AL AS AH nc ns wrs, cut iv pc AL AS AH nc ns wrs = true → (AL.all fun q => wk_nw q.2) = true ∧ AS.all wk_nv = true)
    (hfr : d + 1 ≤ R.frames) (hlo : 100 + 200 * d ≤ R.locals) (hRc : wk_Mk M ≤ R.cells) (hRs : wk_Ms M ≤ R.slots)
    (hcall : ∀ id M2 av iv AH fs, mt id = some M2 → call id av iv AH = some fs → wk_bx ρ iv → ∃ d2, d2 + 1 ≤ d ∧ ∀ (as : List Nat) (ws : va_W) (vals : List Value), wk_f2 (wk_r as z ρ) av vals → Met l (wk_My M2) (wk_ws M2) (wk_rm M2 d2) (wk_Pc D A z Lz ρ vals AH as ws) (wk_Qc D A z ρ fs as ws) (wk_Mk M2) (wk_Ms M2) A)
    (hw0 : ws0.length = as0.length) (hcut : ∀ iv pc AL AS AH nc ns wrs, cut iv pc AL AS AH nc ns wrs = true → kS_says p l e R s m args below meth c D A z ρ M Z as0 ws0 iv pc AL AS AH nc ns wrs) :
    ∀ (fuel : Nat) (iv : wk_I) (pc : Nat) (AL : wk_L) (AS : List wk_V) (AH : wk_A) (nc ns : Nat) (wrs : List Nat) (fs : List wk_F), kS_go mt M cut call fuel iv pc AL AS AH nc ns wrs = some fs → (∀ f ∈ fs, f ∈ L) → kS_says p l e R s m args below meth c D A z ρ M Z as0 ws0 iv pc AL AS AH nc ns wrs := by
  intro fuel
  induction fuel with
  | zero => intro iv pc AL AS AH nc ns wrs fs h; cases h
  | succ fuel ih =>
    intro iv pc AL AS AH nc ns wrs fs h hfs
    have h : (bif cut iv pc AL AS AH nc ns wrs then some [] else bif iv.isEmpty && ((AL.all fun q => wk_nw q.2) && AS.all wk_nv) then (match wk_fetch M pc with
      | none => none
      | some row => wk_one mt 0 M call (kS_go mt M cut call fuel) row iv pc AL AS AH nc ns wrs) else none) = some fs := h
    cases hc : cut iv pc AL AS AH nc ns wrs with
    | true => exact hcut _ _ _ _ _ _ _ _ hc
    | false =>
      rw [hc] at h
      simp only [cond_false] at h
      obtain ⟨hgd, h⟩ := wk_bt h
      simp only [Bool.and_eq_true] at hgd
      obtain ⟨hiv, hAL, hAS⟩ := hgd
      have hiv := List.isEmpty_iff.mp hiv
      subst hiv
      cases hrow : wk_fetch M pc with
      | none => rw [hrow] at h; cases h
      | some row =>
        rw [hrow] at h
        obtain ⟨pc0, i, n, x, wd, t, a⟩ := row
        obtain ⟨e0, r0, hr0, hrow0⟩ := wk_fetch_r hrow
        simp only at e0
        subst e0
        have hok := hM r0 hr0 _ hrow0
        unfold wk_okx at hok
        simp only [Bool.and_eq_true, decide_eq_true_eq] at hok
        obtain ⟨hd, hlk, hw, hot, hoc⟩ := hok
        intro hbx hnc hns H locs more ws ls lv st hS hr hl ha hs hsm
        obtain ⟨hx, hb, hml, hown, hts, hK, hA, hname, hX, hz, hzA, hLz⟩ := id C
        have hwl : ws0.length ≤ ws.length := by
          have e1 := congrArg List.length hr.2.2.2.1
          rw [List.length_map, List.length_append] at e1
          omega
        -- words of constants
        have hc1 : ∀ idx, i = .ldc idx ∨ i = .ldc_w idx → (Jvm.Cond.constant (wk_My M).cls idx (Int32.ofInt x.2.2)).before args s = true := by
          intro idx hi
          rcases hi with rfl | rfl
          · match wd, hw with
            | [q1], hw => exact hts _ (wk_has_in hw)
            | [], hw => cases hw
            | _ :: _ :: _, hw => cases hw
          · match wd, hw with
            | [q1], hw => exact hts _ (wk_has_in hw)
            | [], hw => cases hw
            | _ :: _ :: _, hw => cases hw
        have hc2 : ∀ idx, i = .ldc2_w idx → (Jvm.Cond.constantLong (wk_My M).cls idx (Int64.ofInt x.2.2)).before args s = true := by
          rintro idx rfl
          match wd, hw with
          | [q1], hw => exact hts _ (wk_has_in hw)
          | [], hw => cases hw
          | _ :: _ :: _, hw => cases hw
        have pure : ∀ (P : wk_P), wk_pure [] (wk_Ml M) i x.2.2 pc0 AL AS = some P → (∃ fs2, kS_go mt M cut call fuel [] P.1 P.2.1 P.2.2 AH nc ns wrs = some fs2 ∧ ∀ f ∈ fs2, f ∈ L) → W p l e R s m args below meth c H locs nc ns Z (F0 m pc0 ls st) := by
          rintro ⟨pc', AL', AS'⟩ hp ⟨fs2, hg, hin⟩
          obtain ⟨nv1, nv2⟩ := kS_gd hcv _ hg
          exact wk_pure_ok (ρ := fun _ => 0) hx hb hown hd hlk hc1 hc2 (fun j q hj => by simp at hj) (by decide) hp hl (kS_L hAL ha) (kS_S hAS hs) (fun ls' lv' st' hl' ha' hs' => ih _ _ _ _ _ _ _ _ _ hg hin hbx hnc hns H locs more ws ls' lv' st' hS hr hl' (kS_L nv1 ha') (kS_S nv2 hs') hsm)
        have heap : ∀ (q : wk_H) (fs2 : List wk_F), wk_hp 0 [] i x AS AH = some q → wk_hgo M (fun pc AS AH nc ns wrs => kS_go mt M cut call fuel [] pc AL AS AH nc ns wrs) pc0 AH nc ns wrs q = some fs2 → (∀ f ∈ fs2, f ∈ L) → W p l e R s m args below meth c H locs nc ns Z (F0 m pc0 ls st) := by
          rintro ⟨dd, AS', w, nw, dc, ds⟩ fs2 hp hg hin
          have hg : (bif Nat.ble (nc + dc) (wk_Mk M) && (Nat.ble (ns + ds) (wk_Ms M) && wk_room AH nw AH.1) then wk_wr AH w nw (fun AH' => wk_adw wrs w fun wrs' => wk_fN (pc0 + dd) fun pc' => wk_fS AS' fun AS' => wk_fN (nc + dc) fun nc' => wk_fN (ns + ds) fun ns' => kS_go mt M cut call fuel [] pc' AL AS' AH' nc' ns' wrs') else none) = some fs2 := hg
          obtain ⟨g1, g2⟩ := wk_bt hg
          simp only [Bool.and_eq_true] at g1
          obtain ⟨g3, g4, g5⟩ := g1
          have g3 := Nat.le_of_ble_eq_true g3
          have g4 := Nat.le_of_ble_eq_true g4
          simp only [wk_wr_eq, wk_adw_eq, wk_fN_eq, wk_fS_eq] at g2
          refine wk_hp_ok C hbx hd hlk hw (kS_hp hAS hp) hl (Nat.le_trans (by omega) hfr) (Nat.le_trans (by omega) hlo) g5 (Nat.le_trans g3 hRc) (Nat.le_trans g4 hRs) hr hS hs (fun H' locs' more' ws' st' hS' hr' hs' hsame => ?_)
          have ha' : wk_f2 (wk_rl (as0 ++ (more ++ more')) z ρ) AL lv := by
            rw [← List.append_assoc]
            exact wk_f2_mono (fun a b q => ⟨q.1, wk_r_mono more' q.2⟩) ha
          rw [List.append_assoc] at hr' hs'
          exact ih _ _ _ _ _ _ _ _ _ g2 hin hbx g3 g4 H' locs' (more ++ more') ws' ls lv st' hS' hr' hl ha' hs' (fun j hj hjw => by
            obtain ⟨j1, j2⟩ := wk_adw1_r hjw
            rw [hsame j (by omega) j2]
            exact hsm j hj j1)
        have cutv : ∀ (q : Nat × List (Int × Int)) (fs2 : List wk_F), wk_cutv (fun iv => kS_go mt M cut call fuel iv pc0 AL AS AH nc ns wrs) [] q = some fs2 → (∀ f ∈ fs2, f ∈ L) → W p l e R s m args below meth c H locs nc ns Z (F0 m pc0 ls st) := by
          rintro ⟨v, ps⟩ fs2 hg hin
          unfold wk_cutv at hg
          cases hv : wk_at ([] : wk_I) v with
          | none => rw [hv] at hg; cases hg
          | some q =>
            obtain ⟨lo, hi⟩ := q
            rw [hv] at hg
            obtain ⟨g1, g2⟩ := wk_bt hg
            rw [wk_at_eq] at hv
            obtain ⟨b1, b2⟩ := hbx v _ hv
            obtain ⟨q, q1, q2, q3⟩ := wk_cv_r _ _ _ _ g1 b1 b2
            obtain ⟨x2, x3, x4⟩ := wk_fold_r g2 q q1
            rw [wk_put_eq] at x3
            exact ih _ _ _ _ _ _ _ _ _ x3 (fun f hf => hin f (x4 f hf)) (wk_bx_set hbx q2 q3) hnc hns H locs more ws ls lv st hS hr hl ha hs hsm
        have h : (match wk_fast t (bif Nat.beq t 7 then x.1 else a.toNat) n a [] (wk_Ml M) pc0 AL AS with
          | some (pc', AL', AS') => wk_fN pc' fun pc' => wk_fS AS' fun AS' => kS_go mt M cut call fuel [] pc' AL' AS' AH nc ns wrs
          | none => match wk_hfast t 0 [] x AS AH with
            | some r => wk_hgo M (fun pc AS AH nc ns wrs => kS_go mt M cut call fuel [] pc AL AS AH nc ns wrs) pc0 AH nc ns wrs r
            | none => wk_slow mt 0 M call (kS_go mt M cut call fuel) i x [] pc0 AL AS AH nc ns wrs) = some fs := h
        cases hf : wk_fast t (bif Nat.beq t 7 then x.1 else a.toNat) n a [] (wk_Ml M) pc0 AL AS with
        | some P =>
          obtain ⟨pc', AL', AS'⟩ := P
          rw [hf] at h
          simp only [wk_fN_eq, wk_fS_eq] at h
          exact pure _ (wk_fast_ok hlk hot hf) ⟨fs, h, hfs⟩
        | none =>
          rw [hf] at h
          simp only at h
          cases hh : wk_hfast t 0 [] x AS AH with
          | some q =>
            rw [hh] at h
            exact heap q fs (wk_hfast_ok hot hh) h hfs
          | none =>
            rw [hh] at h
            simp only at h
            unfold wk_slow at h
            cases hn : wk_need [] i AS with
            | some q =>
              rw [hn] at h
              exact cutv q fs h hfs
            | none =>
              rw [hn] at h
              simp only at h
              cases hrt : wk_ret [] M i AS with
              | some rv =>
                rw [hrt] at h
                cases h
                exact kS_mono hZ (wk_ret_ok hx hb hret hlocks hbx hd hlk hrt (hfs _ List.mem_cons_self) hsm hnc hns hr hS hs)
              | none =>
                rw [hrt] at h
                simp only at h
                cases hpu : wk_pure [] (wk_Ml M) i x.2.2 pc0 AL AS with
                | some P =>
                  obtain ⟨pc', AL', AS'⟩ := P
                  rw [hpu] at h
                  simp only [wk_fN_eq, wk_fLs_eq, wk_fA_eq, wk_fS_eq] at h
                  exact pure _ hpu ⟨fs, h, hfs⟩
                | none =>
                  rw [hpu] at h
                  simp only at h
                  cases hhp : wk_hp 0 [] i x AS AH with
                  | some q =>
                    rw [hhp] at h
                    exact heap q fs hhp h hfs
                  | none =>
                    rw [hhp] at h
                    simp only at h
                    cases hcl : wk_call mt i x AS AH with
                    | some q =>
                      obtain ⟨M2, av, r⟩ := q
                      rw [hcl] at h
                      simp only at h
                      unfold wk_cgo at h
                      obtain ⟨g1, g2⟩ := wk_bt h
                      simp only [Bool.and_eq_true] at g1
                      have g3 := Nat.le_of_ble_eq_true g1.1
                      have g4 := Nat.le_of_ble_eq_true g1.2
                      cases hcf : call x.2.1 av [] AH with
                      | none => rw [hcf] at g2; cases g2
                      | some fs1 =>
                        rw [hcf] at g2
                        simp only [wk_fN_eq, wk_uni_eq] at g2
                        have hmm : mt x.2.1 = some M2 := wk_call_m hcl
                        obtain ⟨d2, ed, hMet⟩ := hcall _ _ _ _ _ _ hmm hcf hbx
                        refine wk_call_ok (fs := fs1) (d := d2) C hmt hd hlk hw hoc hcl hl (hMet _ ws) (by omega) (by omega) (Nat.le_trans g3 hRc) (Nat.le_trans g4 hRs) hr hS hs (fun f hf1 hbf rv more' ws1 H1 locs1 rest hrest hrv hr1 hsm1 hS1 => ?_)
                        obtain ⟨x2, x3, x4⟩ := wk_fold_r g2 f hf1
                        have ha' : wk_f2 (wk_rl (as0 ++ (more ++ more')) z ρ) AL lv := by
                          rw [← List.append_assoc]
                          exact wk_f2_mono (fun a b q => ⟨q.1, wk_r_mono more' q.2⟩) ha
                        have hs' : wk_f2 (wk_r (as0 ++ (more ++ more')) z ρ) (wk_st f.1 f.2.1 r) (rv.toList ++ rest) := by
                          rw [← List.append_assoc]
                          have hrest' := wk_f2_mono (fun a b q => wk_r_mono (as := as0 ++ more) (z := z) (ρ := ρ) (v := a) (x := b) more' q) hrest
                          cases hf2 : f.2.1 with
                          | none =>
                            rw [hf2] at hrv
                            cases rv with
                            | none => exact hrest'
                            | some _ => exact hrv.elim
                          | some v =>
                            rw [hf2] at hrv
                            cases rv with
                            | none => exact hrv.elim
                            | some xv => exact ⟨hrv, hrest'⟩
                        rw [List.append_assoc] at hr1
                        exact ih _ _ _ _ _ _ _ _ _ x3 (fun q hq => hfs q (x4 q hq)) hbf g3 g4 H1 locs1 (more ++ more') ws1 ls lv _ hS1 hr1 hl ha' hs' (fun j hj hjw => by
                          obtain ⟨j1, j2⟩ := wk_uni1_r hjw
                          rw [hsm1 j (by omega) j1]
                          exact hsm j hj j2)
                    | none =>
                      rw [hcl] at h
                      simp only at h
                      cases hu : wk_undec [] i AS with
                      | none => rw [hu] at h; cases h
                      | some q =>
                        rw [hu] at h
                        exact cutv q fs h hfs
end KSG
/-- a method from its entry -/
theorem kS_run_ok {l : Launch} {z : Nat → Nat} {Lz : Nat} {D : va_G} {A : Nat → Prop} {ρ : Nat → Int32} {mt : Nat → Option wk_M} {mw : wk_W} (fuel : Nat) (hmt : ∀ id M, mt id = some M → wk_okm mt mw id M = true) (hzA : ¬ A (z 0)) (hLz : Lz < 2 ^ 31) :
    ∀ (d id : Nat) (M : wk_M) (av : List wk_V) (iv : wk_I) (AH : wk_A) (fs : List wk_F), mt id = some M → kS_run mt fuel d id av iv AH = some fs → wk_bx ρ iv → ∃ d2, d2 + 1 ≤ d ∧ ∀ (as : List Nat) (ws : va_W) (vals : List Value), wk_f2 (wk_r as z ρ) av vals → Met l (wk_My M) (wk_ws M) (wk_rm M d2) (wk_Pc D A z Lz ρ vals AH as ws) (wk_Qc D A z ρ fs as ws) (wk_Mk M) (wk_Ms M) A := by
  intro d
  induction d with
  | zero => intro id M av iv AH fs _ h; cases h
  | succ d ih =>
    intro id M av iv AH fs hm h hbx
    have h : (match mt id with
      | some M => bif Nat.ble (wk_cat av) (wk_Ml M) then kS_go mt M (fun _ _ _ _ _ _ _ _ => false) (kS_run mt fuel d) fuel iv 0 (wk_args 0 av) [] AH 0 0 [] else none
      | none => none) = some fs := h
    rw [hm] at h
    simp only at h
    replace h := wk_bt h
    obtain ⟨hcat, h⟩ := h
    have hcat := Nat.le_of_ble_eq_true hcat
    refine ⟨d, Nat.le_refl _, fun as ws vals hv => ?_⟩
    have hok := hmt _ _ hm
    unfold wk_okm at hok
    simp only [Bool.and_eq_true, decide_eq_true_eq] at hok
    obtain ⟨ok1, ⟨ok2, ok3, ok4⟩, ok5, ok6, ok7⟩ := hok
    have hM : ∀ r ∈ wk_Mx M, ∀ row ∈ r, wk_okx mt mw (wk_My M) (wk_Mb M) row = true := fun r hr row hrow => List.all_eq_true.mp (List.all_eq_true.mp ok7 r hr) row hrow
    refine Met.ofW (cc := wk_Mb M) (maxL := wk_Ml M) (ret := wk_Mr M) ok1 rfl ?_
    intro p e s m args below meth c s₁ B hml hP
    obtain ⟨rfl, hK, hX, hz, hA, hr⟩ := hP
    have hts : ∀ w ∈ wk_tbl, w.before vals.toArray s = true := fun w hw => atoms_spec (ws := wk_ws M) B.pre w (List.mem_cons_of_mem _ hw)
    have hown : s.vm.findClass (wk_My M).cls = some m.cls := findClass_of_methodNamed B.named
    have hname : meth.name = (wk_My M).name := (name_of_methodNamed B.named B.method).1
    have C : wk_cx p s m vals.toArray meth c (wk_Mb M) (wk_My M) (wk_Ml M) D A z Lz ρ := ⟨B.exec, B.bytes, hml, hown, hts, hK, hA, hname, hX, hz, hzA, hLz⟩
    have hlen : (lg_sl vals).length ≤ wk_Ml M := by rw [wk_slen, ← wk_cat_r hv]; exact hcat
    rw [lg_entry_eq]
    have hl := lv_entry vals (n := wk_Ml M) hlen
    have key := kS_go_ok (Z := MQ below (wk_Qc D A z ρ fs as ws) vals.toArray s (wk_Mk M) (wk_Ms M) A) (hZ := fun t h => h) (R := (headSpec (wk_ws M) (wk_rm M d)).room) (l := l) (e := e) (below := below) (L := fs) (as0 := as) (d := d) hmt hM C B.returns B.notSynchronized (fun _ _ _ _ _ _ _ _ q => by cases q) (Nat.le_refl _) (Nat.le_refl _) (Nat.le_refl _) (Nat.le_refl _) (fun id M2 av iv AH fs h1 h2 h3 => ih id M2 av iv AH fs h1 h2 h3) (ws0 := ws) (by rw [← hr.2.2.2.1, List.length_map]) (fun _ _ _ _ _ _ _ _ q => by cases q) fuel iv 0 (wk_args 0 av) [] AH 0 0 [] fs h (fun _ q => q) hbx (Nat.zero_le _) (Nat.zero_le _) s.heap [] [] ws _ _ [] va_S.rf (by rw [List.append_nil]; exact hr) hl (by rw [List.append_nil]; exact wk_args_r 0 hv) trivial (fun _ _ _ => rfl)
    exact key
end
section
-- 99.zu
/-! ===== the state behind both constructors ===== -/
def wk_y0 : wk_C := .inr (8, [.inr (.inr (.inl (some 1))), .inr (.inr (.inl (some 32))), .inr (.inr (.inl (some 63))), .inr (.inr (.inl (some 126))), .inr (.inr (.inl (some 127))), .inr (.inr (.inl (some 190))), .inr (.inr (.inl (some 204))), .inr (.inr (.inl (some 220))), .inr (.inr (.inl (some 250))), .inr (.inr (.inl (some 253))), .inr (.inr (.inl (some 255))), .inr (.inl (0, 0)), .inr (.inl (1, 1))])
def wk_y1 : wk_C := .inr (7, [.inl (0, 0), .inl (0, 0), .inl (0, 0), .inl (0, 0), .inr (.inr (.inl (some 2))), .inr (.inr (.inl (some 9))), .inr (.inr (.inl (some 10))), .inr (.inr (.inl (some 11))), .inr (.inr (.inl (some 15))), .inr (.inr (.inl (some 26))), .inr (.inr (.inl (some 27))), .inr (.inr (.inl (some 28))), .inr (.inr (.inl (some 31)))])
def wk_y2 : wk_C := .inl (2, 6, [[.inr (.inr (.inl (some 3))), .inr (.inr (.inl (some 4))), .inr (.inr (.inl (some 5))), .inr (.inr (.inl (some 6))), .inr (.inr (.inl (some 7))), .inr (.inr (.inl (some 8))), .inr (.inr (.inl (some 9))), .inr (.inr (.inl (some 10))), .inr (.inr (.inl (some 11))), .inr (.inr (.inl (some 12))), .inr (.inr (.inl (some 13))), .inr (.inr (.inl (some 14))), .inr (.inr (.inl (some 15))), .inr (.inr (.inl (some 16))), .inr (.inr (.inl (some 17))), .inr (.inr (.inl (some 18))), .inr (.inr (.inl (some 19))), .inr (.inr (.inl (some 20))), .inr (.inr (.inl (some 21))), .inr (.inr (.inl (some 22))), .inr (.inr (.inl (some 23))), .inr (.inr (.inl (some 24))), .inr (.inr (.inl (some 25))), .inr (.inr (.inl (some 26))), .inr (.inr (.inl (some 27))), .inr (.inr (.inl (some 28))), .inr (.inr (.inl (some 29))), .inr (.inr (.inl (some 30))), .inr (.inr (.inl (some 31))), .inr (.inr (.inl (some 32))), .inr (.inr (.inl (some 33))), .inr (.inr (.inl (some 34)))]])
def wk_y3 : wk_C := .inl (0, 6, [(List.replicate 6 (.inl (1, 1))) ++ (List.replicate 26 (.inl (0, 0)))])
def wk_y4 : wk_C := .inl (0, 6, [List.replicate 32 (.inl (0, 0))])
def wk_y5 : wk_C := .inl (2, 3, [[.inr (.inr (.inl (some 12))), .inr (.inr (.inl (some 13))), .inr (.inr (.inl (some 14))), .inr (.inr (.inl (some 15))), .inr (.inr (.inl (some 16))), .inr (.inr (.inl (some 17))), .inr (.inr (.inl (some 18))), .inr (.inr (.inl (some 19))), .inr (.inr (.inl (some 20))), .inr (.inr (.inl (some 21))), .inr (.inr (.inl (some 22))), .inr (.inr (.inl (some 23))), .inr (.inr (.inl (some 24))), .inr (.inr (.inl (some 25))), .inr (.inr (.inl (some 26))), .inr (.inr (.inl (some 27))), .inr (.inr (.inl (some 28))), .inr (.inr (.inl (some 29))), .inr (.inr (.inl (some 30))), .inr (.inr (.inl (some 31))), .inr (.inr (.inl (some 32))), .inr (.inr (.inl (some 33))), .inr (.inr (.inl (some 34))), .inr (.inr (.inl (some 35))), .inr (.inr (.inl (some 36))), .inr (.inr (.inl (some 37))), .inr (.inr (.inl (some 38))), .inr (.inr (.inl (some 39))), .inr (.inr (.inl (some 40))), .inr (.inr (.inl (some 41))), .inr (.inr (.inl (some 42))), .inr (.inr (.inl (some 43)))]])
def wk_y6 : wk_C := .inl (0, 5, [List.replicate 32 (.inl (0, 0))])
def wk_y7 : wk_C := .inl (2, 10, [[.inr (.inr (.inl (some 16))), .inr (.inr (.inl (some 17))), .inr (.inr (.inl (some 18))), .inr (.inr (.inl (some 19))), .inr (.inr (.inl (some 20))), .inr (.inr (.inl (some 21))), .inr (.inr (.inl (some 22))), .inr (.inr (.inl (some 23))), .inr (.inr (.inl (some 24))), .inr (.inr (.inl (some 25))), .inr (.inr (.inl (some 26))), .inr (.inr (.inl (some 27))), .inr (.inr (.inl (some 28))), .inr (.inr (.inl (some 29))), .inr (.inr (.inl (some 30))), .inr (.inr (.inl (some 31))), .inr (.inr (.inl (some 32))), .inr (.inr (.inl (some 33))), .inr (.inr (.inl (some 34))), .inr (.inr (.inl (some 35))), .inr (.inr (.inl (some 36))), .inr (.inr (.inl (some 37))), .inr (.inr (.inl (some 38))), .inr (.inr (.inl (some 39))), .inr (.inr (.inl (some 40))), .inr (.inr (.inl (some 41))), .inr (.inr (.inl (some 42))), .inr (.inr (.inl (some 43))), .inr (.inr (.inl (some 44))), .inr (.inr (.inl (some 45))), .inr (.inr (.inl (some 46))), .inr (.inr (.inl (some 47)))]])
def wk_y8 : wk_C := .inl (0, 7, [List.replicate 32 (.inl (0, 0))])
def wk_y9 : wk_C := .inl (0, 2, [([.inl (5, 5), .inl (2, 2)]) ++ (List.replicate 30 (.inl (0, 0)))])
def wk_y10 : wk_C := .inl (2, 2, [[.inr (.inr (.inl (some 29))), .inr (.inr (.inl (some 30))), .inr (.inr (.inl (some 31))), .inr (.inr (.inl (some 32))), .inr (.inr (.inl (some 33))), .inr (.inr (.inl (some 34))), .inr (.inr (.inl (some 35))), .inr (.inr (.inl (some 36))), .inr (.inr (.inl (some 37))), .inr (.inr (.inl (some 38))), .inr (.inr (.inl (some 39))), .inr (.inr (.inl (some 40))), .inr (.inr (.inl (some 41))), .inr (.inr (.inl (some 42))), .inr (.inr (.inl (some 43))), .inr (.inr (.inl (some 44))), .inr (.inr (.inl (some 45))), .inr (.inr (.inl (some 46))), .inr (.inr (.inl (some 47))), .inr (.inr (.inl (some 48))), .inr (.inr (.inl (some 49))), .inr (.inr (.inl (some 50))), .inr (.inr (.inl (some 51))), .inr (.inr (.inl (some 52))), .inr (.inr (.inl (some 53))), .inr (.inr (.inl (some 54))), .inr (.inr (.inl (some 55))), .inr (.inr (.inl (some 56))), .inr (.inr (.inl (some 57))), .inr (.inr (.inl (some 58))), .inr (.inr (.inl (some 59))), .inr (.inr (.inl (some 60)))]])
def wk_y11 : wk_C := .inl (0, 240, List.replicate 8 (List.replicate 32 (.inl (0, 0))))
def wk_y12 : wk_C := .inl (0, 2, [List.replicate 32 (.inl (0, 0))])
def wk_y13 : wk_C := .inr (7, [.inl (0, 0), .inl (0, 0), .inl (0, 0), .inl (0, 0), .inr (.inr (.inl (some 33))), .inr (.inr (.inl (some 40))), .inr (.inr (.inl (some 41))), .inr (.inr (.inl (some 42))), .inr (.inr (.inl (some 46))), .inr (.inr (.inl (some 57))), .inr (.inr (.inl (some 58))), .inr (.inr (.inl (some 59))), .inr (.inr (.inl (some 62)))])
def wk_y14 : wk_C := .inl (2, 6, [[.inr (.inr (.inl (some 34))), .inr (.inr (.inl (some 35))), .inr (.inr (.inl (some 36))), .inr (.inr (.inl (some 37))), .inr (.inr (.inl (some 38))), .inr (.inr (.inl (some 39))), .inr (.inr (.inl (some 40))), .inr (.inr (.inl (some 41))), .inr (.inr (.inl (some 42))), .inr (.inr (.inl (some 43))), .inr (.inr (.inl (some 44))), .inr (.inr (.inl (some 45))), .inr (.inr (.inl (some 46))), .inr (.inr (.inl (some 47))), .inr (.inr (.inl (some 48))), .inr (.inr (.inl (some 49))), .inr (.inr (.inl (some 50))), .inr (.inr (.inl (some 51))), .inr (.inr (.inl (some 52))), .inr (.inr (.inl (some 53))), .inr (.inr (.inl (some 54))), .inr (.inr (.inl (some 55))), .inr (.inr (.inl (some 56))), .inr (.inr (.inl (some 57))), .inr (.inr (.inl (some 58))), .inr (.inr (.inl (some 59))), .inr (.inr (.inl (some 60))), .inr (.inr (.inl (some 61))), .inr (.inr (.inl (some 62))), .inr (.inr (.inl (some 63))), .inr (.inr (.inl (some 64))), .inr (.inr (.inl (some 65)))]])
def wk_y15 : wk_C := .inl (2, 3, [[.inr (.inr (.inl (some 43))), .inr (.inr (.inl (some 44))), .inr (.inr (.inl (some 45))), .inr (.inr (.inl (some 46))), .inr (.inr (.inl (some 47))), .inr (.inr (.inl (some 48))), .inr (.inr (.inl (some 49))), .inr (.inr (.inl (some 50))), .inr (.inr (.inl (some 51))), .inr (.inr (.inl (some 52))), .inr (.inr (.inl (some 53))), .inr (.inr (.inl (some 54))), .inr (.inr (.inl (some 55))), .inr (.inr (.inl (some 56))), .inr (.inr (.inl (some 57))), .inr (.inr (.inl (some 58))), .inr (.inr (.inl (some 59))), .inr (.inr (.inl (some 60))), .inr (.inr (.inl (some 61))), .inr (.inr (.inl (some 62))), .inr (.inr (.inl (some 63))), .inr (.inr (.inl (some 64))), .inr (.inr (.inl (some 65))), .inr (.inr (.inl (some 66))), .inr (.inr (.inl (some 67))), .inr (.inr (.inl (some 68))), .inr (.inr (.inl (some 69))), .inr (.inr (.inl (some 70))), .inr (.inr (.inl (some 71))), .inr (.inr (.inl (some 72))), .inr (.inr (.inl (some 73))), .inr (.inr (.inl (some 74)))]])
def wk_y16 : wk_C := .inl (2, 10, [[.inr (.inr (.inl (some 47))), .inr (.inr (.inl (some 48))), .inr (.inr (.inl (some 49))), .inr (.inr (.inl (some 50))), .inr (.inr (.inl (some 51))), .inr (.inr (.inl (some 52))), .inr (.inr (.inl (some 53))), .inr (.inr (.inl (some 54))), .inr (.inr (.inl (some 55))), .inr (.inr (.inl (some 56))), .inr (.inr (.inl (some 57))), .inr (.inr (.inl (some 58))), .inr (.inr (.inl (some 59))), .inr (.inr (.inl (some 60))), .inr (.inr (.inl (some 61))), .inr (.inr (.inl (some 62))), .inr (.inr (.inl (some 63))), .inr (.inr (.inl (some 64))), .inr (.inr (.inl (some 65))), .inr (.inr (.inl (some 66))), .inr (.inr (.inl (some 67))), .inr (.inr (.inl (some 68))), .inr (.inr (.inl (some 69))), .inr (.inr (.inl (some 70))), .inr (.inr (.inl (some 71))), .inr (.inr (.inl (some 72))), .inr (.inr (.inl (some 73))), .inr (.inr (.inl (some 74))), .inr (.inr (.inl (some 75))), .inr (.inr (.inl (some 76))), .inr (.inr (.inl (some 77))), .inr (.inr (.inl (some 78)))]])
def wk_y17 : wk_C := .inl (2, 2, [[.inr (.inr (.inl (some 60))), .inr (.inr (.inl (some 61))), .inr (.inr (.inl (some 62))), .inr (.inr (.inl (some 63))), .inr (.inr (.inl (some 64))), .inr (.inr (.inl (some 65))), .inr (.inr (.inl (some 66))), .inr (.inr (.inl (some 67))), .inr (.inr (.inl (some 68))), .inr (.inr (.inl (some 69))), .inr (.inr (.inl (some 70))), .inr (.inr (.inl (some 71))), .inr (.inr (.inl (some 72))), .inr (.inr (.inl (some 73))), .inr (.inr (.inl (some 74))), .inr (.inr (.inl (some 75))), .inr (.inr (.inl (some 76))), .inr (.inr (.inl (some 77))), .inr (.inr (.inl (some 78))), .inr (.inr (.inl (some 79))), .inr (.inr (.inl (some 80))), .inr (.inr (.inl (some 81))), .inr (.inr (.inl (some 82))), .inr (.inr (.inl (some 83))), .inr (.inr (.inl (some 84))), .inr (.inr (.inl (some 85))), .inr (.inr (.inl (some 86))), .inr (.inr (.inl (some 87))), .inr (.inr (.inl (some 88))), .inr (.inr (.inl (some 89))), .inr (.inr (.inl (some 90))), .inr (.inr (.inl (some 91)))]])
def wk_y18 : wk_C := .inl (3, 2, [([.inr (.inr (.inl (some 64))), .inr (.inr (.inl (some 95)))]) ++ (List.replicate 30 (.inr (.inr (.inl none))))])
def wk_y19 : wk_C := .inr (7, [.inl (0, 0), .inl (0, 0), .inl (0, 0), .inl (0, 0), .inr (.inr (.inl (some 65))), .inr (.inr (.inl (some 72))), .inr (.inr (.inl (some 73))), .inr (.inr (.inl (some 74))), .inr (.inr (.inl (some 78))), .inr (.inr (.inl (some 89))), .inr (.inr (.inl (some 90))), .inr (.inr (.inl (some 91))), .inr (.inr (.inl (some 94)))])
def wk_y20 : wk_C := .inl (2, 6, [[.inr (.inr (.inl (some 66))), .inr (.inr (.inl (some 67))), .inr (.inr (.inl (some 68))), .inr (.inr (.inl (some 69))), .inr (.inr (.inl (some 70))), .inr (.inr (.inl (some 71))), .inr (.inr (.inl (some 72))), .inr (.inr (.inl (some 73))), .inr (.inr (.inl (some 74))), .inr (.inr (.inl (some 75))), .inr (.inr (.inl (some 76))), .inr (.inr (.inl (some 77))), .inr (.inr (.inl (some 78))), .inr (.inr (.inl (some 79))), .inr (.inr (.inl (some 80))), .inr (.inr (.inl (some 81))), .inr (.inr (.inl (some 82))), .inr (.inr (.inl (some 83))), .inr (.inr (.inl (some 84))), .inr (.inr (.inl (some 85))), .inr (.inr (.inl (some 86))), .inr (.inr (.inl (some 87))), .inr (.inr (.inl (some 88))), .inr (.inr (.inl (some 89))), .inr (.inr (.inl (some 90))), .inr (.inr (.inl (some 91))), .inr (.inr (.inl (some 92))), .inr (.inr (.inl (some 93))), .inr (.inr (.inl (some 94))), .inr (.inr (.inl (some 95))), .inr (.inr (.inl (some 96))), .inr (.inr (.inl (some 97)))]])
def wk_y21 : wk_C := .inl (2, 3, [[.inr (.inr (.inl (some 75))), .inr (.inr (.inl (some 76))), .inr (.inr (.inl (some 77))), .inr (.inr (.inl (some 78))), .inr (.inr (.inl (some 79))), .inr (.inr (.inl (some 80))), .inr (.inr (.inl (some 81))), .inr (.inr (.inl (some 82))), .inr (.inr (.inl (some 83))), .inr (.inr (.inl (some 84))), .inr (.inr (.inl (some 85))), .inr (.inr (.inl (some 86))), .inr (.inr (.inl (some 87))), .inr (.inr (.inl (some 88))), .inr (.inr (.inl (some 89))), .inr (.inr (.inl (some 90))), .inr (.inr (.inl (some 91))), .inr (.inr (.inl (some 92))), .inr (.inr (.inl (some 93))), .inr (.inr (.inl (some 94))), .inr (.inr (.inl (some 95))), .inr (.inr (.inl (some 96))), .inr (.inr (.inl (some 97))), .inr (.inr (.inl (some 98))), .inr (.inr (.inl (some 99))), .inr (.inr (.inl (some 100))), .inr (.inr (.inl (some 101))), .inr (.inr (.inl (some 102))), .inr (.inr (.inl (some 103))), .inr (.inr (.inl (some 104))), .inr (.inr (.inl (some 105))), .inr (.inr (.inl (some 106)))]])
def wk_y22 : wk_C := .inl (2, 10, [[.inr (.inr (.inl (some 79))), .inr (.inr (.inl (some 80))), .inr (.inr (.inl (some 81))), .inr (.inr (.inl (some 82))), .inr (.inr (.inl (some 83))), .inr (.inr (.inl (some 84))), .inr (.inr (.inl (some 85))), .inr (.inr (.inl (some 86))), .inr (.inr (.inl (some 87))), .inr (.inr (.inl (some 88))), .inr (.inr (.inl (some 89))), .inr (.inr (.inl (some 90))), .inr (.inr (.inl (some 91))), .inr (.inr (.inl (some 92))), .inr (.inr (.inl (some 93))), .inr (.inr (.inl (some 94))), .inr (.inr (.inl (some 95))), .inr (.inr (.inl (some 96))), .inr (.inr (.inl (some 97))), .inr (.inr (.inl (some 98))), .inr (.inr (.inl (some 99))), .inr (.inr (.inl (some 100))), .inr (.inr (.inl (some 101))), .inr (.inr (.inl (some 102))), .inr (.inr (.inl (some 103))), .inr (.inr (.inl (some 104))), .inr (.inr (.inl (some 105))), .inr (.inr (.inl (some 106))), .inr (.inr (.inl (some 107))), .inr (.inr (.inl (some 108))), .inr (.inr (.inl (some 109))), .inr (.inr (.inl (some 110)))]])
def wk_y23 : wk_C := .inl (2, 2, [[.inr (.inr (.inl (some 92))), .inr (.inr (.inl (some 93))), .inr (.inr (.inl (some 94))), .inr (.inr (.inl (some 95))), .inr (.inr (.inl (some 96))), .inr (.inr (.inl (some 97))), .inr (.inr (.inl (some 98))), .inr (.inr (.inl (some 99))), .inr (.inr (.inl (some 100))), .inr (.inr (.inl (some 101))), .inr (.inr (.inl (some 102))), .inr (.inr (.inl (some 103))), .inr (.inr (.inl (some 104))), .inr (.inr (.inl (some 105))), .inr (.inr (.inl (some 106))), .inr (.inr (.inl (some 107))), .inr (.inr (.inl (some 108))), .inr (.inr (.inl (some 109))), .inr (.inr (.inl (some 110))), .inr (.inr (.inl (some 111))), .inr (.inr (.inl (some 112))), .inr (.inr (.inl (some 113))), .inr (.inr (.inl (some 114))), .inr (.inr (.inl (some 115))), .inr (.inr (.inl (some 116))), .inr (.inr (.inl (some 117))), .inr (.inr (.inl (some 118))), .inr (.inr (.inl (some 119))), .inr (.inr (.inl (some 120))), .inr (.inr (.inl (some 121))), .inr (.inr (.inl (some 122))), .inr (.inr (.inl (some 123)))]])
def wk_y24 : wk_C := .inr (7, [.inl (0, 0), .inl (0, 0), .inl (0, 0), .inl (0, 0), .inr (.inr (.inl (some 96))), .inr (.inr (.inl (some 103))), .inr (.inr (.inl (some 104))), .inr (.inr (.inl (some 105))), .inr (.inr (.inl (some 109))), .inr (.inr (.inl (some 120))), .inr (.inr (.inl (some 121))), .inr (.inr (.inl (some 122))), .inr (.inr (.inl (some 125)))])
def wk_y25 : wk_C := .inl (2, 6, [[.inr (.inr (.inl (some 97))), .inr (.inr (.inl (some 98))), .inr (.inr (.inl (some 99))), .inr (.inr (.inl (some 100))), .inr (.inr (.inl (some 101))), .inr (.inr (.inl (some 102))), .inr (.inr (.inl (some 103))), .inr (.inr (.inl (some 104))), .inr (.inr (.inl (some 105))), .inr (.inr (.inl (some 106))), .inr (.inr (.inl (some 107))), .inr (.inr (.inl (some 108))), .inr (.inr (.inl (some 109))), .inr (.inr (.inl (some 110))), .inr (.inr (.inl (some 111))), .inr (.inr (.inl (some 112))), .inr (.inr (.inl (some 113))), .inr (.inr (.inl (some 114))), .inr (.inr (.inl (some 115))), .inr (.inr (.inl (some 116))), .inr (.inr (.inl (some 117))), .inr (.inr (.inl (some 118))), .inr (.inr (.inl (some 119))), .inr (.inr (.inl (some 120))), .inr (.inr (.inl (some 121))), .inr (.inr (.inl (some 122))), .inr (.inr (.inl (some 123))), .inr (.inr (.inl (some 124))), .inr (.inr (.inl (some 125))), .inr (.inr (.inl (some 126))), .inr (.inr (.inl (some 127))), .inr (.inr (.inl (some 128)))]])
def wk_y26 : wk_C := .inl (2, 3, [[.inr (.inr (.inl (some 106))), .inr (.inr (.inl (some 107))), .inr (.inr (.inl (some 108))), .inr (.inr (.inl (some 109))), .inr (.inr (.inl (some 110))), .inr (.inr (.inl (some 111))), .inr (.inr (.inl (some 112))), .inr (.inr (.inl (some 113))), .inr (.inr (.inl (some 114))), .inr (.inr (.inl (some 115))), .inr (.inr (.inl (some 116))), .inr (.inr (.inl (some 117))), .inr (.inr (.inl (some 118))), .inr (.inr (.inl (some 119))), .inr (.inr (.inl (some 120))), .inr (.inr (.inl (some 121))), .inr (.inr (.inl (some 122))), .inr (.inr (.inl (some 123))), .inr (.inr (.inl (some 124))), .inr (.inr (.inl (some 125))), .inr (.inr (.inl (some 126))), .inr (.inr (.inl (some 127))), .inr (.inr (.inl (some 128))), .inr (.inr (.inl (some 129))), .inr (.inr (.inl (some 130))), .inr (.inr (.inl (some 131))), .inr (.inr (.inl (some 132))), .inr (.inr (.inl (some 133))), .inr (.inr (.inl (some 134))), .inr (.inr (.inl (some 135))), .inr (.inr (.inl (some 136))), .inr (.inr (.inl (some 137)))]])
def wk_y27 : wk_C := .inl (2, 10, [[.inr (.inr (.inl (some 110))), .inr (.inr (.inl (some 111))), .inr (.inr (.inl (some 112))), .inr (.inr (.inl (some 113))), .inr (.inr (.inl (some 114))), .inr (.inr (.inl (some 115))), .inr (.inr (.inl (some 116))), .inr (.inr (.inl (some 117))), .inr (.inr (.inl (some 118))), .inr (.inr (.inl (some 119))), .inr (.inr (.inl (some 120))), .inr (.inr (.inl (some 121))), .inr (.inr (.inl (some 122))), .inr (.inr (.inl (some 123))), .inr (.inr (.inl (some 124))), .inr (.inr (.inl (some 125))), .inr (.inr (.inl (some 126))), .inr (.inr (.inl (some 127))), .inr (.inr (.inl (some 128))), .inr (.inr (.inl (some 129))), .inr (.inr (.inl (some 130))), .inr (.inr (.inl (some 131))), .inr (.inr (.inl (some 132))), .inr (.inr (.inl (some 133))), .inr (.inr (.inl (some 134))), .inr (.inr (.inl (some 135))), .inr (.inr (.inl (some 136))), .inr (.inr (.inl (some 137))), .inr (.inr (.inl (some 138))), .inr (.inr (.inl (some 139))), .inr (.inr (.inl (some 140))), .inr (.inr (.inl (some 141)))]])
def wk_y28 : wk_C := .inl (2, 2, [[.inr (.inr (.inl (some 123))), .inr (.inr (.inl (some 124))), .inr (.inr (.inl (some 125))), .inr (.inr (.inl (some 126))), .inr (.inr (.inl (some 127))), .inr (.inr (.inl (some 128))), .inr (.inr (.inl (some 129))), .inr (.inr (.inl (some 130))), .inr (.inr (.inl (some 131))), .inr (.inr (.inl (some 132))), .inr (.inr (.inl (some 133))), .inr (.inr (.inl (some 134))), .inr (.inr (.inl (some 135))), .inr (.inr (.inl (some 136))), .inr (.inr (.inl (some 137))), .inr (.inr (.inl (some 138))), .inr (.inr (.inl (some 139))), .inr (.inr (.inl (some 140))), .inr (.inr (.inl (some 141))), .inr (.inr (.inl (some 142))), .inr (.inr (.inl (some 143))), .inr (.inr (.inl (some 144))), .inr (.inr (.inl (some 145))), .inr (.inr (.inl (some 146))), .inr (.inr (.inl (some 147))), .inr (.inr (.inl (some 148))), .inr (.inr (.inl (some 149))), .inr (.inr (.inl (some 150))), .inr (.inr (.inl (some 151))), .inr (.inr (.inl (some 152))), .inr (.inr (.inl (some 153))), .inr (.inr (.inl (some 154)))]])
def wk_y29 : wk_C := .inl (1, 2, [List.replicate 32 (.inl (0, 0))])
def wk_y30 : wk_C := .inr (4, [.inr (.inr (.inl (some 1))), .inl (0, 0), .inr (.inr (.inl (some 128))), .inr (.inr (.inl (some 129))), .inr (.inr (.inl (some 29))), .inl (0, 0), .inl (0, 0), .inl (0, 0), .inl (0, 0)])
def wk_y31 : wk_C := .inl (0, 60, List.replicate 2 (List.replicate 32 (.inl (0, 0))))
def wk_y32 : wk_C := .inl (2, 60, [[.inr (.inr (.inl (some 130))), .inr (.inr (.inl (some 131))), .inr (.inr (.inl (some 132))), .inr (.inr (.inl (some 133))), .inr (.inr (.inl (some 134))), .inr (.inr (.inl (some 135))), .inr (.inr (.inl (some 136))), .inr (.inr (.inl (some 137))), .inr (.inr (.inl (some 138))), .inr (.inr (.inl (some 139))), .inr (.inr (.inl (some 140))), .inr (.inr (.inl (some 141))), .inr (.inr (.inl (some 142))), .inr (.inr (.inl (some 143))), .inr (.inr (.inl (some 144))), .inr (.inr (.inl (some 145))), .inr (.inr (.inl (some 146))), .inr (.inr (.inl (some 147))), .inr (.inr (.inl (some 148))), .inr (.inr (.inl (some 149))), .inr (.inr (.inl (some 150))), .inr (.inr (.inl (some 151))), .inr (.inr (.inl (some 152))), .inr (.inr (.inl (some 153))), .inr (.inr (.inl (some 154))), .inr (.inr (.inl (some 155))), .inr (.inr (.inl (some 156))), .inr (.inr (.inl (some 157))), .inr (.inr (.inl (some 158))), .inr (.inr (.inl (some 159))), .inr (.inr (.inl (some 160))), .inr (.inr (.inl (some 161)))], [.inr (.inr (.inl (some 162))), .inr (.inr (.inl (some 163))), .inr (.inr (.inl (some 164))), .inr (.inr (.inl (some 165))), .inr (.inr (.inl (some 166))), .inr (.inr (.inl (some 167))), .inr (.inr (.inl (some 168))), .inr (.inr (.inl (some 169))), .inr (.inr (.inl (some 170))), .inr (.inr (.inl (some 171))), .inr (.inr (.inl (some 172))), .inr (.inr (.inl (some 173))), .inr (.inr (.inl (some 174))), .inr (.inr (.inl (some 175))), .inr (.inr (.inl (some 176))), .inr (.inr (.inl (some 177))), .inr (.inr (.inl (some 178))), .inr (.inr (.inl (some 179))), .inr (.inr (.inl (some 180))), .inr (.inr (.inl (some 181))), .inr (.inr (.inl (some 182))), .inr (.inr (.inl (some 183))), .inr (.inr (.inl (some 184))), .inr (.inr (.inl (some 185))), .inr (.inr (.inl (some 186))), .inr (.inr (.inl (some 187))), .inr (.inr (.inl (some 188))), .inr (.inr (.inl (some 189))), .inr (.inr (.inl (some 190))), .inr (.inr (.inl (some 191))), .inr (.inr (.inl (some 192))), .inr (.inr (.inl (some 193)))]])
def wk_y33 : wk_C := .inl (0, 4, [List.replicate 32 (.inl (0, 0))])
def wk_y34 : wk_C := .inr (0, [.inr (.inr (.inl (some 1))), .inr (.inr (.inl (some 127))), .inl (0, 0), .inl (0, 0), .inl (0, 0), .inl (0, 0), .inl (0, 0), .inr (.inr (.inl (some 191))), .inr (.inr (.inl (some 192))), .inr (.inr (.inl (some 193))), .inr (.inr (.inl (some 194))), .inr (.inr (.inl (some 201))), .inr (.inr (.inl (some 202))), .inr (.inr (.inl (some 203))), .inl (0, 0)])
def wk_y35 : wk_C := .inl (0, 10, [List.replicate 32 (.inl (0, 0))])
def wk_y36 : wk_C := .inl (2, 6, [[.inr (.inr (.inl (some 195))), .inr (.inr (.inl (some 196))), .inr (.inr (.inl (some 197))), .inr (.inr (.inl (some 198))), .inr (.inr (.inl (some 199))), .inr (.inr (.inl (some 200))), .inr (.inr (.inl (some 201))), .inr (.inr (.inl (some 202))), .inr (.inr (.inl (some 203))), .inr (.inr (.inl (some 204))), .inr (.inr (.inl (some 205))), .inr (.inr (.inl (some 206))), .inr (.inr (.inl (some 207))), .inr (.inr (.inl (some 208))), .inr (.inr (.inl (some 209))), .inr (.inr (.inl (some 210))), .inr (.inr (.inl (some 211))), .inr (.inr (.inl (some 212))), .inr (.inr (.inl (some 213))), .inr (.inr (.inl (some 214))), .inr (.inr (.inl (some 215))), .inr (.inr (.inl (some 216))), .inr (.inr (.inl (some 217))), .inr (.inr (.inl (some 218))), .inr (.inr (.inl (some 219))), .inr (.inr (.inl (some 220))), .inr (.inr (.inl (some 221))), .inr (.inr (.inl (some 222))), .inr (.inr (.inl (some 223))), .inr (.inr (.inl (some 224))), .inr (.inr (.inl (some 225))), .inr (.inr (.inl (some 226)))]])
def wk_y37 : wk_C := .inl (0, 3, [List.replicate 32 (.inl (0, 0))])
def wk_y38 : wk_C := .inr (3, [.inr (.inr (.inl (some 1))), .inl (0, 0), .inl (0, 0), .inr (.inr (.inl (some 205))), .inr (.inr (.inl (some 206))), .inr (.inr (.inl (some 207))), .inr (.inr (.inl (some 208))), .inr (.inr (.inl (some 219)))])
def wk_y39 : wk_C := .inl (2, 10, [[.inr (.inr (.inl (some 209))), .inr (.inr (.inl (some 210))), .inr (.inr (.inl (some 211))), .inr (.inr (.inl (some 212))), .inr (.inr (.inl (some 213))), .inr (.inr (.inl (some 214))), .inr (.inr (.inl (some 215))), .inr (.inr (.inl (some 216))), .inr (.inr (.inl (some 217))), .inr (.inr (.inl (some 218))), .inr (.inr (.inl (some 219))), .inr (.inr (.inl (some 220))), .inr (.inr (.inl (some 221))), .inr (.inr (.inl (some 222))), .inr (.inr (.inl (some 223))), .inr (.inr (.inl (some 224))), .inr (.inr (.inl (some 225))), .inr (.inr (.inl (some 226))), .inr (.inr (.inl (some 227))), .inr (.inr (.inl (some 228))), .inr (.inr (.inl (some 229))), .inr (.inr (.inl (some 230))), .inr (.inr (.inl (some 231))), .inr (.inr (.inl (some 232))), .inr (.inr (.inl (some 233))), .inr (.inr (.inl (some 234))), .inr (.inr (.inl (some 235))), .inr (.inr (.inl (some 236))), .inr (.inr (.inl (some 237))), .inr (.inr (.inl (some 238))), .inr (.inr (.inl (some 239))), .inr (.inr (.inl (some 240)))]])
def wk_y40 : wk_C := .inr (6, [.inr (.inr (.inl (some 1))), .inr (.inr (.inl (some 204))), .inl (0, 0), .inr (.inl (0, 0)), .inr (.inr (.inl (some 221))), .inl (0, 0), .inr (.inl (0, 0)), .inr (.inr (.inl (some 222))), .inr (.inr (.inl (some 223))), .inr (.inr (.inl (some 224))), .inr (.inr (.inl (some 230))), .inr (.inr (.inl (some 236))), .inr (.inr (.inl (some 248))), .inr (.inr (.inl (some 249)))])
def wk_y41 : wk_C := .inl (2, 5, [[.inr (.inr (.inl (some 225))), .inr (.inr (.inl (some 226))), .inr (.inr (.inl (some 227))), .inr (.inr (.inl (some 228))), .inr (.inr (.inl (some 229))), .inr (.inr (.inl (some 230))), .inr (.inr (.inl (some 231))), .inr (.inr (.inl (some 232))), .inr (.inr (.inl (some 233))), .inr (.inr (.inl (some 234))), .inr (.inr (.inl (some 235))), .inr (.inr (.inl (some 236))), .inr (.inr (.inl (some 237))), .inr (.inr (.inl (some 238))), .inr (.inr (.inl (some 239))), .inr (.inr (.inl (some 240))), .inr (.inr (.inl (some 241))), .inr (.inr (.inl (some 242))), .inr (.inr (.inl (some 243))), .inr (.inr (.inl (some 244))), .inr (.inr (.inl (some 245))), .inr (.inr (.inl (some 246))), .inr (.inr (.inl (some 247))), .inr (.inr (.inl (some 248))), .inr (.inr (.inl (some 249))), .inr (.inr (.inl (some 250))), .inr (.inr (.inl (some 251))), .inr (.inr (.inl (some 252))), .inr (.inr (.inl (some 253))), .inr (.inr (.inl (some 254))), .inr (.inr (.inl (some 255))), .inr (.inr (.inl (some 256)))]])
def wk_y42 : wk_C := .inl (2, 5, [[.inr (.inr (.inl (some 231))), .inr (.inr (.inl (some 232))), .inr (.inr (.inl (some 233))), .inr (.inr (.inl (some 234))), .inr (.inr (.inl (some 235))), .inr (.inr (.inl (some 236))), .inr (.inr (.inl (some 237))), .inr (.inr (.inl (some 238))), .inr (.inr (.inl (some 239))), .inr (.inr (.inl (some 240))), .inr (.inr (.inl (some 241))), .inr (.inr (.inl (some 242))), .inr (.inr (.inl (some 243))), .inr (.inr (.inl (some 244))), .inr (.inr (.inl (some 245))), .inr (.inr (.inl (some 246))), .inr (.inr (.inl (some 247))), .inr (.inr (.inl (some 248))), .inr (.inr (.inl (some 249))), .inr (.inr (.inl (some 250))), .inr (.inr (.inl (some 251))), .inr (.inr (.inl (some 252))), .inr (.inr (.inl (some 253))), .inr (.inr (.inl (some 254))), .inr (.inr (.inl (some 255))), .inr (.inr (.inl (some 256))), .inr (.inr (.inl (some 257))), .inr (.inr (.inl (some 258))), .inr (.inr (.inl (some 259))), .inr (.inr (.inl (some 260))), .inr (.inr (.inl (some 261))), .inr (.inr (.inl (some 262)))]])
def wk_y43 : wk_C := .inl (2, 11, [[.inr (.inr (.inl (some 237))), .inr (.inr (.inl (some 238))), .inr (.inr (.inl (some 239))), .inr (.inr (.inl (some 240))), .inr (.inr (.inl (some 241))), .inr (.inr (.inl (some 242))), .inr (.inr (.inl (some 243))), .inr (.inr (.inl (some 244))), .inr (.inr (.inl (some 245))), .inr (.inr (.inl (some 246))), .inr (.inr (.inl (some 247))), .inr (.inr (.inl (some 248))), .inr (.inr (.inl (some 249))), .inr (.inr (.inl (some 250))), .inr (.inr (.inl (some 251))), .inr (.inr (.inl (some 252))), .inr (.inr (.inl (some 253))), .inr (.inr (.inl (some 254))), .inr (.inr (.inl (some 255))), .inr (.inr (.inl (some 256))), .inr (.inr (.inl (some 257))), .inr (.inr (.inl (some 258))), .inr (.inr (.inl (some 259))), .inr (.inr (.inl (some 260))), .inr (.inr (.inl (some 261))), .inr (.inr (.inl (some 262))), .inr (.inr (.inl (some 263))), .inr (.inr (.inl (some 264))), .inr (.inr (.inl (some 265))), .inr (.inr (.inl (some 266))), .inr (.inr (.inl (some 267))), .inr (.inr (.inl (some 268)))]])
def wk_y44 : wk_C := .inl (0, 19, [List.replicate 32 (.inl (0, 0))])
def wk_y45 : wk_C := .inr (5, [.inr (.inr (.inl (some 1))), .inr (.inr (.inl (some 204))), .inr (.inr (.inl (some 220))), .inl (0, 0), .inl (0, 0), .inr (.inr (.inl (some 251))), .inr (.inr (.inl (some 252)))])
def wk_y46 : wk_C := .inr (2, [.inr (.inr (.inl (some 1))), .inr (.inr (.inl (some 204))), .inl (0, 0), .inr (.inr (.inl (some 254)))])
def wk_y47 : wk_C := .inl (0, 20, [List.replicate 32 (.inl (0, 0))])
def wk_y48 : wk_C := .inr (1, [.inr (.inr (.inl (some 1))), .inl (0, 0), .inl (0, 0), .inr (.inr (.inl (some 256))), .inr (.inr (.inl (some 257))), .inr (.inr (.inl (some 258)))])
def wk_y49 : wk_C := .inl (0, 64, List.replicate 3 (List.replicate 32 (.inl (0, 0))))
def wk_y50 : wk_C := .inr (9, ([.inr (.inr (.inl (some 260))), .inr (.inr (.inl (some 261))), .inr (.inr (.inl (some 262))), .inr (.inr (.inl (some 263))), .inr (.inl (0, 0)), .inr (.inl (1, 1)), .inl (0, 0), .inl (0, 0), .inl (0, 0), .inl (0, 0), .inl (0, 0), .inr (.inr (.inl (some 264))), .inr (.inr (.inl (some 265))), .inl (0, 0), .inr (.inr (.inl (some 266))), .inr (.inr (.inl (some 267))), .inr (.inr (.inl (some 268))), .inr (.inr (.inl (some 269))), .inr (.inr (.inl (some 270))), .inr (.inr (.inl (some 271)))]) ++ (List.replicate 6 (.inl (0, 0))) ++ ([.inr (.inr (.inl (some 272))), .inr (.inr (.inl (some 273))), .inr (.inr (.inl (some 274))), .inr (.inr (.inl (some 275))), .inr (.inr (.inl (some 276))), .inr (.inr (.inl (some 277))), .inr (.inr (.inl (some 278))), .inl (0, 0), .inr (.inr (.inl (some 279))), .inl (0, 0), .inr (.inr (.inl (some 280))), .inr (.inr (.inl (some 281))), .inl (0, 0), .inl (0, 0), .inr (.inr (.inl (some 282))), .inr (.inr (.inl (some 283))), .inr (.inr (.inl (some 284))), .inr (.inr (.inl (some 285))), .inr (.inr (.inl (some 286))), .inl (0, 0), .inr (.inr (.inl (some 287))), .inl (0, 0), .inr (.inr (.inl (some 288)))]))
def wk_y51 : wk_C := .inl (0, 650, ([([.inl (0, 0), .inl (0, 0), .inl (0, 0), .inl (0, 0), .inl (5, 5), .inl (2, 2), .inl (0, 0), .inl (0, 0), .inl (0, 0), .inl (0, 0)]) ++ (List.replicate 22 (.inl (1, 1))), (List.replicate 14 (.inl (1, 1))) ++ (List.replicate 18 (.inl (0, 0)))]) ++ (List.replicate 19 (List.replicate 32 (.inl (0, 0)))))
def wk_y52 : wk_C := .inl (0, 1300, List.replicate 41 (List.replicate 32 (.inl (0, 0))))
def wk_y53 : wk_C := .inl (0, 650, List.replicate 21 (List.replicate 32 (.inl (0, 0))))
def wk_y54 : wk_C := .inl (0, 1200, List.replicate 38 (List.replicate 32 (.inl (0, 0))))
def wk_y55 : wk_C := .inl (0, 18, [List.replicate 32 (.inl (0, 0))])
def wk_y56 : wk_C := .inl (1, 10, [List.replicate 32 (.inl (0, 0))])
def wk_y57 : wk_C := .inl (0, 1331, List.replicate 42 (List.replicate 32 (.inl (0, 0))))
def wk_yE : wk_C := .inr (1000, [])
def wk_AH0 : wk_A := (0, List.replicate 10 (List.replicate 32 wk_yE))
def wk_AH1 : wk_A := (289, [
  [wk_y0, wk_y1, wk_y2, wk_y3, wk_y3, wk_y3, wk_y3, wk_y3, wk_y3, wk_y4, wk_y4, wk_y5, wk_y6, wk_y6, wk_y6, wk_y7, wk_y8, wk_y8, wk_y8, wk_y8, wk_y8, wk_y8, wk_y8, wk_y8, wk_y8, wk_y8, wk_y9, wk_y6, wk_y10, wk_y11, wk_y11, wk_y12],
  [wk_y13, wk_y14, wk_y3, wk_y3, wk_y3, wk_y3, wk_y3, wk_y3, wk_y4, wk_y4, wk_y15, wk_y6, wk_y6, wk_y6, wk_y16, wk_y8, wk_y8, wk_y8, wk_y8, wk_y8, wk_y8, wk_y8, wk_y8, wk_y8, wk_y8, wk_y9, wk_y6, wk_y17, wk_y11, wk_y11, wk_y12, wk_y18],
  [wk_y19, wk_y20, wk_y3, wk_y3, wk_y3, wk_y3, wk_y3, wk_y3, wk_y4, wk_y4, wk_y21, wk_y6, wk_y6, wk_y6, wk_y22, wk_y8, wk_y8, wk_y8, wk_y8, wk_y8, wk_y8, wk_y8, wk_y8, wk_y8, wk_y8, wk_y9, wk_y6, wk_y23, wk_y11, wk_y11, wk_y12, wk_y24],
  [wk_y25, wk_y3, wk_y3, wk_y3, wk_y3, wk_y3, wk_y3, wk_y4, wk_y4, wk_y26, wk_y6, wk_y6, wk_y6, wk_y27, wk_y8, wk_y8, wk_y8, wk_y8, wk_y8, wk_y8, wk_y8, wk_y8, wk_y8, wk_y8, wk_y9, wk_y6, wk_y28, wk_y11, wk_y11, wk_y12, wk_y29, wk_y30],
  [wk_y31, wk_y32, wk_y33, wk_y33, wk_y33, wk_y33, wk_y33, wk_y33, wk_y33, wk_y33, wk_y33, wk_y33, wk_y33, wk_y33, wk_y33, wk_y33, wk_y33, wk_y33, wk_y33, wk_y33, wk_y33, wk_y33, wk_y33, wk_y33, wk_y33, wk_y33, wk_y33, wk_y33, wk_y33, wk_y33, wk_y33, wk_y33],
  [wk_y33, wk_y33, wk_y33, wk_y33, wk_y33, wk_y33, wk_y33, wk_y33, wk_y33, wk_y33, wk_y33, wk_y33, wk_y33, wk_y33, wk_y33, wk_y33, wk_y33, wk_y33, wk_y33, wk_y33, wk_y33, wk_y33, wk_y33, wk_y33, wk_y33, wk_y33, wk_y33, wk_y33, wk_y33, wk_y33, wk_y34, wk_y35],
  [wk_y4, wk_y4, wk_y36, wk_y37, wk_y37, wk_y37, wk_y37, wk_y37, wk_y37, wk_y4, wk_y37, wk_y35, wk_y38, wk_y6, wk_y35, wk_y35, wk_y39, wk_y6, wk_y6, wk_y6, wk_y6, wk_y6, wk_y6, wk_y6, wk_y6, wk_y6, wk_y6, wk_y4, wk_y40, wk_y35, wk_y35, wk_y37],
  [wk_y41, wk_y4, wk_y4, wk_y4, wk_y4, wk_y4, wk_y42, wk_y4, wk_y4, wk_y4, wk_y4, wk_y4, wk_y43, wk_y6, wk_y6, wk_y6, wk_y6, wk_y6, wk_y6, wk_y6, wk_y6, wk_y6, wk_y6, wk_y6, wk_y44, wk_y44, wk_y45, wk_y6, wk_y6, wk_y46, wk_y47, wk_y48],
  [wk_y4, wk_y12, wk_y49, wk_y50, wk_y51, wk_y52, wk_y29, wk_y53, wk_y11, wk_y54, wk_y35, wk_y55, wk_y4, wk_y4, wk_y4, wk_y37, wk_y35, wk_y35, wk_y35, wk_y56, wk_y4, wk_y4, wk_y35, wk_y35, wk_y6, wk_y6, wk_y6, wk_y57, wk_y57, wk_y44, wk_y44, wk_y35],
  [wk_y35, wk_yE, wk_yE, wk_yE, wk_yE, wk_yE, wk_yE, wk_yE, wk_yE, wk_yE, wk_yE, wk_yE, wk_yE, wk_yE, wk_yE, wk_yE, wk_yE, wk_yE, wk_yE, wk_yE, wk_yE, wk_yE, wk_yE, wk_yE, wk_yE, wk_yE, wk_yE, wk_yE, wk_yE, wk_yE, wk_yE, wk_yE]])
def wk_AL1 : wk_L := [(3, .inl (0, 0)), (2, .inr (.inr (.inl (some 259)))), (1, .inr (.inr (.inl (some 0)))), (0, .inr (.inr (.inr (2, 0))))]
def wk_qV (v w : wk_V) : Bool := match v, w with
  | .inl (a, b), .inl (c, d) => decide (a = c) && decide (b = d)
  | .inr (.inl (a, b)), .inr (.inl (c, d)) => decide (a = c) && decide (b = d)
  | .inr (.inr (.inl none)), .inr (.inr (.inl none)) => true
  | .inr (.inr (.inl (some a))), .inr (.inr (.inl (some b))) => Nat.beq a b
  | .inr (.inr (.inr (a, b))), .inr (.inr (.inr (c, d))) => Nat.beq a c && Nat.beq b d
  | _, _ => false
theorem wk_qV_r {v w : wk_V} (h : wk_qV v w = true) : v = w := by
  unfold wk_qV at h
  split at h
  · rw [Bool.and_eq_true, decide_eq_true_eq, decide_eq_true_eq] at h
    rw [h.1, h.2]
  · rw [Bool.and_eq_true, decide_eq_true_eq, decide_eq_true_eq] at h
    rw [h.1, h.2]
  · rfl
  · rw [Nat.eq_of_beq_eq_true h]
  · rw [Bool.and_eq_true] at h
    rw [Nat.eq_of_beq_eq_true h.1, Nat.eq_of_beq_eq_true h.2]
  · cases h
def wk_qL {α : Type} (f : α → α → Bool) : List α → List α → Bool
  | [], [] => true
  | a :: l, b :: m => f a b && wk_qL f l m
  | _, _ => false
theorem wk_qL_r {α : Type} {f : α → α → Bool} (hf : ∀ a b, f a b = true → a = b) : ∀ {l m : List α}, wk_qL f l m = true → l = m
  | [], [], _ => rfl
  | [], _ :: _, h => by cases h
  | _ :: _, [], h => by cases h
  | a :: l, b :: m, h => by
    have h : (f a b && wk_qL f l m) = true := h
    rw [Bool.and_eq_true] at h
    rw [hf a b h.1, wk_qL_r hf h.2]
def wk_qC (c d : wk_C) : Bool := match c, d with
  | .inl (t, n, vs), .inl (t2, n2, vs2) => Nat.beq t t2 && (Nat.beq n n2 && wk_qL (wk_qL wk_qV) vs vs2)
  | .inr (t, fs), .inr (t2, fs2) => Nat.beq t t2 && wk_qL wk_qV fs fs2
  | _, _ => false
theorem wk_qC_r {c d : wk_C} (h : wk_qC c d = true) : c = d := by
  unfold wk_qC at h
  split at h
  · simp only [Bool.and_eq_true] at h
    rw [Nat.eq_of_beq_eq_true h.1, Nat.eq_of_beq_eq_true h.2.1, wk_qL_r (fun a b q => wk_qL_r (fun a b q => wk_qV_r q) q) h.2.2]
  · simp only [Bool.and_eq_true] at h
    rw [Nat.eq_of_beq_eq_true h.1, wk_qL_r (fun a b q => wk_qV_r q) h.2]
  · cases h
def kS_is (pc : Nat) (AL : wk_L) (AS : List wk_V) (AH : wk_A) (nc ns : Nat) : Bool :=
  Nat.beq pc 18 && (wk_qL (fun a b => Nat.beq a.1 b.1 && wk_qV a.2 b.2) AL wk_AL1 && (AS.isEmpty && (Nat.beq AH.1 wk_AH1.1 && (wk_qL (wk_qL wk_qC) AH.2 wk_AH1.2 && (Nat.beq nc 289 && Nat.beq ns 10466)))))
theorem kS_is_r {pc : Nat} {AL : wk_L} {AS : List wk_V} {AH : wk_A} {nc ns : Nat} (h : kS_is pc AL AS AH nc ns = true) : pc = 18 ∧ AL = wk_AL1 ∧ AS = [] ∧ AH = wk_AH1 ∧ nc = 289 ∧ ns = 10466 := by
  unfold kS_is at h
  simp only [Bool.and_eq_true] at h
  obtain ⟨h1, h2, h3, h4, h5, h6, h7⟩ := h
  refine ⟨Nat.eq_of_beq_eq_true h1, wk_qL_r (fun a b q => ?_) h2, List.isEmpty_iff.mp h3, ?_, Nat.eq_of_beq_eq_true h6, Nat.eq_of_beq_eq_true h7⟩
  · rw [Bool.and_eq_true] at q
    exact Prod.ext (Nat.eq_of_beq_eq_true q.1) (wk_qV_r q.2)
  · exact Prod.ext (Nat.eq_of_beq_eq_true h4) (wk_qL_r (fun a b q => wk_qL_r (fun a b q => wk_qC_r q) q) h5)
noncomputable def kS_pre : Bool := match kS_go wk_mt wk_mL (fun _ pc AL AS AH nc ns _ => kS_is pc AL AS AH nc ns) (kS_run wk_mt 100000 10) 100000 [] 0 [(0, .inr (.inr (.inr (2, 0))))] [] wk_AH0 0 0 [] with
  | some [] => true
  | _ => false
theorem kS_pre_ok : kS_pre = true := by decide +kernel
theorem kS_pre_r : kS_go wk_mt wk_mL (fun _ pc AL AS AH nc ns _ => kS_is pc AL AS AH nc ns) (kS_run wk_mt 100000 10) 100000 [] 0 [(0, .inr (.inr (.inr (2, 0))))] [] wk_AH0 0 0 [] = some [] := by
  have h := kS_pre_ok
  unfold kS_pre at h
  split at h
  · rename_i hq
    exact hq
  · cases h
end
section
-- 99.zv
/-! ===== the state behind both constructors, in the clean logic ===== -/
def kh_v (v : wk_V) : kc_V := match v with
  | .inl (a, _) => .inl (Int32.ofInt a)
  | .inr (.inl (a, _)) => .inr (.inl (Int64.ofInt a))
  | .inr (.inr (.inl r)) => .inr (.inr (.inl r))
  | .inr (.inr (.inr (_, i))) => .inr (.inr (.inr i))
def kh0 : kc_H := fun c i => match wk_at2 wk_AH1.2 c with
  | some (.inl (_, _, vs)) => (match wk_at2 vs i with
    | some v => kh_v v
    | none => .inl 0)
  | some (.inr (_, fs)) => (match wk_at fs i with
    | some v => kh_v v
    | none => .inl 0)
  | none => .inl 0
theorem kh_Ab : wk_qL (wk_qL wk_qC) (kc_A kh0).2 wk_AH1.2 = true := by decide +kernel
theorem kh_A : kc_A kh0 = wk_AH1 := Prod.ext (show kc_N = wk_AH1.1 from rfl) (wk_qL_r (fun a b q => wk_qL_r (fun a b q => wk_qC_r q) q) kh_Ab)
def kh_g (v : kd_V) (x : kc_V) : Bool := match v, x with
  | (0, lo, hi), .inl a => Nat.ble lo (kd_nb a) && Nat.ble (kd_nb a) hi
  | (2, lo, hi), .inr (.inl a) => Nat.ble lo (kd_nj a) && Nat.ble (kd_nj a) hi
  | (3, lo, hi), .inr (.inr (.inl (some c))) => Nat.ble lo c && Nat.ble c hi
  | _, _ => false
theorem kh_g_r {v : kd_V} {x : kc_V} (h : kh_g v x = true) : kd_g 0 (fun _ => 0) v x := by
  unfold kh_g at h
  split at h
  · rw [Bool.and_eq_true] at h
    exact ⟨_, rfl, Nat.le_of_ble_eq_true h.1, Nat.le_of_ble_eq_true h.2⟩
  · rw [Bool.and_eq_true] at h
    exact ⟨_, rfl, Nat.le_of_ble_eq_true h.1, Nat.le_of_ble_eq_true h.2⟩
  · rw [Bool.and_eq_true] at h
    exact ⟨_, rfl, Nat.le_of_ble_eq_true h.1, Nat.le_of_ble_eq_true h.2⟩
  · cases h
/-- a cell's places one after another -/
def kh_run (c : Nat) (v : kd_V) : Nat → Nat → Bool
  | 0, _ => true
  | n + 1, i => kh_g v (kh0 c i) && kh_run c v n (i + 1)
def kh_runs (c : Nat) : List (Nat × kd_V) → Nat → Bool
  | [], _ => true
  | (m, v) :: r, i => kh_run c v m i && kh_runs c r (i + m)
theorem kh_run_r {c : Nat} {v : kd_V} : ∀ (n i : Nat), kh_run c v n i = true → ∀ j, j < n → kh_g v (kh0 c (i + j)) = true
  | 0, _, _, j, hj => by omega
  | n + 1, i, h, j, hj => by
    have h : (kh_g v (kh0 c i) && kh_run c v n (i + 1)) = true := h
    rw [Bool.and_eq_true] at h
    cases j with
    | zero => exact h.1
    | succ j =>
      have := kh_run_r n (i + 1) h.2 j (by omega)
      rw [show i + 1 + j = i + (j + 1) from by omega] at this
      exact this
theorem kh_runs_r {c : Nat} : ∀ (l : List (Nat × kd_V)) (i j : Nat) (v : kd_V), kh_runs c l i = true → kd_rn l j = some v → kh_g v (kh0 c (i + j)) = true
  | [], _, _, _, _, h => by cases h
  | (m, w) :: r, i, j, v, h, hv => by
    have h : (kh_run c w m i && kh_runs c r (i + m)) = true := h
    rw [Bool.and_eq_true] at h
    have hv : (bif Nat.blt j m then some w else kd_rn r (j - m)) = some v := hv
    cases e : Nat.blt j m with
    | true =>
      rw [e] at hv
      cases hv
      exact kh_run_r m i h.1 j (Nat.le_of_ble_eq_true e)
    | false =>
      rw [e] at hv
      have hjm : ¬ j < m := fun q => by
        rw [show Nat.blt j m = true from Nat.ble_eq_true_of_le q] at e
        cases e
      have := kh_runs_r r (i + m) (j - m) v h.2 hv
      rw [show i + m + (j - m) = i + j from by omega] at this
      exact this
theorem kh_all : ∀ r, r < 10 → ∀ k, k < 32 → kh_runs (32 * r + k) (kd_ty (32 * r + k)) 0 = true := by decide +kernel
theorem kh_len : kd_tys.length = 10 ∧ ∀ l ∈ kd_tys, l.length ≤ 32 := by decide +kernel
theorem kh_wt : kd_wt kd_ty kh0 := by
  intro c i v hv
  have hc : c < 320 := by
    unfold kd_ty at hv
    cases e : wk_at2 kd_tys c with
    | none => rw [e] at hv; cases hv
    | some l =>
      rw [wk_at2_eq] at e
      by_cases q : c / 32 < 10
      · omega
      · rw [List.getElem?_eq_none (by rw [kh_len.1]; omega)] at e
        cases e
  have := kh_runs_r (c := c) (kd_ty c) 0 i v (by
    have := kh_all (c / 32) (by omega) (c % 32) (Nat.mod_lt _ (by decide))
    rw [show 32 * (c / 32) + c % 32 = c from by omega] at this
    exact this) hv
  rw [Nat.zero_add] at this
  exact kh_g_r this
theorem kh_R1 : kR1 kh0 1 29 31 260 0 := ⟨by decide +kernel, by decide +kernel, by decide +kernel, by decide +kernel, by decide +kernel⟩
theorem kh_R2 : kR1 kh0 64 92 94 261 0 := ⟨by decide +kernel, by decide +kernel, by decide +kernel, by decide +kernel, by decide +kernel⟩
theorem kh_R3 : kR1 kh0 95 123 125 261 650 := ⟨by decide +kernel, by decide +kernel, by decide +kernel, by decide +kernel, by decide +kernel⟩
theorem kh_I {r f : Nat} (h : kh0 r (f + 3) = .inl (Int32.ofNat 0)) : kI kh0 r f := ⟨0, fun _ => 0, by decide, h, fun i hi => absurd hi (by omega), fun i j _ hj => absurd hj (by omega)⟩
theorem kh_Inv : kInv kh0 := ⟨kh_wt, ⟨kh_R1, kh_R2, kh_R3, by decide +kernel⟩, kh_I (by decide +kernel), kh_I (by decide +kernel), kh_I (by decide +kernel)⟩
end
section
-- 99.zv1
/-! ===== all told alike at the start ===== -/
def fh_B (j : Nat) : Int32 := match kh0 260 j with
  | .inl a => a
  | _ => 0
theorem fh_1 : ∀ j, j < 650 → (!(fu_t j) || (decide (kh0 (1 + (fu_p j).1) (fu_p j).2 = .inl (fh_B j)) && decide (kh0 260 j = .inl (fh_B j)))) = true := by decide +kernel
theorem fh_C : fu_C fh_B 1 kh0 := fun j hj ht => by
  have h := fh_1 j hj
  rw [ht] at h
  simp only [Bool.not_true, Bool.false_or, Bool.and_eq_true, decide_eq_true_eq] at h
  exact h.1
theorem fh_R : fu_B fh_B kh0 := fun j hj ht => by
  have h := fh_1 j hj
  rw [ht] at h
  simp only [Bool.not_true, Bool.false_or, Bool.and_eq_true, decide_eq_true_eq] at h
  exact h.2
theorem fh_Inv : fu_I kh0 := ⟨kh_wt, ⟨fh_B, fh_C, fh_R⟩, Or.inl (by decide +kernel), Or.inl (by decide +kernel), by decide +kernel, kh_I (by decide +kernel), kh_I (by decide +kernel), kh_I (by decide +kernel)⟩
end
section
-- 99.zw
/-! ===== the constants at the law's start ===== -/
def kn_t (i : Nat) : Term := .string "EvenSides$Reader" (97 + 2 * i)
theorem kn_ref {args : Array Value} {s : State} {t : Term} (h : (Cond.isRef t).before args s = true) : t.eval args s none [] s = some .null ∨ ∃ a, t.eval args s none [] s = some (.ref a) := by
  cases hv : t.eval args s none [] s with
  | none => simp [Cond.before, Cond.holds, Cond.value, hv] at h
  | some w =>
    cases w <;> simp_all [Cond.before, Cond.holds, Cond.value]
theorem kn_ex : ∀ i, i < 24 → Cond.exactly (kn_t i) "java/lang/String" ∈ flatC (Jvm.Cond.and given_1 narrow_1) := by decide +kernel
theorem kn_co : ∀ i, i < 24 → Cond.eq (.field (kn_t i) "java/lang/String" "coder" "B") (.int 0) ∈ flatC (Jvm.Cond.and given_1 narrow_1) := by decide +kernel
theorem kn_ar : ∀ i, i < 24 → Cond.arrayOf (.field (kn_t i) "java/lang/String" "value" "[B") .byte ∈ flatC (Jvm.Cond.and given_1 narrow_1) := by decide +kernel
theorem kn_le : ∀ i, i < 24 → Cond.eq (.length (.field (kn_t i) "java/lang/String" "value" "[B")) (.int (Int32.ofNat (wk_sl.getD i 0))) ∈ flatC (Jvm.Cond.and given_1 narrow_1) := by decide +kernel
theorem kn_el : ∀ i, i < 24 → ∀ j, j < wk_sl.getD i 0 → Cond.eq (.elem (.field (kn_t i) "java/lang/String" "value" "[B") (.int (Int32.ofNat j))) (.int ((wk_sb.getD i []).getD j 0)) ∈ flatC (Jvm.Cond.and given_1 narrow_1) := by decide +kernel
def kn_tab : List (List Nat) := [[0, 466, 414, 415, 416, 417, 418, 419, 420, 421, 422, 423, 424, 425, 426, 427, 428, 429, 430, 431, 432, 433, 434, 435], [466, 0, 444, 445, 446, 447, 448, 449, 450, 451, 452, 453, 454, 455, 456, 457, 458, 459, 460, 461, 462, 463, 464, 465], [414, 444, 0, 25, 34, 43, 54, 66, 78, 93, 110, 126, 143, 161, 180, 201, 222, 242, 261, 282, 306, 332, 359, 385], [415, 445, 25, 0, 35, 44, 55, 67, 79, 94, 111, 127, 144, 162, 181, 202, 223, 243, 262, 283, 307, 333, 360, 386], [416, 446, 34, 35, 0, 45, 56, 68, 80, 95, 112, 128, 145, 163, 182, 203, 224, 244, 263, 284, 308, 334, 361, 387], [417, 447, 43, 44, 45, 0, 57, 69, 81, 96, 113, 129, 146, 164, 183, 204, 225, 245, 264, 285, 309, 335, 362, 388], [418, 448, 54, 55, 56, 57, 0, 70, 82, 97, 114, 130, 147, 165, 184, 205, 226, 246, 265, 286, 310, 336, 363, 389], [419, 449, 66, 67, 68, 69, 70, 0, 83, 98, 115, 131, 148, 166, 185, 206, 227, 247, 266, 287, 311, 337, 364, 390], [420, 450, 78, 79, 80, 81, 82, 83, 0, 99, 116, 132, 149, 167, 186, 207, 228, 248, 267, 288, 312, 338, 365, 391], [421, 451, 93, 94, 95, 96, 97, 98, 99, 0, 117, 133, 150, 168, 187, 208, 229, 249, 268, 289, 313, 339, 366, 392], [422, 452, 110, 111, 112, 113, 114, 115, 116, 117, 0, 134, 151, 169, 188, 209, 230, 250, 269, 290, 314, 340, 367, 393], [423, 453, 126, 127, 128, 129, 130, 131, 132, 133, 134, 0, 152, 170, 189, 210, 231, 251, 270, 291, 315, 341, 368, 394], [424, 454, 143, 144, 145, 146, 147, 148, 149, 150, 151, 152, 0, 171, 190, 211, 232, 252, 271, 292, 316, 342, 369, 395], [425, 455, 161, 162, 163, 164, 165, 166, 167, 168, 169, 170, 171, 0, 191, 212, 233, 253, 272, 293, 317, 343, 370, 396], [426, 456, 180, 181, 182, 183, 184, 185, 186, 187, 188, 189, 190, 191, 0, 213, 234, 254, 273, 294, 318, 344, 371, 397], [427, 457, 201, 202, 203, 204, 205, 206, 207, 208, 209, 210, 211, 212, 213, 0, 235, 255, 274, 295, 319, 345, 372, 398], [428, 458, 222, 223, 224, 225, 226, 227, 228, 229, 230, 231, 232, 233, 234, 235, 0, 256, 275, 296, 320, 346, 373, 399], [429, 459, 242, 243, 244, 245, 246, 247, 248, 249, 250, 251, 252, 253, 254, 255, 256, 0, 276, 297, 321, 347, 374, 400], [430, 460, 261, 262, 263, 264, 265, 266, 267, 268, 269, 270, 271, 272, 273, 274, 275, 276, 0, 298, 322, 348, 375, 401], [431, 461, 282, 283, 284, 285, 286, 287, 288, 289, 290, 291, 292, 293, 294, 295, 296, 297, 298, 0, 323, 349, 376, 402], [432, 462, 306, 307, 308, 309, 310, 311, 312, 313, 314, 315, 316, 317, 318, 319, 320, 321, 322, 323, 0, 350, 377, 403], [433, 463, 332, 333, 334, 335, 336, 337, 338, 339, 340, 341, 342, 343, 344, 345, 346, 347, 348, 349, 350, 0, 378, 404], [434, 464, 359, 360, 361, 362, 363, 364, 365, 366, 367, 368, 369, 370, 371, 372, 373, 374, 375, 376, 377, 378, 0, 405], [435, 465, 385, 386, 387, 388, 389, 390, 391, 392, 393, 394, 395, 396, 397, 398, 399, 400, 401, 402, 403, 404, 405, 0]]
def kn_q (i j : Nat) : Nat := (kn_tab.getD i []).getD j 0
theorem kn_pq : ∀ i, i < 24 → ∀ j, j < 24 → i < j → ((flatC (Jvm.Cond.and given_1 narrow_1))[kn_q i j]? = some (Cond.not (Cond.eq (kn_t i) (kn_t j))) ∨ (flatC (Jvm.Cond.and given_1 narrow_1))[kn_q i j]? = some (Cond.not (Cond.eq (kn_t j) (kn_t i)))) := by decide +kernel
theorem kn_ne : ∀ i, i < 24 → ∀ j, j < 24 → i ≠ j → (Cond.not (Cond.eq (kn_t i) (kn_t j)) ∈ flatC (Jvm.Cond.and given_1 narrow_1) ∨ Cond.not (Cond.eq (kn_t j) (kn_t i)) ∈ flatC (Jvm.Cond.and given_1 narrow_1)) := by
  intro i hi j hj hij
  rcases Nat.lt_or_gt_of_ne hij with q | q
  · rcases kn_pq i hi j hj q with e | e
    · exact Or.inl (List.mem_of_getElem? e)
    · exact Or.inr (List.mem_of_getElem? e)
  · rcases kn_pq j hj i hi q with e | e
    · exact Or.inr (List.mem_of_getElem? e)
    · exact Or.inl (List.mem_of_getElem? e)
theorem kn_sr : ∀ i, i < 24 → Cond.stringRef "EvenSides$Reader" (97 + 2 * i) (wk_tx.getD i "") ∈ lw_tbl := by decide +kernel
theorem kn_S {args : Array Value} {s : State} {A : Nat → Prop} (h : (Jvm.Cond.and given_1 narrow_1).before args s = true) (hts : ∀ w ∈ lw_tbl, w.before args s = true) (hA : ∀ a : Nat, a < s.heap.size → ¬ A a) (b : Nat) : ∃ z : Nat → Nat, z 0 = b ∧ wk_S z A s s.heap := by
  have hs := flat_of_before _ h
  obtain ⟨adK, adV, hS, hev⟩ := vk_Sof (args := args) (s := s) (N := 24) (tm := kn_t) (len := wk_sl) (byt := wk_sb) (A := A) (by decide) (fun i hi => hs _ (kn_ex i hi)) (fun i hi => hs _ (kn_co i hi)) (fun i hi => hs _ (kn_ar i hi)) (fun i hi => hs _ (kn_le i hi)) (fun i hi j hj => hs _ (kn_el i hi j hj)) (fun i j hi hj hij => by
    rcases kn_ne i hi j hj hij with q | q
    · exact Or.inl (hs _ q)
    · exact Or.inr (hs _ q)) hA
  have hfm := kn_ref (hs (Cond.isRef (.static "jdk/internal/util/Preconditions" "SIOOBE_FORMATTER" "Ljava/util/function/BiFunction;")) (by decide +kernel))
  have hc : (Term.static "java/lang/String" "COMPACT_STRINGS" "Z").eval args s none [] s = some (.int 1) := va_eqi (hs _ (by decide +kernel))
  obtain ⟨f, hf⟩ : ∃ f, (Term.static "jdk/internal/util/Preconditions" "SIOOBE_FORMATTER" "Ljava/util/function/BiFunction;").eval args s none [] s = some .null ∨ (Term.static "jdk/internal/util/Preconditions" "SIOOBE_FORMATTER" "Ljava/util/function/BiFunction;").eval args s none [] s = some (.ref f) := by
    rcases hfm with q | ⟨f, q⟩
    · exact ⟨0, Or.inl q⟩
    · exact ⟨f, Or.inr q⟩
  refine ⟨fun k => if k = 0 then b else if k < 100 then adK (k - 1) else if k < 200 then adV (k - 101) else f, rfl, ⟨?_, ?_⟩, ?_, ?_, ?_⟩
  · intro i hi
    have e := hS.1 i hi
    show va_O "java/lang/String" (if i + 1 = 0 then b else if i + 1 < 100 then adK (i + 1 - 1) else if i + 1 < 200 then adV (i + 1 - 101) else f) A s s.heap ∧ va_OF "java/lang/String" "coder" "B" (.int 0) (if i + 1 = 0 then b else if i + 1 < 100 then adK (i + 1 - 1) else if i + 1 < 200 then adV (i + 1 - 101) else f) A s s.heap ∧ va_OF "java/lang/String" "value" "[B" (.ref (if i + 101 = 0 then b else if i + 101 < 100 then adK (i + 101 - 1) else if i + 101 < 200 then adV (i + 101 - 101) else f)) (if i + 1 = 0 then b else if i + 1 < 100 then adK (i + 1 - 1) else if i + 1 < 200 then adV (i + 1 - 101) else f) A s s.heap ∧ va_T .byte (if i + 101 = 0 then b else if i + 101 < 100 then adK (i + 101 - 1) else if i + 101 < 200 then adV (i + 101 - 101) else f) (wk_sl.getD i 0) (fun j => .int ((wk_sb.getD i []).getD j 0)) A s s.heap
    rw [if_neg (by omega), if_pos (by omega), if_neg (by omega), if_neg (by omega), if_pos (by omega), Nat.add_sub_cancel, Nat.add_sub_cancel]
    exact e
  · intro i j hi hj e
    have e : (if i + 1 = 0 then b else if i + 1 < 100 then adK (i + 1 - 1) else if i + 1 < 200 then adV (i + 1 - 101) else f) = (if j + 1 = 0 then b else if j + 1 < 100 then adK (j + 1 - 1) else if j + 1 < 200 then adV (j + 1 - 101) else f) := e
    rw [if_neg (by omega), if_pos (by omega), if_neg (by omega), if_pos (by omega), Nat.add_sub_cancel, Nat.add_sub_cancel] at e
    exact hS.2 i j hi hj e
  · intro i hi
    show vk_R "EvenSides$Reader" (97 + 2 * i) (wk_tx.getD i "") (if i + 1 = 0 then b else if i + 1 < 100 then adK (i + 1 - 1) else if i + 1 < 200 then adV (i + 1 - 101) else f) s
    rw [if_neg (by omega), if_pos (by omega), Nat.add_sub_cancel]
    exact vk_R.of (hts _ (kn_sr i hi)) (hev i hi)
  · exact va_Zof (hts _ (List.mem_of_getElem? (i := 712) (by decide +kernel))) (hts _ (List.mem_of_getElem? (i := 124) (by decide +kernel))) hc hA
  · rcases hf with hf | hf
    · exact Or.inr (va_Zof (hts _ (List.mem_of_getElem? (i := 728) (by decide +kernel))) (hts _ (List.mem_of_getElem? (i := 126) (by decide +kernel))) hf hA)
    · exact Or.inl (va_Zof (hts _ (List.mem_of_getElem? (i := 728) (by decide +kernel))) (hts _ (List.mem_of_getElem? (i := 126) (by decide +kernel))) hf hA)
end
