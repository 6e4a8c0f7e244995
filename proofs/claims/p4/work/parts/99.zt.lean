/-! ===== runs without the script: sound for a script of any length ===== -/
def wk_nv (v : wk_V) : Bool := match v with
  | .inr (.inr (.inr _)) => false
  | _ => true
def wk_nw (v : wk_V) : Bool := match v with
  | .inr (.inr (.inr (2, _))) => true
  | .inr (.inr (.inr _)) => false
  | _ => true
noncomputable def kS_go (mt : Nat → Option wk_M) (M : wk_M) (cut : wk_Cu) (call : wk_K) (fuel : Nat) : wk_G :=
  Nat.rec (fun _ _ _ _ _ _ _ _ => none) (fun _ go iv pc AL AS AH nc ns wr =>
    bif cut iv pc AL AS AH nc ns wr then some [] else bif iv.isEmpty && ((AL.all fun q => wk_nw q.2) && AS.all wk_nv) then (match wk_fetch M pc with
      | none => none
      | some row => wk_one mt 0 M call go row iv pc AL AS AH nc ns wr) else none) fuel
noncomputable def kS_run (mt : Nat → Option wk_M) (fuel : Nat) (d : Nat) : wk_K :=
  Nat.rec (fun _ _ _ _ => none) (fun _ run id av iv AH => match mt id with
    | some M => bif Nat.ble (wk_cat av) (wk_Ml M) then kS_go mt M (fun _ _ _ _ _ _ _ _ => false) run fuel iv 0 (wk_args 0 av) [] AH 0 0 [] else none
    | none => none) d
theorem kS_mono {p : Program} {l : Launch} {e : Env} {R : Room} {s : State} {m : MethodId} {args : Array Value} {below : List Frame} {meth : Method} {c : Code} {H : Heap} {locs : List Loc} {nc ns : Nat} {Z Z' : State → Prop} {F : JFrame} (h : ∀ t, Z t → Z' t) (k : W p l e R s m args below meth c H locs nc ns Z F) : W p l e R s m args below meth c H locs nc ns Z' F := by
  intro T hT X
  obtain ⟨t, a1, b1⟩ := k T hT X
  exact ⟨t, a1, h t b1⟩
def kS_says (p : Program) (l : Launch) (e : Env) (R : Room) (s : State) (m : MethodId) (args : Array Value) (below : List Frame) (meth : Method) (c : Code) (D : va_G) (A : Nat → Prop) (z : Nat → Nat) (ρ : Nat → Int32) (M : wk_M) (Z : State → Prop) (as0 : List Nat) (ws0 : va_W) (iv : wk_I) (pc : Nat) (AL : wk_L) (AS : List wk_V) (AH : wk_A) (nc ns : Nat) (wrs : List Nat) : Prop :=
  wk_bx ρ iv → nc ≤ wk_Mk M → ns ≤ wk_Ms M → ∀ (H : Heap) (locs : List Loc) (more : List Nat) (ws : va_W) (ls : Array Slot) (lv : List (Nat × Value)) (st : List Value), va_S A s.heap H locs → wk_hr D A s (as0 ++ more) z ρ AH ws H → lv_has ls (wk_Ml M) lv → wk_f2 (wk_rl (as0 ++ more) z ρ) AL lv → wk_f2 (wk_r (as0 ++ more) z ρ) AS st → (∀ j : Nat, j < ws0.length → j ∉ wrs → ws[j]? = ws0[j]?) → W p l e R s m args below meth c H locs nc ns Z (F0 m pc ls st)
theorem kS_gd {mt : Nat → Option wk_M} {M : wk_M} {cut : wk_Cu} {call : wk_K} {iv : wk_I} {pc : Nat} {AL : wk_L} {AS : List wk_V} {AH : wk_A} {nc ns : Nat} {wrs : List Nat} {fs : List wk_F} (hcv : ∀ iv pc AL AS AH nc ns wrs, cut iv pc AL AS AH nc ns wrs = true → (AL.all fun q => wk_nw q.2) = true ∧ AS.all wk_nv = true) : ∀ fuel, kS_go mt M cut call fuel iv pc AL AS AH nc ns wrs = some fs → (AL.all fun q => wk_nw q.2) = true ∧ AS.all wk_nv = true
  | 0, h => by cases h
  | fuel + 1, h => by
    have h : (bif cut iv pc AL AS AH nc ns wrs then some [] else bif iv.isEmpty && ((AL.all fun q => wk_nw q.2) && AS.all wk_nv) then (match wk_fetch M pc with
      | none => none
      | some row => wk_one mt 0 M call (kS_go mt M cut call fuel) row iv pc AL AS AH nc ns wrs) else none) = some fs := h
    cases hc : cut iv pc AL AS AH nc ns wrs with
    | true => exact hcv _ _ _ _ _ _ _ _ hc
    | false =>
      rw [hc] at h
      simp only [cond_false] at h
      obtain ⟨hgd, h⟩ := wk_bt h
      simp only [Bool.and_eq_true] at hgd
      exact hgd.2
theorem kS_v {as : List Nat} {z : Nat → Nat} {ρ ρ' : Nat → Int32} {v : wk_V} {x : Value} (hv : wk_nv v = true) (h : wk_r as z ρ v x) : wk_r as z ρ' v x := by
  match v, hv, h with
  | .inl _, _, h => exact h
  | .inr (.inl _), _, h => exact h
  | .inr (.inr (.inl none)), _, h => exact h
  | .inr (.inr (.inl (some _))), _, h => exact h
theorem kS_w {as : List Nat} {z : Nat → Nat} {ρ ρ' : Nat → Int32} {v : wk_V} {x : Value} (hv : wk_nw v = true) (h : wk_r as z ρ v x) : wk_r as z ρ' v x := by
  match v, hv, h with
  | .inl _, _, h => exact h
  | .inr (.inl _), _, h => exact h
  | .inr (.inr (.inl none)), _, h => exact h
  | .inr (.inr (.inl (some _))), _, h => exact h
  | .inr (.inr (.inr (2, _))), _, h =>
    have h : x = .ref (z 0) := h
    show x = .ref (z 0)
    exact h
  | .inr (.inr (.inr (0, _))), hv, _ => cases hv
  | .inr (.inr (.inr (1, _))), hv, _ => cases hv
  | .inr (.inr (.inr (_ + 3, _))), hv, _ => cases hv
theorem kS_S {as : List Nat} {z : Nat → Nat} {ρ ρ' : Nat → Int32} : ∀ {AS : List wk_V} {st : List Value}, AS.all wk_nv = true → wk_f2 (wk_r as z ρ) AS st → wk_f2 (wk_r as z ρ') AS st := by
  intro AS
  induction AS with
  | nil =>
    intro st _ h
    cases st with
    | nil => trivial
    | cons x st => exact h.elim
  | cons v AS ih =>
    intro st hv h
    cases st with
    | nil => exact h.elim
    | cons x st =>
      rw [List.all_cons, Bool.and_eq_true] at hv
      obtain ⟨h1, h2⟩ := h
      exact ⟨kS_v hv.1 h1, ih hv.2 h2⟩
theorem kS_L {as : List Nat} {z : Nat → Nat} {ρ ρ' : Nat → Int32} : ∀ {AL : wk_L} {lv : List (Nat × Value)}, (AL.all fun q => wk_nw q.2) = true → wk_f2 (wk_rl as z ρ) AL lv → wk_f2 (wk_rl as z ρ') AL lv := by
  intro AL
  induction AL with
  | nil =>
    intro lv _ h
    cases lv with
    | nil => trivial
    | cons x lv => exact h.elim
  | cons q AL ih =>
    intro lv hv h
    cases lv with
    | nil => exact h.elim
    | cons x lv =>
      rw [List.all_cons, Bool.and_eq_true] at hv
      obtain ⟨⟨h0, h1⟩, h2⟩ := h
      exact ⟨⟨h0, kS_w hv.1 h1⟩, ih hv.2 h2⟩
theorem kS_scr {v : wk_V} (h : wk_nv v = true) : wk_scr v = false := by
  match v, h with
  | .inl _, _ => rfl
  | .inr (.inl _), _ => rfl
  | .inr (.inr (.inl _)), _ => rfl
theorem kS_ild {Lz : Nat} {iv : wk_I} {v a : wk_V} {AS : List wk_V} {AH : wk_A} (h : wk_nv a = true) : wk_ild Lz iv v a AS AH = wk_ild 0 iv v a AS AH := by
  unfold wk_ild
  rw [kS_scr h]
  rfl
theorem kS_aln {Lz : Nat} {a : wk_V} {AS : List wk_V} {AH : wk_A} (h : wk_nv a = true) : wk_aln Lz a AS AH = wk_aln 0 a AS AH := by
  unfold wk_aln
  rw [kS_scr h]
  rfl
theorem kS_heap {Lz : Nat} {iv : wk_I} {i : Instr} {x : Nat × Nat × Int} {AS : List wk_V} {AH : wk_A} (h : AS.all wk_nv = true) : wk_heap Lz iv i x AS AH = wk_heap 0 iv i x AS AH := by
  by_cases h1 : i = .iaload
  · subst h1
    rcases AS with _ | ⟨v, _ | ⟨a, AS⟩⟩
    · rfl
    · rfl
    · simp only [List.all_cons, Bool.and_eq_true] at h
      exact kS_ild h.2.1
  · by_cases h2 : i = .arraylength
    · subst h2
      rcases AS with _ | ⟨a, AS⟩
      · rfl
      · simp only [List.all_cons, Bool.and_eq_true] at h
        exact kS_aln h.1
    · unfold wk_heap
      split
      · rfl
      · rfl
      · exact absurd rfl h1
      · rfl
      · rfl
      · rfl
      · rfl
      · rfl
      · exact absurd rfl h2
      · rfl
      · rfl
      · rfl
      · rfl
      · rfl
theorem kS_hp {Lz : Nat} {iv : wk_I} {i : Instr} {x : Nat × Nat × Int} {AS : List wk_V} {AH : wk_A} {q : wk_H} (h : AS.all wk_nv = true) (hp : wk_hp 0 iv i x AS AH = some q) : wk_hp Lz iv i x AS AH = some q := by
  unfold wk_hp at hp ⊢
  rw [kS_heap h]
  exact hp
section KSG
variable {p : Program} {l : Launch} {e : Env} {R : Room} {s : State} {m : MethodId} {args : Array Value} {below : List Frame} {meth : Method} {c : Code} {z : Nat → Nat} {Lz d : Nat} {D : va_G} {A : Nat → Prop} {as0 : List Nat} {ρ : Nat → Int32} {M : wk_M} {mt : Nat → Option wk_M} {mw : wk_W} {L : List wk_F} {call : wk_K} {cut : wk_Cu} {ws0 : va_W}
set_option maxHeartbeats 4000000 in
theorem kS_go_ok {Z : State → Prop} (hZ : ∀ t, MQ below (wk_Qc D A z ρ L as0 ws0) args s (wk_Mk M) (wk_Ms M) A t → Z t) (hmt : ∀ id M, mt id = some M → wk_okm mt mw id M = true) (hM : ∀ r ∈ wk_Mx M, ∀ row ∈ r, wk_okx mt mw (wk_My M) (wk_Mb M) row = true) (C : wk_cx p s m args meth c (wk_Mb M) (wk_My M) (wk_Ml M) D A z Lz ρ) (hret : meth.sig.returnType = wk_Mr M) (hlocks : meth.locks = false) (hcv : ∀ iv pc AL AS AH nc ns wrs, cut iv pc AL AS AH nc ns wrs = true → (AL.all fun q => wk_nw q.2) = true ∧ AS.all wk_nv = true)
    (hfr : d + 1 ≤ R.frames) (hlo : 100 + 200 * d ≤ R.locals) (hRc : wk_Mk M ≤ R.cells) (hRs : wk_Ms M ≤ R.slots)
    (hcall : ∀ id M2 av iv AH fs, mt id = some M2 → call id av iv AH = some fs → wk_bx ρ iv → ∃ d2, d2 + 1 ≤ d ∧ ∀ (as : List Nat) (ws : va_W) (vals : List Value), wk_f2 (wk_r as z ρ) av vals → Met l (wk_My M2) (wk_ws M2) (wk_rm M2 d2) (wk_Pc D A z Lz ρ vals AH as ws) (wk_Qc D A z ρ fs as ws) (wk_Mk M2) (wk_Ms M2) A)
    (hw0 : ws0.length = as0.length) (hcut : ∀ iv pc AL AS AH nc ns wrs, cut iv pc AL AS AH nc ns wrs = true → kS_says p l e R s m args below meth c D A z ρ M Z as0 ws0 iv pc AL AS AH nc ns wrs) :
    ∀ (fuel : Nat) (iv : wk_I) (pc : Nat) (AL : wk_L) (AS : List wk_V) (AH : wk_A) (nc ns : Nat) (wrs : List Nat) (fs : List wk_F), kS_go mt M cut call fuel iv pc AL AS AH nc ns wrs = some fs → (∀ f ∈ fs, f ∈ L) → kS_says p l e R s m args below meth c D A z ρ M Z as0 ws0 iv pc AL AS AH nc ns wrs := by
  intro fuel
  induction fuel with
  | zero => intro iv pc AL AS AH nc ns wrs fs h; cases h
  | succ fuel ih =>
    intro iv pc AL AS AH nc ns wrs fs h hfs
    have h : (bif cut iv pc AL AS AH nc ns wrs then some [] else bif iv.isEmpty && ((AL.all fun q => wk_nw q.2) && AS.all wk_nv) then (match wk_fetch M pc with
      | none => none
      | some row => wk_one mt 0 M call (kS_go mt M cut call fuel) row iv pc AL AS AH nc ns wrs) else none) = some fs := h
    cases hc : cut iv pc AL AS AH nc ns wrs with
    | true => exact hcut _ _ _ _ _ _ _ _ hc
    | false =>
      rw [hc] at h
      simp only [cond_false] at h
      obtain ⟨hgd, h⟩ := wk_bt h
      simp only [Bool.and_eq_true] at hgd
      obtain ⟨hiv, hAL, hAS⟩ := hgd
      have hiv := List.isEmpty_iff.mp hiv
      subst hiv
      cases hrow : wk_fetch M pc with
      | none => rw [hrow] at h; cases h
      | some row =>
        rw [hrow] at h
        obtain ⟨pc0, i, n, x, wd, t, a⟩ := row
        obtain ⟨e0, r0, hr0, hrow0⟩ := wk_fetch_r hrow
        simp only at e0
        subst e0
        have hok := hM r0 hr0 _ hrow0
        unfold wk_okx at hok
        simp only [Bool.and_eq_true, decide_eq_true_eq] at hok
        obtain ⟨hd, hlk, hw, hot, hoc⟩ := hok
        intro hbx hnc hns H locs more ws ls lv st hS hr hl ha hs hsm
        obtain ⟨hx, hb, hml, hown, hts, hK, hA, hname, hX, hz, hzA, hLz⟩ := id C
        have hwl : ws0.length ≤ ws.length := by
          have e1 := congrArg List.length hr.2.2.2.1
          rw [List.length_map, List.length_append] at e1
          omega
        -- words of constants
        have hc1 : ∀ idx, i = .ldc idx ∨ i = .ldc_w idx → (Jvm.Cond.constant (wk_My M).cls idx (Int32.ofInt x.2.2)).before args s = true := by
          intro idx hi
          rcases hi with rfl | rfl
          · match wd, hw with
            | [q1], hw => exact hts _ (wk_has_in hw)
            | [], hw => cases hw
            | _ :: _ :: _, hw => cases hw
          · match wd, hw with
            | [q1], hw => exact hts _ (wk_has_in hw)
            | [], hw => cases hw
            | _ :: _ :: _, hw => cases hw
        have hc2 : ∀ idx, i = .ldc2_w idx → (Jvm.Cond.constantLong (wk_My M).cls idx (Int64.ofInt x.2.2)).before args s = true := by
          rintro idx rfl
          match wd, hw with
          | [q1], hw => exact hts _ (wk_has_in hw)
          | [], hw => cases hw
          | _ :: _ :: _, hw => cases hw
        have pure : ∀ (P : wk_P), wk_pure [] (wk_Ml M) i x.2.2 pc0 AL AS = some P → (∃ fs2, kS_go mt M cut call fuel [] P.1 P.2.1 P.2.2 AH nc ns wrs = some fs2 ∧ ∀ f ∈ fs2, f ∈ L) → W p l e R s m args below meth c H locs nc ns Z (F0 m pc0 ls st) := by
          rintro ⟨pc', AL', AS'⟩ hp ⟨fs2, hg, hin⟩
          obtain ⟨nv1, nv2⟩ := kS_gd hcv _ hg
          exact wk_pure_ok (ρ := fun _ => 0) hx hb hown hd hlk hc1 hc2 (fun j q hj => by simp at hj) (by decide) hp hl (kS_L hAL ha) (kS_S hAS hs) (fun ls' lv' st' hl' ha' hs' => ih _ _ _ _ _ _ _ _ _ hg hin hbx hnc hns H locs more ws ls' lv' st' hS hr hl' (kS_L nv1 ha') (kS_S nv2 hs') hsm)
        have heap : ∀ (q : wk_H) (fs2 : List wk_F), wk_hp 0 [] i x AS AH = some q → wk_hgo M (fun pc AS AH nc ns wrs => kS_go mt M cut call fuel [] pc AL AS AH nc ns wrs) pc0 AH nc ns wrs q = some fs2 → (∀ f ∈ fs2, f ∈ L) → W p l e R s m args below meth c H locs nc ns Z (F0 m pc0 ls st) := by
          rintro ⟨dd, AS', w, nw, dc, ds⟩ fs2 hp hg hin
          have hg : (bif Nat.ble (nc + dc) (wk_Mk M) && (Nat.ble (ns + ds) (wk_Ms M) && wk_room AH nw AH.1) then wk_wr AH w nw (fun AH' => wk_adw wrs w fun wrs' => wk_fN (pc0 + dd) fun pc' => wk_fS AS' fun AS' => wk_fN (nc + dc) fun nc' => wk_fN (ns + ds) fun ns' => kS_go mt M cut call fuel [] pc' AL AS' AH' nc' ns' wrs') else none) = some fs2 := hg
          obtain ⟨g1, g2⟩ := wk_bt hg
          simp only [Bool.and_eq_true] at g1
          obtain ⟨g3, g4, g5⟩ := g1
          have g3 := Nat.le_of_ble_eq_true g3
          have g4 := Nat.le_of_ble_eq_true g4
          simp only [wk_wr_eq, wk_adw_eq, wk_fN_eq, wk_fS_eq] at g2
          refine wk_hp_ok C hbx hd hlk hw (kS_hp hAS hp) hl (Nat.le_trans (by omega) hfr) (Nat.le_trans (by omega) hlo) g5 (Nat.le_trans g3 hRc) (Nat.le_trans g4 hRs) hr hS hs (fun H' locs' more' ws' st' hS' hr' hs' hsame => ?_)
          have ha' : wk_f2 (wk_rl (as0 ++ (more ++ more')) z ρ) AL lv := by
            rw [← List.append_assoc]
            exact wk_f2_mono (fun a b q => ⟨q.1, wk_r_mono more' q.2⟩) ha
          rw [List.append_assoc] at hr' hs'
          exact ih _ _ _ _ _ _ _ _ _ g2 hin hbx g3 g4 H' locs' (more ++ more') ws' ls lv st' hS' hr' hl ha' hs' (fun j hj hjw => by
            obtain ⟨j1, j2⟩ := wk_adw1_r hjw
            rw [hsame j (by omega) j2]
            exact hsm j hj j1)
        have cutv : ∀ (q : Nat × List (Int × Int)) (fs2 : List wk_F), wk_cutv (fun iv => kS_go mt M cut call fuel iv pc0 AL AS AH nc ns wrs) [] q = some fs2 → (∀ f ∈ fs2, f ∈ L) → W p l e R s m args below meth c H locs nc ns Z (F0 m pc0 ls st) := by
          rintro ⟨v, ps⟩ fs2 hg hin
          unfold wk_cutv at hg
          cases hv : wk_at ([] : wk_I) v with
          | none => rw [hv] at hg; cases hg
          | some q =>
            obtain ⟨lo, hi⟩ := q
            rw [hv] at hg
            obtain ⟨g1, g2⟩ := wk_bt hg
            rw [wk_at_eq] at hv
            obtain ⟨b1, b2⟩ := hbx v _ hv
            obtain ⟨q, q1, q2, q3⟩ := wk_cv_r _ _ _ _ g1 b1 b2
            obtain ⟨x2, x3, x4⟩ := wk_fold_r g2 q q1
            rw [wk_put_eq] at x3
            exact ih _ _ _ _ _ _ _ _ _ x3 (fun f hf => hin f (x4 f hf)) (wk_bx_set hbx q2 q3) hnc hns H locs more ws ls lv st hS hr hl ha hs hsm
        have h : (match wk_fast t (bif Nat.beq t 7 then x.1 else a.toNat) n a [] (wk_Ml M) pc0 AL AS with
          | some (pc', AL', AS') => wk_fN pc' fun pc' => wk_fS AS' fun AS' => kS_go mt M cut call fuel [] pc' AL' AS' AH nc ns wrs
          | none => match wk_hfast t 0 [] x AS AH with
            | some r => wk_hgo M (fun pc AS AH nc ns wrs => kS_go mt M cut call fuel [] pc AL AS AH nc ns wrs) pc0 AH nc ns wrs r
            | none => wk_slow mt 0 M call (kS_go mt M cut call fuel) i x [] pc0 AL AS AH nc ns wrs) = some fs := h
        cases hf : wk_fast t (bif Nat.beq t 7 then x.1 else a.toNat) n a [] (wk_Ml M) pc0 AL AS with
        | some P =>
          obtain ⟨pc', AL', AS'⟩ := P
          rw [hf] at h
          simp only [wk_fN_eq, wk_fS_eq] at h
          exact pure _ (wk_fast_ok hlk hot hf) ⟨fs, h, hfs⟩
        | none =>
          rw [hf] at h
          simp only at h
          cases hh : wk_hfast t 0 [] x AS AH with
          | some q =>
            rw [hh] at h
            exact heap q fs (wk_hfast_ok hot hh) h hfs
          | none =>
            rw [hh] at h
            simp only at h
            unfold wk_slow at h
            cases hn : wk_need [] i AS with
            | some q =>
              rw [hn] at h
              exact cutv q fs h hfs
            | none =>
              rw [hn] at h
              simp only at h
              cases hrt : wk_ret [] M i AS with
              | some rv =>
                rw [hrt] at h
                cases h
                exact kS_mono hZ (wk_ret_ok hx hb hret hlocks hbx hd hlk hrt (hfs _ List.mem_cons_self) hsm hnc hns hr hS hs)
              | none =>
                rw [hrt] at h
                simp only at h
                cases hpu : wk_pure [] (wk_Ml M) i x.2.2 pc0 AL AS with
                | some P =>
                  obtain ⟨pc', AL', AS'⟩ := P
                  rw [hpu] at h
                  simp only [wk_fN_eq, wk_fLs_eq, wk_fA_eq, wk_fS_eq] at h
                  exact pure _ hpu ⟨fs, h, hfs⟩
                | none =>
                  rw [hpu] at h
                  simp only at h
                  cases hhp : wk_hp 0 [] i x AS AH with
                  | some q =>
                    rw [hhp] at h
                    exact heap q fs hhp h hfs
                  | none =>
                    rw [hhp] at h
                    simp only at h
                    cases hcl : wk_call mt i x AS AH with
                    | some q =>
                      obtain ⟨M2, av, r⟩ := q
                      rw [hcl] at h
                      simp only at h
                      unfold wk_cgo at h
                      obtain ⟨g1, g2⟩ := wk_bt h
                      simp only [Bool.and_eq_true] at g1
                      have g3 := Nat.le_of_ble_eq_true g1.1
                      have g4 := Nat.le_of_ble_eq_true g1.2
                      cases hcf : call x.2.1 av [] AH with
                      | none => rw [hcf] at g2; cases g2
                      | some fs1 =>
                        rw [hcf] at g2
                        simp only [wk_fN_eq, wk_uni_eq] at g2
                        have hmm : mt x.2.1 = some M2 := wk_call_m hcl
                        obtain ⟨d2, ed, hMet⟩ := hcall _ _ _ _ _ _ hmm hcf hbx
                        refine wk_call_ok (fs := fs1) (d := d2) C hmt hd hlk hw hoc hcl hl (hMet _ ws) (by omega) (by omega) (Nat.le_trans g3 hRc) (Nat.le_trans g4 hRs) hr hS hs (fun f hf1 hbf rv more' ws1 H1 locs1 rest hrest hrv hr1 hsm1 hS1 => ?_)
                        obtain ⟨x2, x3, x4⟩ := wk_fold_r g2 f hf1
                        have ha' : wk_f2 (wk_rl (as0 ++ (more ++ more')) z ρ) AL lv := by
                          rw [← List.append_assoc]
                          exact wk_f2_mono (fun a b q => ⟨q.1, wk_r_mono more' q.2⟩) ha
                        have hs' : wk_f2 (wk_r (as0 ++ (more ++ more')) z ρ) (wk_st f.1 f.2.1 r) (rv.toList ++ rest) := by
                          rw [← List.append_assoc]
                          have hrest' := wk_f2_mono (fun a b q => wk_r_mono (as := as0 ++ more) (z := z) (ρ := ρ) (v := a) (x := b) more' q) hrest
                          cases hf2 : f.2.1 with
                          | none =>
                            rw [hf2] at hrv
                            cases rv with
                            | none => exact hrest'
                            | some _ => exact hrv.elim
                          | some v =>
                            rw [hf2] at hrv
                            cases rv with
                            | none => exact hrv.elim
                            | some xv => exact ⟨hrv, hrest'⟩
                        rw [List.append_assoc] at hr1
                        exact ih _ _ _ _ _ _ _ _ _ x3 (fun q hq => hfs q (x4 q hq)) hbf g3 g4 H1 locs1 (more ++ more') ws1 ls lv _ hS1 hr1 hl ha' hs' (fun j hj hjw => by
                          obtain ⟨j1, j2⟩ := wk_uni1_r hjw
                          rw [hsm1 j (by omega) j1]
                          exact hsm j hj j2)
                    | none =>
                      rw [hcl] at h
                      simp only at h
                      cases hu : wk_undec [] i AS with
                      | none => rw [hu] at h; cases h
                      | some q =>
                        rw [hu] at h
                        exact cutv q fs h hfs
end KSG
/-- a method from its entry -/
theorem kS_run_ok {l : Launch} {z : Nat → Nat} {Lz : Nat} {D : va_G} {A : Nat → Prop} {ρ : Nat → Int32} {mt : Nat → Option wk_M} {mw : wk_W} (fuel : Nat) (hmt : ∀ id M, mt id = some M → wk_okm mt mw id M = true) (hzA : ¬ A (z 0)) (hLz : Lz < 2 ^ 31) :
    ∀ (d id : Nat) (M : wk_M) (av : List wk_V) (iv : wk_I) (AH : wk_A) (fs : List wk_F), mt id = some M → kS_run mt fuel d id av iv AH = some fs → wk_bx ρ iv → ∃ d2, d2 + 1 ≤ d ∧ ∀ (as : List Nat) (ws : va_W) (vals : List Value), wk_f2 (wk_r as z ρ) av vals → Met l (wk_My M) (wk_ws M) (wk_rm M d2) (wk_Pc D A z Lz ρ vals AH as ws) (wk_Qc D A z ρ fs as ws) (wk_Mk M) (wk_Ms M) A := by
  intro d
  induction d with
  | zero => intro id M av iv AH fs _ h; cases h
  | succ d ih =>
    intro id M av iv AH fs hm h hbx
    have h : (match mt id with
      | some M => bif Nat.ble (wk_cat av) (wk_Ml M) then kS_go mt M (fun _ _ _ _ _ _ _ _ => false) (kS_run mt fuel d) fuel iv 0 (wk_args 0 av) [] AH 0 0 [] else none
      | none => none) = some fs := h
    rw [hm] at h
    simp only at h
    replace h := wk_bt h
    obtain ⟨hcat, h⟩ := h
    have hcat := Nat.le_of_ble_eq_true hcat
    refine ⟨d, Nat.le_refl _, fun as ws vals hv => ?_⟩
    have hok := hmt _ _ hm
    unfold wk_okm at hok
    simp only [Bool.and_eq_true, decide_eq_true_eq] at hok
    obtain ⟨ok1, ⟨ok2, ok3, ok4⟩, ok5, ok6, ok7⟩ := hok
    have hM : ∀ r ∈ wk_Mx M, ∀ row ∈ r, wk_okx mt mw (wk_My M) (wk_Mb M) row = true := fun r hr row hrow => List.all_eq_true.mp (List.all_eq_true.mp ok7 r hr) row hrow
    refine Met.ofW (cc := wk_Mb M) (maxL := wk_Ml M) (ret := wk_Mr M) ok1 rfl ?_
    intro p e s m args below meth c s₁ B hml hP
    obtain ⟨rfl, hK, hX, hz, hA, hr⟩ := hP
    have hts : ∀ w ∈ wk_tbl, w.before vals.toArray s = true := fun w hw => atoms_spec (ws := wk_ws M) B.pre w (List.mem_cons_of_mem _ hw)
    have hown : s.vm.findClass (wk_My M).cls = some m.cls := findClass_of_methodNamed B.named
    have hname : meth.name = (wk_My M).name := (name_of_methodNamed B.named B.method).1
    have C : wk_cx p s m vals.toArray meth c (wk_Mb M) (wk_My M) (wk_Ml M) D A z Lz ρ := ⟨B.exec, B.bytes, hml, hown, hts, hK, hA, hname, hX, hz, hzA, hLz⟩
    have hlen : (lg_sl vals).length ≤ wk_Ml M := by rw [wk_slen, ← wk_cat_r hv]; exact hcat
    rw [lg_entry_eq]
    have hl := lv_entry vals (n := wk_Ml M) hlen
    have key := kS_go_ok (Z := MQ below (wk_Qc D A z ρ fs as ws) vals.toArray s (wk_Mk M) (wk_Ms M) A) (hZ := fun t h => h) (R := (headSpec (wk_ws M) (wk_rm M d)).room) (l := l) (e := e) (below := below) (L := fs) (as0 := as) (d := d) hmt hM C B.returns B.notSynchronized (fun _ _ _ _ _ _ _ _ q => by cases q) (Nat.le_refl _) (Nat.le_refl _) (Nat.le_refl _) (Nat.le_refl _) (fun id M2 av iv AH fs h1 h2 h3 => ih id M2 av iv AH fs h1 h2 h3) (ws0 := ws) (by rw [← hr.2.2.2.1, List.length_map]) (fun _ _ _ _ _ _ _ _ q => by cases q) fuel iv 0 (wk_args 0 av) [] AH 0 0 [] fs h (fun _ q => q) hbx (Nat.zero_le _) (Nat.zero_le _) s.heap [] [] ws _ _ [] va_S.rf (by rw [List.append_nil]; exact hr) hl (by rw [List.append_nil]; exact wk_args_r 0 hv) trivial (fun _ _ _ => rfl)
    exact key
