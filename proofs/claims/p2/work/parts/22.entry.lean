/-! ===== a contract out of an entry and stations ===== -/
noncomputable def wk_conE (mt : Nat → Option wk_M) (Lz : Nat) (M : wk_M) (call : wk_K) (fuel : Nat) (iv : wk_I) (av : List wk_V) (P : wk_A) (Ss : List wk_Sn) : Option (List wk_F) :=
  bif Nat.ble (wk_cat av) (wk_Ml M) then wk_app (wk_go mt Lz M (wk_cutS Ss) call fuel iv 0 (wk_args 0 av) [] P 0 0 []) (wk_runs mt Lz M call fuel Ss) else none
/-- what a call must be good for, with callees not deeper than `d` -/
def wk_good (l : Launch) (D : va_G) (A : Nat → Prop) (z Lz : Nat) (ρ : Nat → Int32) (mt : Nat → Option wk_M) (d : Nat) (call : wk_K) : Prop :=
  ∀ id M av iv AH fs, mt id = some M → call id av iv AH = some fs → wk_bx ρ iv → ∃ d2, d2 + 1 ≤ d ∧ ∀ (as : List Nat) (ws : va_W) (vals : List Value), wk_f2 (wk_r as z ρ) av vals → Met l (wk_My M) (wk_ws M) (wk_rm M d2) (wk_Pc D A z Lz ρ vals AH as ws) (wk_Qc D A z ρ fs as ws) (wk_Mk M) (wk_Ms M) A
theorem wk_conE_ok {l : Launch} {z Lz : Nat} {D : va_G} {A : Nat → Prop} {ρ : Nat → Int32} {mt : Nat → Option wk_M} {mw : wk_W} {fuel d id : Nat} {M : wk_M} {call : wk_K} {av : List wk_V} {iv : wk_I} {P : wk_A} {Ss : List wk_Sn} {fs : List wk_F} (hmt : ∀ id M, mt id = some M → wk_okm mt mw id M = true) (hρ : ρ 5 = ρ 0 &&& 63) (hzA : ¬ A z) (hLz : Lz < 2 ^ 31) (hcall : wk_good l D A z Lz ρ mt d call) (hm : mt id = some M) (h : wk_conE mt Lz M call fuel iv av P Ss = some fs) (hbx : wk_bx ρ iv) :
    ∀ (as : List Nat) (ws : va_W) (vals : List Value), wk_f2 (wk_r as z ρ) av vals → Met l (wk_My M) (wk_ws M) (wk_rm M d) (wk_Pc D A z Lz ρ vals P as ws) (wk_Qc D A z ρ fs as ws) (wk_Mk M) (wk_Ms M) A := by
  intro as ws vals hv
  unfold wk_conE at h
  replace h := wk_bt h
  obtain ⟨hcat, h⟩ := h
  have hcat := Nat.le_of_ble_eq_true hcat
  obtain ⟨x, y, hx, hy, rfl⟩ := wk_app_r h
  have hok := hmt _ _ hm
  unfold wk_okm at hok
  simp only [Bool.and_eq_true, decide_eq_true_eq] at hok
  obtain ⟨ok1, ⟨ok2, ok3, ok4⟩, ok5, ok6, ok7⟩ := hok
  have hM : ∀ r ∈ wk_Mx M, ∀ row ∈ r, wk_okx mt mw (wk_My M) (wk_Mb M) row = true := fun r hr row hrow => List.all_eq_true.mp (List.all_eq_true.mp ok7 r hr) row hrow
  refine Met.ofW (cc := wk_Mb M) (maxL := wk_Ml M) (ret := wk_Mr M) ok1 rfl ?_
  intro p e s m args below meth c s₁ B hml hP
  obtain ⟨rfl, hK, hX, hz, hA, hr⟩ := hP
  have hts : ∀ w ∈ wk_tbl, w.before vals.toArray s = true := fun w hw => atoms_spec (ws := wk_ws M) B.pre w (List.mem_cons_of_mem _ hw)
  have hown : s.vm.findClass (wk_My M).cls = some m.cls := findClass_of_methodNamed B.named
  have hname : meth.name = (wk_My M).name := (name_of_methodNamed B.named B.method).1
  have C : wk_cx p s m vals.toArray meth c (wk_Mb M) (wk_My M) (wk_Ml M) D A z Lz ρ := ⟨B.exec, B.bytes, hml, hown, hts, hK, hA, hname, hX, hz, hzA, hLz⟩
  have hlen : (lg_sl vals).length ≤ wk_Ml M := by rw [wk_slen, ← wk_cat_r hv]; exact hcat
  rw [lg_entry_eq]
  have hl := lv_entry vals (n := wk_Ml M) hlen
  have hw0 : ws.length = as.length := by rw [← hr.2.2.2.1, List.length_map]
  have st := wk_runs_ok (R := (headSpec (wk_ws M) (wk_rm M d)).room) (l := l) (e := e) (below := below) (L := x ++ y) (as0 := as) (ws0 := ws) (d := d) fuel hmt hM C B.returns B.notSynchronized hρ (Nat.le_refl _) (Nat.le_refl _) (Nat.le_refl _) (Nat.le_refl _) hcall hw0 Ss y hy (fun f hf => List.mem_append_right _ hf)
  have key := wk_go_ok (R := (headSpec (wk_ws M) (wk_rm M d)).room) (l := l) (e := e) (below := below) (L := x ++ y) (as0 := as) (d := d) hmt hM C B.returns B.notSynchronized hρ (Nat.le_refl _) (Nat.le_refl _) (Nat.le_refl _) (Nat.le_refl _) hcall (ws0 := ws) hw0 (fun iv pc AL AS AH nc ns wrs hc => by
      obtain ⟨S2, q1, q2⟩ := List.any_eq_true.mp hc
      exact wk_atS_r q2 (st S2 q1)) fuel iv 0 (wk_args 0 av) [] P 0 0 [] x hx (fun f hf => List.mem_append_left _ hf) hbx (Nat.zero_le _) (Nat.zero_le _) s.heap [] [] ws _ _ [] va_S.rf (by rw [List.append_nil]; exact hr) hl (by rw [List.append_nil]; exact wk_args_r 0 hv) trivial (fun _ _ _ => rfl)
  exact key
/-! ===== a leaf below a leaf ===== -/
def wk_blO (iv : wk_I) : Option wk_V → Option wk_V → Bool
  | some v, some w => wk_bl iv v w
  | none, none => true
  | _, _ => false
/-- a way's end below another, whose box is the wide one `iw` -/
def wk_blF (f g : wk_F) : Bool :=
  wk_blI f.1 0 g.1 && (wk_blO f.1 f.2.1 g.2.1 && (wk_blA f.1 f.2.2.1 g.2.2.1 && wk_sub f.2.2.2 g.2.2.2))
theorem wk_blF_Q {D : va_G} {A : Nat → Prop} {z : Nat} {ρ : Nat → Int32} {fs gs : List wk_F} (h : fs.all (fun f => gs.any (wk_blF f)) = true) {as : List Nat} {ws : va_W} {a : Array Value} {s : State} {o : Outcome} {t : State} (hq : wk_Qc D A z ρ fs as ws a s o t) : wk_Qc D A z ρ gs as ws a s o t := by
  obtain ⟨⟨f, hf, hb, rv, more, ws', q1, q2, q3, q4⟩, q5⟩ := hq
  obtain ⟨g, hg, hfg⟩ := List.any_eq_true.mp (List.all_eq_true.mp h f hf)
  unfold wk_blF at hfg
  simp only [Bool.and_eq_true] at hfg
  obtain ⟨h1, h2, h3, h4⟩ := hfg
  have hbg : wk_bx ρ g.1 := fun k q hk => by
    have := wk_blI_r hb g.1 0 h1 k q hk
    rw [Nat.zero_add] at this
    exact this
  refine ⟨⟨g, hg, hbg, rv, more, ws', q1, ?_, wk_blA_r hb h3 q3, fun j hj hjw => q4 j hj (fun q => hjw (wk_mem_r (List.all_eq_true.mp h4 j q)))⟩, q5⟩
  cases hf2 : f.2.1 with
  | none =>
    rw [hf2] at q2 h2
    cases hg2 : g.2.1 with
    | none => exact q2
    | some w => rw [hg2] at h2; cases h2
  | some v =>
    rw [hf2] at q2 h2
    cases hg2 : g.2.1 with
    | none => rw [hg2] at h2; cases h2
    | some w =>
      rw [hg2] at h2
      cases rv with
      | none => exact q2.elim
      | some xv => exact wk_bl_r hb h2 q2
/-- entries that share what they end in -/
theorem wk_con_ok {l : Launch} {z Lz : Nat} {D : va_G} {A : Nat → Prop} {ρ : Nat → Int32} {mt : Nat → Option wk_M} {mw : wk_W} {fuel d id : Nat} {M : wk_M} {call : wk_K} {av : List wk_V} {iv : wk_I} {P : wk_A} {Ss : List wk_Sn} {fs gs : List wk_F} (hmt : ∀ id M, mt id = some M → wk_okm mt mw id M = true) (hρ : ρ 5 = ρ 0 &&& 63) (hzA : ¬ A z) (hLz : Lz < 2 ^ 31) (hcall : wk_good l D A z Lz ρ mt d call) (hm : mt id = some M) (h : wk_conE mt Lz M call fuel iv av P Ss = some fs) (hg : fs.all (fun f => gs.any (wk_blF f)) = true) (hbx : wk_bx ρ iv) :
    ∀ (as : List Nat) (ws : va_W) (vals : List Value), wk_f2 (wk_r as z ρ) av vals → Met l (wk_My M) (wk_ws M) (wk_rm M d) (wk_Pc D A z Lz ρ vals P as ws) (wk_Qc D A z ρ gs as ws) (wk_Mk M) (wk_Ms M) A :=
  fun as ws vals hv => wk_met_mono (wk_conE_ok hmt hρ hzA hLz hcall hm h hbx as ws vals hv) (fun _ _ q => q) (fun _ _ _ _ _ _ q => wk_blF_Q hg q)
