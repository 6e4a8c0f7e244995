/-! ===== stations told by the cells in which they differ from the entry's heap ===== -/
abbrev wk_Sd : Type := wk_I × Nat × wk_L × List wk_V × wk_Dl
def wk_ks (l : wk_Dl) : List Nat := l.map fun q => q.1
def wk_atD (n : Nat) (iv : wk_I) (pc : Nat) (AL : wk_L) (AS : List wk_V) (AH : wk_A) (nc ns : Nat) (wrs : List Nat) (S : wk_Sd) : Bool :=
  Nat.beq pc S.2.1 && (Nat.beq nc 0 && (Nat.beq ns 0 && (wk_blI iv 0 S.1 && (wk_blAL iv AL S.2.2.1 && (wk_blL (wk_bl iv) AS S.2.2.2.1 && (wk_sub wrs (wk_ks S.2.2.2.2) && (Nat.beq AH.1 n && wk_blD iv AH S.2.2.2.2)))))))
def wk_cutD (n : Nat) (S : List wk_Sd) : wk_Cu := fun iv pc AL AS AH nc ns wrs => S.any (wk_atD n iv pc AL AS AH nc ns wrs)
noncomputable def wk_runsD (mt : Nat → Option wk_M) (Lz : Nat) (M : wk_M) (call : wk_K) (fuel : Nat) (P : wk_A) : List wk_Sd → Option (List wk_F)
  | [] => some []
  | S :: r => match wk_putD S.2.2.2.2 P.2 (fun h => wk_go mt Lz M (wk_cutD P.1 r) call fuel S.1 S.2.1 S.2.2.1 S.2.2.2.1 (P.1, h) 0 0 (wk_ks S.2.2.2.2)) with
    | some x => wk_app x (wk_runsD mt Lz M call fuel P r)
    | none => none
section WKSD
variable {p : Program} {l : Launch} {e : Env} {R : Room} {s : State} {m : MethodId} {args : Array Value} {below : List Frame} {meth : Method} {c : Code} {z Lz d : Nat} {D : va_G} {A : Nat → Prop} {as0 : List Nat} {ρ : Nat → Int32} {M : wk_M} {mt : Nat → Option wk_M} {mw : wk_W} {L : List wk_F} {call : wk_K} {ws0 : va_W} {P : wk_A} {H0 : Heap}
theorem wk_atD_r {iv : wk_I} {pc : Nat} {AL : wk_L} {AS : List wk_V} {AH : wk_A} {nc ns : Nat} {wrs : List Nat} {S : wk_Sd} {r : List (List wk_C)} (h : wk_atD P.1 iv pc AL AS AH nc ns wrs S = true) (h0 : wk_hr D A s as0 z ρ P ws0 H0) (hp : wk_putD1 S.2.2.2.2 P.2 = some r) (hs : wk_says p l e R s m args below meth c D A z ρ M L as0 ws0 S.1 S.2.1 S.2.2.1 S.2.2.2.1 (P.1, r) 0 0 (wk_ks S.2.2.2.2)) : wk_says p l e R s m args below meth c D A z ρ M L as0 ws0 iv pc AL AS AH nc ns wrs := by
  unfold wk_atD at h
  simp only [Bool.and_eq_true] at h
  obtain ⟨h1, h2, h3, h4, h5, h6, h7, h8, h9⟩ := h
  obtain rfl := Nat.eq_of_beq_eq_true h1
  obtain rfl := Nat.eq_of_beq_eq_true h2
  obtain rfl := Nat.eq_of_beq_eq_true h3
  intro hbx hnc hns H locs more ws ls lv st hS hr hl ha hst hsm
  have hbS : wk_bx ρ S.1 := fun k q hk => by
    have := wk_blI_r hbx S.1 0 h4 k q hk
    rw [Nat.zero_add] at this
    exact this
  obtain ⟨lv', g1, g2⟩ := wk_blAL_r hbx hl ha S.2.2.1 h5
  have hst2 : wk_f2 (wk_r (as0 ++ more) z ρ) S.2.2.2.1 st := wk_f2_of (by rw [← (wk_blL_at h6).1, wk_f2_len hst]) (fun k b x hk hx => by
    obtain ⟨a, a1, a2⟩ := (wk_blL_at h6).2 k b hk
    obtain ⟨x2, x3, x4⟩ := wk_f2_at hst k a a1
    cases hx.symm.trans x3
    exact wk_bl_r hbx a2 x4)
  exact hs hbS hnc hns H locs more ws ls lv' st hS (wk_dl_r hbx h0 hr hsm (Nat.eq_of_beq_eq_true h8) h9 h7 hp) g1 g2 hst2 (fun j hj hjw => hsm j hj (fun q => hjw (wk_mem_r (List.all_eq_true.mp h7 j q))))
theorem wk_runsD_ok (fuel : Nat) (hmt : ∀ id M, mt id = some M → wk_okm mt mw id M = true) (hM : ∀ r ∈ wk_Mx M, ∀ row ∈ r, wk_okx mt mw (wk_My M) (wk_Mb M) row = true) (C : wk_cx p s m args meth c (wk_Mb M) (wk_My M) (wk_Ml M) D A z Lz ρ) (hret : meth.sig.returnType = wk_Mr M) (hlocks : meth.locks = false) (hρ : ρ 5 = ρ 0 &&& 63)
    (hfr : d + 1 ≤ R.frames) (hlo : 100 + 200 * d ≤ R.locals) (hRc : wk_Mk M ≤ R.cells) (hRs : wk_Ms M ≤ R.slots) (hcall : wk_good l D A z Lz ρ mt d call)
    (hw0 : ws0.length = as0.length) (h0 : wk_hr D A s as0 z ρ P ws0 H0) : ∀ (Ss : List wk_Sd) (L' : List wk_F), wk_runsD mt Lz M call fuel P Ss = some L' → (∀ f ∈ L', f ∈ L) → ∀ S ∈ Ss, ∃ r, wk_putD1 S.2.2.2.2 P.2 = some r ∧ wk_says p l e R s m args below meth c D A z ρ M L as0 ws0 S.1 S.2.1 S.2.2.1 S.2.2.2.1 (P.1, r) 0 0 (wk_ks S.2.2.2.2)
  | [], _, _, _, S, hS => by cases hS
  | S0 :: r, L', h, hL, S, hS => by
    unfold wk_runsD at h
    rw [wk_putD_eq] at h
    cases hp : wk_putD1 S0.2.2.2.2 P.2 with
    | none => rw [hp] at h; cases h
    | some h1r =>
      rw [hp] at h
      simp only [Option.map_some] at h
      obtain ⟨x, y, h1, h2, rfl⟩ := wk_app_r h
      have ih := wk_runsD_ok fuel hmt hM C hret hlocks hρ hfr hlo hRc hRs hcall hw0 h0 r y h2 (fun f hf => hL f (List.mem_append_right _ hf))
      rcases List.mem_cons.mp hS with rfl | hS
      · exact ⟨h1r, hp, wk_go_ok (d := d) hmt hM C hret hlocks hρ hfr hlo hRc hRs hcall hw0 (fun iv pc AL AS AH nc ns wrs hc => by
          obtain ⟨S2, q1, q2⟩ := List.any_eq_true.mp hc
          obtain ⟨r2, q3, q4⟩ := ih S2 q1
          exact wk_atD_r q2 h0 q3 q4) fuel _ _ _ _ _ _ _ _ x h1 (fun f hf => hL f (List.mem_append_left _ hf))⟩
      · exact ih S hS
end WKSD
/-- entry and stations -/
noncomputable def wk_conD (mt : Nat → Option wk_M) (Lz : Nat) (M : wk_M) (call : wk_K) (fuel : Nat) (iv : wk_I) (av : List wk_V) (P : wk_A) (Ss : List wk_Sd) : Option (List wk_F) :=
  bif Nat.ble (wk_cat av) (wk_Ml M) then wk_app (wk_go mt Lz M (wk_cutD P.1 Ss) call fuel iv 0 (wk_args 0 av) [] P 0 0 []) (wk_runsD mt Lz M call fuel P Ss) else none
theorem wk_conD_ok {l : Launch} {z Lz : Nat} {D : va_G} {A : Nat → Prop} {ρ : Nat → Int32} {mt : Nat → Option wk_M} {mw : wk_W} {fuel d id : Nat} {M : wk_M} {call : wk_K} {av : List wk_V} {iv : wk_I} {P : wk_A} {Ss : List wk_Sd} {fs : List wk_F} (hmt : ∀ id M, mt id = some M → wk_okm mt mw id M = true) (hρ : ρ 5 = ρ 0 &&& 63) (hzA : ¬ A z) (hLz : Lz < 2 ^ 31) (hcall : wk_good l D A z Lz ρ mt d call) (hm : mt id = some M) (h : wk_conD mt Lz M call fuel iv av P Ss = some fs) (hbx : wk_bx ρ iv) :
    ∀ (as : List Nat) (ws : va_W) (vals : List Value), wk_f2 (wk_r as z ρ) av vals → Met l (wk_My M) (wk_ws M) (wk_rm M d) (wk_Pc D A z Lz ρ vals P as ws) (wk_Qc D A z ρ fs as ws) (wk_Mk M) (wk_Ms M) A := by
  intro as ws vals hv
  unfold wk_conD at h
  replace h := wk_bt h
  obtain ⟨hcat, h⟩ := h
  have hcat := Nat.le_of_ble_eq_true hcat
  obtain ⟨x, y, hx, hy, rfl⟩ := wk_app_r h
  have hok := hmt _ _ hm
  unfold wk_okm at hok
  simp only [Bool.and_eq_true, decide_eq_true_eq] at hok
  obtain ⟨ok1, ⟨ok2, ok3, ok4⟩, ok5, ok6, ok7⟩ := hok
  have hM : ∀ r ∈ wk_Mx M, ∀ row ∈ r, wk_okx mt mw (wk_My M) (wk_Mb M) row = true := fun r hr row hrow => List.all_eq_true.mp (List.all_eq_true.mp ok7 r hr) row hrow
  refine Met.ofW (cc := wk_Mb M) (maxL := wk_Ml M) (ret := wk_Mr M) ok1 rfl ?_
  intro p e s m args below meth c s₁ B hml hP
  obtain ⟨rfl, hK, hX, hz, hA, hr⟩ := hP
  have hts : ∀ w ∈ wk_tbl, w.before vals.toArray s = true := fun w hw => atoms_spec (ws := wk_ws M) B.pre w (List.mem_cons_of_mem _ hw)
  have hown : s.vm.findClass (wk_My M).cls = some m.cls := findClass_of_methodNamed B.named
  have hname : meth.name = (wk_My M).name := (name_of_methodNamed B.named B.method).1
  have C : wk_cx p s m vals.toArray meth c (wk_Mb M) (wk_My M) (wk_Ml M) D A z Lz ρ := ⟨B.exec, B.bytes, hml, hown, hts, hK, hA, hname, hX, hz, hzA, hLz⟩
  have hlen : (lg_sl vals).length ≤ wk_Ml M := by rw [wk_slen, ← wk_cat_r hv]; exact hcat
  rw [lg_entry_eq]
  have hl := lv_entry vals (n := wk_Ml M) hlen
  have hw0 : ws.length = as.length := by rw [← hr.2.2.2.1, List.length_map]
  have st := wk_runsD_ok (R := (headSpec (wk_ws M) (wk_rm M d)).room) (l := l) (e := e) (below := below) (L := x ++ y) (as0 := as) (ws0 := ws) (d := d) fuel hmt hM C B.returns B.notSynchronized hρ (Nat.le_refl _) (Nat.le_refl _) (Nat.le_refl _) (Nat.le_refl _) hcall hw0 hr Ss y hy (fun f hf => List.mem_append_right _ hf)
  have key := wk_go_ok (R := (headSpec (wk_ws M) (wk_rm M d)).room) (l := l) (e := e) (below := below) (L := x ++ y) (as0 := as) (d := d) hmt hM C B.returns B.notSynchronized hρ (Nat.le_refl _) (Nat.le_refl _) (Nat.le_refl _) (Nat.le_refl _) hcall (ws0 := ws) hw0 (fun iv pc AL AS AH nc ns wrs hc => by
      obtain ⟨S2, q1, q2⟩ := List.any_eq_true.mp hc
      obtain ⟨r2, q3, q4⟩ := st S2 q1
      exact wk_atD_r q2 hr q3 q4) fuel iv 0 (wk_args 0 av) [] P 0 0 [] x hx (fun f hf => List.mem_append_left _ hf) hbx (Nat.zero_le _) (Nat.zero_le _) s.heap [] [] ws _ _ [] va_S.rf (by rw [List.append_nil]; exact hr) hl (by rw [List.append_nil]; exact wk_args_r 0 hv) trivial (fun _ _ _ => rfl)
  exact key
