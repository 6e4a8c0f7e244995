/-! ===== the clean logic: a call, over any contract ===== -/
def kc_B (B : Option Value → State → Prop) (A : Nat → Prop) : Array Value → State → Outcome → State → Prop := fun _ st oc t => (∃ rx : Option Value, oc = .returned rx ∧ B rx t) ∧ va_F A st t
section KCC
variable {p : Program} {l : Launch} {e : Env} {R : Room} {s : State} {m : MethodId} {args : Array Value} {below : List Frame} {meth : Method} {c : Code} {H : Heap} {locs : List Loc} {cells slots : Nat} {Q : State → Prop}
variable {pc : Nat} {ls : Array Slot} {rest st0 : List Value} {a : Array Value} {A : Nat → Prop} {mc ms : Nat} {B : Option Value → State → Prop}
theorem kc_after (hr : va_Run p l e R s m args below meth c H locs cells slots mc ms (F0 m pc ls st0) rest (kc_B B A a) A) (hS : va_S A s.heap H locs)
    (kk : ∀ (rx : Option Value) (t : State) (locs1 : List Loc), B rx t → t.vm.Alike s.vm → va_S A s.heap t.heap locs1 → W p l e R s m args below meth c t.heap locs1 (cells + mc) (slots + ms) Q (F0 m (pc + 3) ls (rx.toList ++ rest))) : W p l e R s m args below meth c H locs cells slots Q (F0 m pc ls st0) := by
  intro T hT X
  obtain ⟨v, st₀, t, T', L, h0, X', hL, e1, e2, ⟨⟨rx, hv, hB⟩, hz, hk⟩, st⟩ := hr T hT X
  cases hv
  rw [h0] at hz hk
  have hal : t.vm.Alike s.vm := by rw [← e2]; exact X'.warmed.alike.symm
  obtain ⟨t2, a1, b1⟩ := kk v t (locs ++ L) hB hal
    ⟨Nat.le_trans hS.1 hz, fun q h1 h2 => by rw [hk q (Nat.lt_of_lt_of_le h1 hS.1) h2]; exact hS.2.1 q h1 h2, fun q hq => by
      rcases List.mem_append.mp hq with h | h
      · exact hS.2.2 q h
      · exact hL q h⟩ T' e1 X'
  exact ⟨t2, st t2 a1, b1⟩
end KCC
section KCCL
variable {p : Program} {l : Launch} {e : Env} {R : Room} {s : State} {m : MethodId} {args : Array Value} {below : List Frame} {meth : Method} {c : Code} {H : Heap} {locs : List Loc} {cells slots : Nat} {Q : State → Prop}
variable {cc : ByteArray} {pc : Nat} {ls : Array Slot} {y : MethodName} {nL Lz : Nat} {z : Nat → Nat} {D : va_G} {A : Nat → Prop} {as : List Nat} {ρ : Nat → Int32} {iv : wk_I} {AS : List wk_V} {AH : wk_A} {ws : va_W} {st : List Value} {x : Nat × Nat × Int} {mt : Nat → Option wk_M} {mw : wk_W}
theorem kc_call_ok (C : wk_cx p s m args meth c cc y nL D A z Lz ρ) (hmt : ∀ id M, mt id = some M → wk_okm mt mw id M = true) {i : Instr} {n : Nat} {wd : List Nat} {lv : List (Nat × Value)} (hd : decode cc pc = .ok (i, n)) (hlk : wk_lk i n = true) (hw : wk_okw mt y i x wd = true) (hoc : wk_okc mw i x = true) {M2 : wk_M} {av r : List wk_V} {B : Option Value → State → Prop} {d : Nat} (hc : wk_call mt i x AS AH = some (M2, av, r)) (hl : lv_has ls nL lv)
    (hM : ∀ vals, wk_f2 (wk_r as z ρ) av vals → Met l (wk_My M2) (wk_ws M2) (wk_rm M2 d) (wk_Pc D A z Lz ρ vals AH as ws) (kc_B B A) (wk_Mk M2) (wk_Ms M2) A)
    (hfr : d + 2 ≤ R.frames) (hlo : 300 + 200 * d ≤ R.locals) (hcells : cells + wk_Mk M2 ≤ R.cells) (hslots : slots + wk_Ms M2 ≤ R.slots) (hr : wk_hr D A s as z ρ AH ws H) (hS : va_S A s.heap H locs) (hs : wk_f2 (wk_r as z ρ) AS st)
    (kk : ∀ (rx : Option Value) (t : State) (locs1 : List Loc) (rest : List Value), wk_f2 (wk_r as z ρ) r rest → B rx t → t.vm.Alike s.vm → va_S A s.heap t.heap locs1 → W p l e R s m args below meth c t.heap locs1 (cells + wk_Mk M2) (slots + wk_Ms M2) Q (F0 m (pc + 3) ls (rx.toList ++ rest))) : W p l e R s m args below meth c H locs cells slots Q (F0 m pc ls st) := by
  have hCpre := fun vals U hU hW => wk_pre_U (AH := AH) (as := as) (H := H) (ws := ws) C hr hS vals U hU hW
  obtain ⟨hx, hb, hml, hown, hts, hK, hA, -⟩ := C
  unfold wk_call at hc
  cases hI : wk_isI i x.1 with
  | false => rw [hI] at hc; cases hc
  | true =>
    rw [hI] at hc
    simp only [if_true] at hc
    cases hm : mt x.2.1 with
    | none => rw [hm] at hc; cases hc
    | some M =>
      rw [hm] at hc
      simp only at hc
      cases ht : wk_take (wk_argn x.1 (wk_Mn M)) AS [] with
      | none => rw [ht] at hc; cases hc
      | some q =>
        obtain ⟨av0, r0⟩ := q
        rw [ht] at hc
        simp only at hc
        cases hcat : Nat.ble (wk_cat r0) 8 with
        | false => rw [hcat] at hc; cases hc
        | true =>
          rw [hcat] at hc
          simp only [if_true] at hc
          have hok := hmt _ _ hm
          unfold wk_okm at hok
          simp only [Bool.and_eq_true, decide_eq_true_eq] at hok
          obtain ⟨ok1, ⟨ok2, ok3, ok4⟩, ok5, ok6, -⟩ := hok
          have ok5 := Nat.le_of_ble_eq_true ok5
          have hR : (wk_rm M d).frames + 1 ≤ R.frames ∧ 8 + (wk_Ml M + 11) + (wk_rm M d).locals ≤ R.locals := ⟨by show d + 1 + 1 ≤ _; omega, by show 8 + (wk_Ml M + 11) + (100 + 200 * d) ≤ _; omega⟩
          obtain ⟨pre, e1, e2, e3⟩ := wk_take_r _ _ _ _ _ ht
          rw [List.append_nil] at e1
          subst e1
          rw [e2] at hs
          obtain ⟨m1, m2, rfl, hs1, hs2⟩ := wk_f2_split hs
          have hv := wk_f2_rev hs1
          rw [List.reverse_reverse] at hv
          have hsum : (m2.map fun v => v.category).sum ≤ 8 := by rw [← wk_cat_r hs2]; exact Nat.le_of_ble_eq_true hcat
          have hlenv := wk_f2_len hv
          rw [e3] at hlenv
          unfold wk_isI at hI
          split at hI
          · -- virtual
            rename_i idx ek
            rw [ek] at hc e3 hlenv
            obtain rfl := Nat.eq_of_beq_eq_true hlk
            have hk : Nat.beq (mw x.2.1).1 0 = true := by
              have h : (match Instr.invokevirtual idx, x.1 with
                | .invokevirtual _, 0 => Nat.beq (mw x.2.1).1 0
                | .invokestatic _, 1 => Nat.beq (mw x.2.1).1 1
                | .invokestatic _, 3 => Nat.beq (mw x.2.1).1 1
                | .invokespecial _, 2 => Nat.beq (mw x.2.1).1 2
                | _, _ => true) = true := hoc
              rw [ek] at h
              exact h
            rcases av0 with _ | ⟨v0, av1⟩
            · cases hc
            · simp only at hc
              cases hob : wk_obj AH v0 with
              | none => rw [hob] at hc; cases hc
              | some q =>
                obtain ⟨k0, ci, fs0⟩ := q
                rw [hob] at hc
                simp only at hc
                cases hci : Nat.beq ci (wk_Mc M) with
                | false => rw [hci] at hc; cases hc
                | true =>
                  rw [hci] at hc
                  cases hc
                  obtain rfl := Nat.eq_of_beq_eq_true hci
                  obtain ⟨b0, As, e4, hb0, hAs⟩ := wk_f2_cons hv
                  obtain ⟨a0, vs0, rfl, g1, g2, -⟩ := wk_obj_r hr hob hb0
                  have em : m1 = As.reverse ++ [.ref a0] := by
                    have := congrArg List.reverse e4
                    rw [List.reverse_reverse, List.reverse_cons] at this
                    exact this
                  subst em
                  rw [e4] at hv hlenv
                  obtain ⟨o1, o2, o3, o4, o5⟩ := wk_okk_0 ok6 (Nat.eq_of_beq_eq_true hk)
                  match wd, hw with
                  | [q1], hw =>
                    have hw : (Nat.beq x.1 0 && match mt x.2.1 with
                      | some M => wk_has q1 (.methodLink y.cls idx (wk_My M))
                      | none => false) = true := hw
                    rw [hm, Bool.and_eq_true] at hw
                    have hlink := wk_has_in hw.2
                    obtain ⟨qc, hqc1, hqc2⟩ := Option.map_eq_some_iff.mp o5
                    have hcl : wk_cl[wk_Mc M2]? = some (qc.1, wk_T qc, qc.2.length) := by unfold wk_cl; rw [List.getElem?_map, hqc1]; rfl
                    have hrecv := va_recv hK.1 hr.1 hcl g1
                    rw [hqc2] at hrecv
                    rw [List.append_assoc]
                    refine kc_after (rest := m2) (va_runV (As := As) (rest := m2) ⟨hx, hb, hml, hown, hts⟩ (hM _ hv) (cwV (wk_Mn M2) hts (wk_gd (fun w hw => ?_)) rfl rfl rfl ⟨rfl, ok2, ok3, ok4⟩ hR) ⟨wk_blind, hrecv, fun U hU hW => hCpre _ U hU hW⟩ rfl ?_ hl.1 rfl (lv_room hsum) hd ⟨hcells, hslots⟩) hS (fun rx t locs1 h1 h2 h3 => kk rx t locs1 m2 hs2 h1 h2 h3)
                    · unfold wsV at hw
                      simp only [List.cons_append, List.nil_append, List.mem_cons] at hw
                      rcases hw with rfl | rfl | rfl | rfl | hw
                      · exact hlink
                      · exact o3
                      · exact o4
                      · exact o2
                      · exact wk_ws_in o1 w hw
                    · have : wk_Mn M2 + 1 = As.length + 1 := hlenv
                      omega
                  | [], hw => cases hw
                  | _ :: _ :: _, hw => cases hw
          · -- static
            rename_i idx ek
            rw [ek] at hc e3 hlenv
            obtain rfl := Nat.eq_of_beq_eq_true hlk
            have hk : Nat.beq (mw x.2.1).1 1 = true := by
              have h : (match Instr.invokestatic idx, x.1 with
                | .invokevirtual _, 0 => Nat.beq (mw x.2.1).1 0
                | .invokestatic _, 1 => Nat.beq (mw x.2.1).1 1
                | .invokestatic _, 3 => Nat.beq (mw x.2.1).1 1
                | .invokespecial _, 2 => Nat.beq (mw x.2.1).1 2
                | _, _ => true) = true := hoc
              rw [ek] at h
              exact h
            cases hc
            obtain ⟨o1, o2, o3⟩ := wk_okk_1 ok6 (Nat.eq_of_beq_eq_true hk)
            match wd, hw with
            | [q1], hw =>
              have hw : (match mt x.2.1 with
                | some M => (Nat.beq x.1 1 && wk_has q1 (.methodLink y.cls idx (wk_My M))) || (Nat.beq x.1 3 && wk_nst q1 (.methodLinkNest y.cls idx (wk_My M) "EvenSides"))
                | none => false) = true := hw
              rw [hm, ek] at hw
              simp only [Bool.or_eq_true, Bool.and_eq_true] at hw
              have hw := hw.resolve_right (fun q => absurd q.1 (by decide))
              have hlink := wk_has_in hw.2
              have em : m1 = m1.reverse.reverse := (List.reverse_reverse m1).symm
              refine kc_after (rest := m2) (va_runS (As := m1.reverse) (rest := m2) ⟨hx, hb, hml, hown, hts⟩ (hM _ hv) (va_cwS (wk_Mn M2) hts (wk_gd (fun w hw => ?_)) rfl rfl rfl ⟨ok2, ok3, ok4⟩ hR) ⟨wk_blind, fun U hU hW => hCpre _ U hU hW⟩ rfl ?_ hl.1 (by show m1 ++ m2 = _; rw [List.reverse_reverse]) (lv_room hsum) hd ⟨hcells, hslots⟩) hS (fun rx t locs1 h1 h2 h3 => kk rx t locs1 m2 hs2 h1 h2 h3)
              · unfold va_wsS at hw
                simp only [List.cons_append, List.nil_append, List.mem_cons] at hw
                rcases hw with rfl | rfl | rfl | hw
                · exact hlink
                · exact o3
                · exact o2
                · exact wk_ws_in o1 w hw
              · exact hlenv.symm
            | [q1, q2, q3, q4], hw =>
              have hw : (match x.1 with
                | 5 => wk_has q1 (.methodLink y.cls idx wk_acn) && (wk_has q2 (.native wk_acn) && (wk_has q3 (.static wk_acn) && wk_has q4 (.initialized "java/lang/System")))
                | 6 => wk_has q1 (.methodLink y.cls idx Lib.Math.min.name) && (wk_has q2 (.code Lib.Math.min.name Lib.Math.min.code 2 (some .int)) && (wk_has q3 (.static Lib.Math.min.name) && wk_has q4 (.initialized "java/lang/Math")))
                | 7 => wk_has q1 (.methodLink y.cls idx Lib.Math.abs.name) && (wk_has q2 (.code Lib.Math.abs.name Lib.Math.abs.code 1 (some .int)) && (wk_has q3 (.static Lib.Math.abs.name) && wk_has q4 (.initialized "java/lang/Math")))
                | 8 => wk_has q1 (.methodLink y.cls idx Lib.Math.max.name) && (wk_has q2 (.code Lib.Math.max.name Lib.Math.max.code 2 (some .int)) && (wk_has q3 (.static Lib.Math.max.name) && wk_has q4 (.initialized "java/lang/Math")))
                | _ => false) = true := hw
              rw [ek] at hw
              cases hw
            | [], hw => cases hw
            | [_, _], hw => cases hw
            | [_, _, _], hw => cases hw
            | _ :: _ :: _ :: _ :: _ :: _, hw => cases hw
          · -- a constructor
            rename_i idx ek
            rw [ek] at hc e3 hlenv
            obtain rfl := Nat.eq_of_beq_eq_true hlk
            have hk : Nat.beq (mw x.2.1).1 2 = true := by
              have h : (match Instr.invokespecial idx, x.1 with
                | .invokevirtual _, 0 => Nat.beq (mw x.2.1).1 0
                | .invokestatic _, 1 => Nat.beq (mw x.2.1).1 1
                | .invokestatic _, 3 => Nat.beq (mw x.2.1).1 1
                | .invokespecial _, 2 => Nat.beq (mw x.2.1).1 2
                | _, _ => true) = true := hoc
              rw [ek] at h
              exact h
            rcases av0 with _ | ⟨v0, av1⟩
            · cases hc
            · simp only at hc
              cases hisr : (wk_isr v0 && !wk_scr v0) with
              | false => rw [hisr] at hc; cases hc
              | true =>
                rw [hisr] at hc
                cases hc
                rw [Bool.and_eq_true] at hisr
                obtain ⟨b0, As, e4, hb0, hAs⟩ := wk_f2_cons hv
                obtain ⟨a0, rfl⟩ := wk_isr_r hisr.1 hb0
                have em : m1 = As.reverse ++ [.ref a0] := by
                  have := congrArg List.reverse e4
                  rw [List.reverse_reverse, List.reverse_cons] at this
                  exact this
                subst em
                rw [e4] at hv hlenv
                obtain ⟨o1, o2, o3, o4, o5⟩ := wk_okk_2 ok6 (Nat.eq_of_beq_eq_true hk)
                match wd, hw with
                | [q1], hw =>
                  have hw : (Nat.beq x.1 2 && match mt x.2.1 with
                    | some M => wk_has q1 (.methodLink y.cls idx (wk_My M))
                    | none => false) = true := hw
                  rw [hm, Bool.and_eq_true] at hw
                  have hlink := wk_has_in hw.2
                  rw [List.append_assoc]
                  refine kc_after (rest := m2) (va_runI (As := As) (rest := m2) ⟨hx, hb, hml, hown, hts⟩ (hM _ hv) (cwI (wk_Mn M2) hts (wk_gd (wk_ws_in o1)) (by unfold wk_ws; rw [o5]) rfl rfl (hts _ o2) (hts _ hlink) (hts _ o3) o4 ⟨ok2, ok3, ok4⟩ hR) ⟨wk_blind, fun U hU hW => hCpre _ U hU hW⟩ rfl ?_ hl.1 rfl (lv_room hsum) hd ⟨hcells, hslots⟩) hS (fun rx t locs1 h1 h2 h3 => kk rx t locs1 m2 hs2 h1 h2 h3)
                  have : wk_Mn M2 + 1 = As.length + 1 := hlenv
                  omega
                | [_, _, _], hw =>
                  have hw : (Nat.beq x.1 4 && _) = true := hw
                  rw [Bool.and_eq_true, ek] at hw
                  exact absurd hw.1 (by decide)
                | [], hw => cases hw
                | [_, _], hw => cases hw
                | _ :: _ :: _ :: _ :: _, hw => cases hw
          · -- a nest mate's
            rename_i idx ek
            rw [ek] at hc e3 hlenv
            obtain rfl := Nat.eq_of_beq_eq_true hlk
            have hk : Nat.beq (mw x.2.1).1 1 = true := by
              have h : (match Instr.invokestatic idx, x.1 with
                | .invokevirtual _, 0 => Nat.beq (mw x.2.1).1 0
                | .invokestatic _, 1 => Nat.beq (mw x.2.1).1 1
                | .invokestatic _, 3 => Nat.beq (mw x.2.1).1 1
                | .invokespecial _, 2 => Nat.beq (mw x.2.1).1 2
                | _, _ => true) = true := hoc
              rw [ek] at h
              exact h
            cases hc
            obtain ⟨o1, o2, o3⟩ := wk_okk_1 ok6 (Nat.eq_of_beq_eq_true hk)
            match wd, hw with
            | [q1], hw =>
              have hw : (match mt x.2.1 with
                | some M => (Nat.beq x.1 1 && wk_has q1 (.methodLink y.cls idx (wk_My M))) || (Nat.beq x.1 3 && wk_nst q1 (.methodLinkNest y.cls idx (wk_My M) "EvenSides"))
                | none => false) = true := hw
              rw [hm, ek] at hw
              simp only [Bool.or_eq_true, Bool.and_eq_true] at hw
              have hw := hw.resolve_left (fun q => absurd q.1 (by decide))
              have hn9 := hw.2
              unfold wk_nst at hn9
              rw [decide_eq_true_eq] at hn9
              have hnest : va_Nw (.methodLinkNest y.cls idx (wk_My M2) "EvenSides") s := hK.2.1 _ _ _ _ (List.mem_of_getElem? hn9)
              refine kc_after (rest := m2) (va_runSN (As := m1.reverse) (rest := m2) ⟨hx, hb, hml, hown, hts⟩ (hM _ hv) ⟨va_cnB (wk_Mn M2) hts (wk_gd (wk_ws_in o1)) rfl rfl rfl hnest (hts _ o2) ⟨ok2, ok3, ok4⟩ hR, hts _ o3, trivial⟩ ⟨wk_blind, fun U hU hW => hCpre _ U hU hW⟩ rfl ?_ hl.1 (by show m1 ++ m2 = _; rw [List.reverse_reverse]) (lv_room hsum) hd ⟨hcells, hslots⟩) hS (fun rx t locs1 h1 h2 h3 => kk rx t locs1 m2 hs2 h1 h2 h3)
              exact hlenv.symm
            | [q1, q2, q3, q4], hw =>
              have hw : (match x.1 with
                | 5 => wk_has q1 (.methodLink y.cls idx wk_acn) && (wk_has q2 (.native wk_acn) && (wk_has q3 (.static wk_acn) && wk_has q4 (.initialized "java/lang/System")))
                | 6 => wk_has q1 (.methodLink y.cls idx Lib.Math.min.name) && (wk_has q2 (.code Lib.Math.min.name Lib.Math.min.code 2 (some .int)) && (wk_has q3 (.static Lib.Math.min.name) && wk_has q4 (.initialized "java/lang/Math")))
                | 7 => wk_has q1 (.methodLink y.cls idx Lib.Math.abs.name) && (wk_has q2 (.code Lib.Math.abs.name Lib.Math.abs.code 1 (some .int)) && (wk_has q3 (.static Lib.Math.abs.name) && wk_has q4 (.initialized "java/lang/Math")))
                | 8 => wk_has q1 (.methodLink y.cls idx Lib.Math.max.name) && (wk_has q2 (.code Lib.Math.max.name Lib.Math.max.code 2 (some .int)) && (wk_has q3 (.static Lib.Math.max.name) && wk_has q4 (.initialized "java/lang/Math")))
                | _ => false) = true := hw
              rw [ek] at hw
              cases hw
            | [], hw => cases hw
            | [_, _], hw => cases hw
            | [_, _, _], hw => cases hw
            | _ :: _ :: _ :: _ :: _ :: _, hw => cases hw
          · cases hI
end KCCL
