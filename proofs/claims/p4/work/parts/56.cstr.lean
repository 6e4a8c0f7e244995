/-! ===== the clean logic: texts (constants), and the JDK's members that read them ===== -/
/-- a text; its bytes; the formatter -/
def ks_s (i : Nat) : kc_V := .inr (.inr (.inr (i + 1)))
def ks_b (i : Nat) : kc_V := .inr (.inr (.inr (i + 101)))
def ks_f : kc_V := .inr (.inr (.inr 200))
def ks_L (i : Nat) : Nat := wk_sl.getD i 0
def ks_c (i j : Nat) : Int32 := (wk_sb.getD i []).getD j 0
section KSR
variable {g : kc_G} {d : Nat} {M : wk_M} {Q : Option kc_V → kc_H → Prop} {pc : Nat} {AL : kc_L} {AS : List kc_V} {h : kc_H}
theorem ks_ldc {i : Nat} (hi : i < 24) (hy : (wk_My M).cls = "EvenSides$Reader") (hd : decode (wk_Mb M) pc = .ok (.ldc (97 + 2 * i), 2)) (k : kc_Ev g d M Q (pc + 2) AL (ks_s i :: AS) h) : kc_Ev g d M Q pc AL AS h := by
  intro p e R s m args below meth c as hF H locs ws ls lv st hS hr hl ha hs
  obtain ⟨hx, hb, hml, hown, hts, hK, hA, hname, hX, hz, hzA, hLz⟩ := hF.1
  rw [hy] at hown
  exact va_ldcS hx hb hown (hX.2.2.1 i hi) hd (k p e R s m args below meth c as hF H locs ws ls lv _ hS hr hl ha ⟨rfl, hs⟩)
theorem ks_getv {i idx q : Nat} (hi : i < 24) (hd : decode (wk_Mb M) pc = .ok (.getfield idx, 3)) (hw : wk_has q (.fieldLink (wk_My M).cls idx "java/lang/String" "value" "[B") = true) (k : kc_Ev g d M Q (pc + 3) AL (ks_b i :: AS) h) : kc_Ev g d M Q pc AL (ks_s i :: AS) h := by
  intro p e R s m args below meth c as hF H locs ws ls lv st hS hr hl ha hs
  obtain ⟨hx, hb, hml, hown, hts, hK, hA, hname, hX, hz, hzA, hLz⟩ := hF.1
  obtain ⟨y0, st1, rfl, hv, hs1⟩ := wk_f2_cons hs
  have hv : y0 = .ref (kc_gz g (i + 1)) := hv
  subst hv
  exact vk_getf hx hb (hX.2.1.1 i hi).2.2.1 hS hown (hts _ (wk_has_in hw)) (fun x q => q) hd (k p e R s m args below meth c as hF H locs ws ls lv _ hS hr hl ha ⟨rfl, hs1⟩)
theorem ks_getc {i idx q : Nat} (hi : i < 24) (hd : decode (wk_Mb M) pc = .ok (.getfield idx, 3)) (hw : wk_has q (.fieldLink (wk_My M).cls idx "java/lang/String" "coder" "B") = true) (k : kc_Ev g d M Q (pc + 3) AL (.inl 0 :: AS) h) : kc_Ev g d M Q pc AL (ks_s i :: AS) h := by
  intro p e R s m args below meth c as hF H locs ws ls lv st hS hr hl ha hs
  obtain ⟨hx, hb, hml, hown, hts, hK, hA, hname, hX, hz, hzA, hLz⟩ := hF.1
  obtain ⟨y0, st1, rfl, hv, hs1⟩ := wk_f2_cons hs
  have hv : y0 = .ref (kc_gz g (i + 1)) := hv
  subst hv
  exact vk_getf hx hb (hX.2.1.1 i hi).2.1 hS hown (hts _ (wk_has_in hw)) (fun x q => q) hd (k p e R s m args below meth c as hF H locs ws ls lv _ hS hr hl ha ⟨wk_sI_r 0, hs1⟩)
theorem ks_len {i : Nat} (hi : i < 24) (hd : decode (wk_Mb M) pc = .ok (.arraylength, 1)) (k : kc_Ev g d M Q (pc + 1) AL (.inl (Int32.ofNat (ks_L i)) :: AS) h) : kc_Ev g d M Q pc AL (ks_b i :: AS) h := by
  intro p e R s m args below meth c as hF H locs ws ls lv st hS hr hl ha hs
  obtain ⟨hx, hb, hml, hown, hts, hK, hA, hname, hX, hz, hzA, hLz⟩ := hF.1
  obtain ⟨y0, st1, rfl, hv, hs1⟩ := wk_f2_cons hs
  have hv : y0 = .ref (kc_gz g (i + 101)) := hv
  subst hv
  exact va_tlen hx hb (hX.2.1.1 i hi).2.2.2 hS rfl hd (k p e R s m args below meth c as hF H locs ws ls lv _ hS hr hl ha ⟨wk_sI_r _, hs1⟩)
theorem ks_bal {i : Nat} {j : Int32} (hi : i < 24) (hj : vp_in j (ks_L i)) (hd : decode (wk_Mb M) pc = .ok (.baload, 1)) (k : kc_Ev g d M Q (pc + 1) AL (.inl (ks_c i j.toNatClampNeg) :: AS) h) : kc_Ev g d M Q pc AL (.inl j :: ks_b i :: AS) h := by
  intro p e R s m args below meth c as hF H locs ws ls lv st hS hr hl ha hs
  obtain ⟨hx, hb, hml, hown, hts, hK, hA, hname, hX, hz, hzA, hLz⟩ := hF.1
  obtain ⟨y1, st0, rfl, hj1, hs0⟩ := wk_f2_cons hs
  obtain ⟨y0, st1, rfl, hv, hs1⟩ := wk_f2_cons hs0
  have hv : y0 = .ref (kc_gz g (i + 101)) := hv
  subst hv
  obtain ⟨j1, rfl, a1, a2⟩ := hj1
  obtain rfl : j1 = j := Int32.toInt_inj.mp (Int.le_antisymm a2 a1)
  exact va_tb hx hb (hX.2.1.1 i hi).2.2.2 hS hj rfl hd (k p e R s m args below meth c as hF H locs ws ls lv _ hS hr hl ha ⟨wk_sI_r _, hs1⟩)
theorem ks_getcs {idx q : Nat} (hd : decode (wk_Mb M) pc = .ok (.getstatic idx, 3)) (hw : wk_has q (.fieldLink (wk_My M).cls idx "java/lang/String" "COMPACT_STRINGS" "Z") = true) (k : kc_Ev g d M Q (pc + 3) AL (.inl 1 :: AS) h) : kc_Ev g d M Q pc AL AS h := by
  intro p e R s m args below meth c as hF H locs ws ls lv st hS hr hl ha hs
  obtain ⟨hx, hb, hml, hown, hts, hK, hA, hname, hX, hz, hzA, hLz⟩ := hF.1
  exact va_gets hx hb hX.2.2.2.1 hS hown (hts _ (wk_has_in hw)) (fun x q => q) hd (k p e R s m args below meth c as hF H locs ws ls lv _ hS hr hl ha ⟨wk_sI_r 1, hs⟩)
theorem ks_getfm {idx q : Nat} (hd : decode (wk_Mb M) pc = .ok (.getstatic idx, 3)) (hw : wk_has q (.fieldLink (wk_My M).cls idx "jdk/internal/util/Preconditions" "SIOOBE_FORMATTER" "Ljava/util/function/BiFunction;") = true) (k : ∀ w : kc_V, w = ks_f ∨ w = .inr (.inr (.inl none)) → kc_Ev g d M Q (pc + 3) AL (w :: AS) h) : kc_Ev g d M Q pc AL AS h := by
  intro p e R s m args below meth c as hF H locs ws ls lv st hS hr hl ha hs
  obtain ⟨hx, hb, hml, hown, hts, hK, hA, hname, hX, hz, hzA, hLz⟩ := hF.1
  rcases hX.2.2.2.2 with hZ | hZ
  · exact va_gets hx hb hZ hS hown (hts _ (wk_has_in hw)) (fun x q => q) hd (k _ (Or.inl rfl) p e R s m args below meth c as hF H locs ws ls lv _ hS hr hl ha ⟨rfl, hs⟩)
  · exact va_gets hx hb hZ hS hown (hts _ (wk_has_in hw)) (fun x q => q) hd (k _ (Or.inr rfl) p e R s m args below meth c as hF H locs ws ls lv _ hS hr hl ha ⟨rfl, hs⟩)
theorem ks_i2c {x v : Int32} (hv : (x.toUInt32 % 65536).toInt32 = v) (hd : decode (wk_Mb M) pc = .ok (.i2c, 1)) (k : kc_Ev g d M Q (pc + 1) AL (.inl v :: AS) h) : kc_Ev g d M Q pc AL (.inl x :: AS) h := by
  intro p e R s m args below meth c as hF H locs ws ls lv st hS hr hl ha hs
  obtain ⟨hx, hb, hml, hown, hts, hK, hA, hname, hX, hz, hzA, hLz⟩ := hF.1
  obtain ⟨y1, st0, rfl, hj1, hs0⟩ := wk_f2_cons hs
  obtain ⟨j1, rfl, a1, a2⟩ := hj1
  obtain rfl : j1 = x := Int32.toInt_inj.mp (Int.le_antisymm a2 a1)
  exact lv_i2c hx hb hd hv (k p e R s m args below meth c as hF H locs ws ls lv _ hS hr hl ha ⟨wk_sI_r _, hs0⟩)
theorem ks_pop2 {x : Int64} (hd : decode (wk_Mb M) pc = .ok (.pop2, 1)) (k : kc_Ev g d M Q (pc + 1) AL AS h) : kc_Ev g d M Q pc AL (.inr (.inl x) :: AS) h := by
  intro p e R s m args below meth c as hF H locs ws ls lv st hS hr hl ha hs
  obtain ⟨hx, hb, hml, hown, hts, hK, hA, hname, hX, hz, hzA, hLz⟩ := hF.1
  obtain ⟨y1, st0, rfl, hj1, hs0⟩ := wk_f2_cons hs
  obtain ⟨j1, rfl, a1, a2⟩ := hj1
  exact lv_pop2_2 hx hb hd rfl (k p e R s m args below meth c as hF H locs ws ls lv _ hS hr hl ha hs0)
/-- a byte, a char is returned -/
theorem ks_retn {v : Int32} {ty : FieldType} (hm : wk_Mr M = some ty) (hn : narrow ty (.int v) = .int v) (hd : decode (wk_Mb M) pc = .ok (.ireturn, 1)) (hQ : Q (some (.inl v)) h) : kc_Ev g d M Q pc AL [.inl v] h := by
  intro p e R s m args below meth c as hF H locs ws ls lv st hS hr hl ha hs
  obtain ⟨⟨hx, hb, -⟩, hret, hlocks, -⟩ := hF
  obtain ⟨y1, st0, rfl, hj1, hs0⟩ := wk_f2_cons hs
  have := wk_f2_nil hs0
  subst this
  obtain ⟨j1, rfl, a1, a2⟩ := hj1
  obtain rfl : j1 = v := Int32.toInt_inj.mp (Int.le_antisymm a2 a1)
  exact W.zret hx hb (hret.trans hm) hn (fun t ht hW => ⟨⟨_, rfl, some (.inl j1), h, ws, hQ, (show wk_rv as (kc_gz g) (kc_gs g) (some (kc_e (.inl j1))) (some (.int j1)) from wk_sI_r (as := as) (z := kc_gz g) (ρ := kc_gs g) j1), by rw [ht]; exact wk_hr_moved hW.alike hr⟩, hS.F ht⟩) hS.2.2 hd hlocks
/-- a text is returned -/
theorem ks_reta {i : Nat} {n : String} (hm : wk_Mr M = some (.object n)) (hd : decode (wk_Mb M) pc = .ok (.areturn, 1)) (hQ : Q (some (ks_s i)) h) : kc_Ev g d M Q pc AL [ks_s i] h := by
  intro p e R s m args below meth c as hF H locs ws ls lv st hS hr hl ha hs
  obtain ⟨⟨hx, hb, -⟩, hret, hlocks, -⟩ := hF
  obtain ⟨y1, st0, rfl, hv, hs0⟩ := wk_f2_cons hs
  have := wk_f2_nil hs0
  subst this
  have hv : y1 = .ref (kc_gz g (i + 1)) := hv
  subst hv
  exact W.aret hx hb (hret.trans hm) (Or.inl ⟨n, rfl⟩) (Or.inr ⟨_, rfl⟩) (fun t ht hW => ⟨⟨_, rfl, some (ks_s i), h, ws, hQ, rfl, by rw [ht]; exact wk_hr_moved hW.alike hr⟩, hS.F ht⟩) hS.2.2 hd hlocks
/-- a contract of a member that has no number -/
def ks_Con (g : kc_G) (d : Nat) (M : wk_M) (av : List kc_V) (h : kc_H) (Q : Option kc_V → kc_H → Prop) : Prop := ∀ (as : List Nat) (ws : va_W) (vals : List Value), wk_f2 (wk_r as (kc_gz g) (kc_gs g)) (av.map kc_e) vals → Met g.1 (wk_My M) (wk_ws M) (wk_rm M d) (wk_Pc (kc_gD g) (kc_gA g) (kc_gz g) (kc_gL g) (kc_gs g) vals (kc_A h) as ws) (kc_B (kc_Bq g Q as) (kc_gA g)) 0 0 (kc_gA g)
/-- its words and rows -/
def ks_ok (M : wk_M) (a b : Nat) : Bool := plainName (wk_My M).cls && (decide ((wk_My M).cls ≠ "java/lang/invoke/MethodHandle" ∧ (wk_My M).cls ≠ "java/lang/invoke/VarHandle" ∧ (parseMethodDescriptor (wk_My M).desc).map (fun d => d.parameters.length) = some (wk_Mn M)) && (Nat.ble (wk_Ml M) 100 && ((wk_has a (.code (wk_My M) (wk_Mb M) (wk_Ml M) (wk_Mr M)) && wk_has b (.initialized (wk_My M).cls)) && (wk_Mx M).all fun r => r.all (wk_okx wk_mt wk_mw (wk_My M) (wk_Mb M)))))
theorem ks_new {a b : Nat} {av : List kc_V} (hg : kc_ok g) (hok : ks_ok M a b = true) (hk : wk_Mk M = 0) (hss : wk_Ms M = 0) (hcat : wk_cat (av.map kc_e) ≤ wk_Ml M) (k : kc_Ev g d M Q 0 (kc_args 0 av) [] h) : ks_Con g d M av h Q := by
  intro as ws vals hv
  unfold ks_ok at hok
  simp only [Bool.and_eq_true, decide_eq_true_eq] at hok
  obtain ⟨ok1, ⟨ok2, ok3, ok4⟩, ok5, ⟨ok6, ok8⟩, ok7⟩ := hok
  have hM : ∀ r ∈ wk_Mx M, ∀ row ∈ r, wk_okx wk_mt wk_mw (wk_My M) (wk_Mb M) row = true := fun r hr row hrow => List.all_eq_true.mp (List.all_eq_true.mp ok7 r hr) row hrow
  refine Met.ofW (cc := wk_Mb M) (maxL := wk_Ml M) (ret := wk_Mr M) ok1 rfl ?_
  intro p e s m args below meth c s₁ B hml hP
  obtain ⟨rfl, hK, hX, hz, hA, hr⟩ := hP
  have hts : ∀ w ∈ wk_tbl, w.before vals.toArray s = true := fun w hw => atoms_spec (ws := wk_ws M) B.pre w (List.mem_cons_of_mem _ hw)
  have hown : s.vm.findClass (wk_My M).cls = some m.cls := findClass_of_methodNamed B.named
  have hname : meth.name = (wk_My M).name := (name_of_methodNamed B.named B.method).1
  have C : wk_cx p s m vals.toArray meth c (wk_Mb M) (wk_My M) (wk_Ml M) (kc_gD g) (kc_gA g) (kc_gz g) (kc_gL g) (kc_gs g) := ⟨B.exec, B.bytes, hml, hown, hts, hK, hA, hname, hX, hz, hg.1, hg.2⟩
  have hlen : (lg_sl vals).length ≤ wk_Ml M := by rw [wk_slen, ← wk_cat_r hv]; exact hcat
  rw [lg_entry_eq]
  have hl := lv_entry vals (n := wk_Ml M) hlen
  exact k p e (headSpec (wk_ws M) (wk_rm M d)).room s m vals.toArray below meth c as ⟨C, B.returns, B.notSynchronized, Nat.le_refl _, Nat.le_refl _, hM⟩ s.heap [] ws _ _ [] va_S.rf hr hl (by rw [kc_args_e]; exact wk_args_r 0 hv) trivial
/-- a call of an instance's member: the receiver is a text -/
theorem ks_callV {M2 : wk_M} {i idx a b q1 q2 q3 : Nat} {av r : List kc_V} {Q2 : Option kc_V → kc_H → Prop} (hi : i < 24) (hd : decode (wk_Mb M) pc = .ok (.invokevirtual idx, 3)) (hy : (wk_My M2).cls = "java/lang/String") (hw1 : wk_has q1 (.methodLink (wk_My M).cls idx (wk_My M2)) = true) (hw2 : wk_has q2 (.instanceMethod (wk_My M2)) = true) (hw3 : wk_has q3 (.selects (wk_My M2).cls (wk_My M2) (wk_My M2)) = true)
    (hok : ks_ok M2 a b = true) (hk : wk_Mk M2 = 0) (hss : wk_Ms M2 = 0) (hn : av.length = wk_Mn M2) (hcat : wk_cat (r.map kc_e) ≤ 8) (hCon : ks_Con g d M2 (ks_s i :: av) h Q2) (k : ∀ rv h', Q2 rv h' → kc_Ev g (d + 1) M Q (pc + 3) AL (rv.toList ++ r) h') : kc_Ev g (d + 1) M Q pc AL (av.reverse ++ ks_s i :: r) h := by
  intro p e R s m args below meth c as hF H locs ws ls lv st hS hr hl ha hs
  have hCpre := fun vals U hU hW => wk_pre_U (AH := kc_A h) (as := as) (H := H) (ws := ws) hF.1 hr hS vals U hU hW
  obtain ⟨hx, hb, hml, hown, hts, hK, hA, hname, hX, hz, hzA, hLz⟩ := hF.1
  unfold ks_ok at hok
  simp only [Bool.and_eq_true, decide_eq_true_eq] at hok
  obtain ⟨ok1, ⟨ok2, ok3, ok4⟩, ok5, ⟨ok6, ok8⟩, ok7⟩ := hok
  have ok5 := Nat.le_of_ble_eq_true ok5
  have hfr := hF.2.2.2.1
  have hlo := hF.2.2.2.2.1
  have hR : (wk_rm M2 d).frames + 1 ≤ R.frames ∧ 8 + (wk_Ml M2 + 11) + (wk_rm M2 d).locals ≤ R.locals := ⟨by show d + 1 + 1 ≤ _; omega, by show 8 + (wk_Ml M2 + 11) + (100 + 200 * d) ≤ _; omega⟩
  rw [List.map_append, List.map_cons, List.map_reverse] at hs
  obtain ⟨m1, m2, rfl, hs1, hs2⟩ := wk_f2_split hs
  obtain ⟨y0, rest, rfl, hv0, hs3⟩ := wk_f2_cons hs2
  have hv0 : y0 = .ref (kc_gz g (i + 1)) := hv0
  subst hv0
  have hv := wk_f2_rev hs1
  rw [List.reverse_reverse] at hv
  have hsum : (rest.map fun v => v.category).sum ≤ 8 := by rw [← wk_cat_r hs3]; exact hcat
  have hlenv := wk_f2_len hv
  rw [List.length_map, hn] at hlenv
  have hrecv := vk_recv hX.2.1 hi hS
  have hMet := hCon as ws (.ref (kc_gz g (i + 1)) :: m1.reverse) ⟨rfl, hv⟩
  have em : m1 ++ Value.ref (kc_gz g (i + 1)) :: rest = m1.reverse.reverse ++ Value.ref (kc_gz g (i + 1)) :: rest := by rw [List.reverse_reverse]
  rw [em]
  refine kc_after (rest := rest) (va_runV (As := m1.reverse) (rest := rest) (C := "java/lang/String") ⟨hx, hb, hml, hown, hts⟩ hMet (cwV (wk_Mn M2) hts (wk_gd (fun w hw => ?_)) rfl hk hss ⟨hy, ok2, ok3, ok4⟩ hR) ⟨wk_blind, hrecv, fun U hU hW => hCpre _ U hU hW⟩ rfl hlenv.symm hl.1 rfl (lv_room hsum) hd ⟨Nat.zero_le _, Nat.zero_le _⟩) hS (fun rx t locs1 h1 h2 h3 => ?_)
  · unfold wsV at hw
    simp only [List.cons_append, List.nil_append, List.mem_cons] at hw
    rcases hw with rfl | rfl | rfl | rfl | hw
    · exact wk_has_in hw1
    · exact wk_has_in hw2
    · rw [← hy]; exact wk_has_in hw3
    · rw [← hy]; exact wk_has_in ok8
    · exact wk_ws_in (wk_has_in ok6) w hw
  · obtain ⟨rv, h1', ws1, g1, g2, g3⟩ := h1
    refine k rv h1' g1 p e R s m args below meth c as hF t.heap locs1 ws1 ls lv _ h3 (wk_hr_moved h2 g3) hl ha ?_
    cases rv with
    | none =>
      cases rx with
      | none => exact hs3
      | some _ => exact g2.elim
    | some v =>
      cases rx with
      | none => exact g2.elim
      | some xv => exact ⟨g2, hs3⟩
/-- a call of a static member -/
theorem ks_callS {M2 : wk_M} {idx a b q1 q2 : Nat} {av r : List kc_V} {Q2 : Option kc_V → kc_H → Prop} (hd : decode (wk_Mb M) pc = .ok (.invokestatic idx, 3)) (hw1 : wk_has q1 (.methodLink (wk_My M).cls idx (wk_My M2)) = true) (hw2 : wk_has q2 (.static (wk_My M2)) = true)
    (hok : ks_ok M2 a b = true) (hk : wk_Mk M2 = 0) (hss : wk_Ms M2 = 0) (hn : av.length = wk_Mn M2) (hcat : wk_cat (r.map kc_e) ≤ 8) (hCon : ks_Con g d M2 av h Q2) (k : ∀ rv h', Q2 rv h' → kc_Ev g (d + 1) M Q (pc + 3) AL (rv.toList ++ r) h') : kc_Ev g (d + 1) M Q pc AL (av.reverse ++ r) h := by
  intro p e R s m args below meth c as hF H locs ws ls lv st hS hr hl ha hs
  have hCpre := fun vals U hU hW => wk_pre_U (AH := kc_A h) (as := as) (H := H) (ws := ws) hF.1 hr hS vals U hU hW
  obtain ⟨hx, hb, hml, hown, hts, hK, hA, hname, hX, hz, hzA, hLz⟩ := hF.1
  unfold ks_ok at hok
  simp only [Bool.and_eq_true, decide_eq_true_eq] at hok
  obtain ⟨ok1, ⟨ok2, ok3, ok4⟩, ok5, ⟨ok6, ok8⟩, ok7⟩ := hok
  have ok5 := Nat.le_of_ble_eq_true ok5
  have hfr := hF.2.2.2.1
  have hlo := hF.2.2.2.2.1
  have hR : (wk_rm M2 d).frames + 1 ≤ R.frames ∧ 8 + (wk_Ml M2 + 11) + (wk_rm M2 d).locals ≤ R.locals := ⟨by show d + 1 + 1 ≤ _; omega, by show 8 + (wk_Ml M2 + 11) + (100 + 200 * d) ≤ _; omega⟩
  rw [List.map_append, List.map_reverse] at hs
  obtain ⟨m1, rest, rfl, hs1, hs3⟩ := wk_f2_split hs
  have hv := wk_f2_rev hs1
  rw [List.reverse_reverse] at hv
  have hsum : (rest.map fun v => v.category).sum ≤ 8 := by rw [← wk_cat_r hs3]; exact hcat
  have hlenv := wk_f2_len hv
  rw [List.length_map, hn] at hlenv
  have hMet := hCon as ws m1.reverse hv
  refine kc_after (rest := rest) (va_runS (As := m1.reverse) (rest := rest) ⟨hx, hb, hml, hown, hts⟩ hMet (va_cwS (wk_Mn M2) hts (wk_gd (fun w hw => ?_)) rfl hk hss ⟨ok2, ok3, ok4⟩ hR) ⟨wk_blind, fun U hU hW => hCpre _ U hU hW⟩ rfl hlenv.symm hl.1 (by show m1 ++ rest = _; rw [List.reverse_reverse]) (lv_room hsum) hd ⟨Nat.zero_le _, Nat.zero_le _⟩) hS (fun rx t locs1 h1 h2 h3 => ?_)
  · unfold va_wsS at hw
    simp only [List.cons_append, List.nil_append, List.mem_cons] at hw
    rcases hw with rfl | rfl | rfl | hw
    · exact wk_has_in hw1
    · exact wk_has_in hw2
    · exact wk_has_in ok8
    · exact wk_ws_in (wk_has_in ok6) w hw
  · obtain ⟨rv, h1', ws1, g1, g2, g3⟩ := h1
    refine k rv h1' g1 p e R s m args below meth c as hF t.heap locs1 ws1 ls lv _ h3 (wk_hr_moved h2 g3) hl ha ?_
    cases rv with
    | none =>
      cases rx with
      | none => exact hs3
      | some _ => exact g2.elim
    | some v =>
      cases rx with
      | none => exact g2.elim
      | some xv => exact ⟨g2, hs3⟩
end KSR
