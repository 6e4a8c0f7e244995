/-! ===== wk_pure is sound ===== -/
theorem wk_br_r {cd : ClassFile.Cond} {pc t : Nat} {off : Int} {P q : Option (Int × Int)} (h : wk_br cd pc off P q = some t) : ∃ (r r2 : Int × Int) (tgt : Nat) (b : Bool), P = some r ∧ q = some r2 ∧ (pc : Int) + off = (tgt : Int) ∧ wk_cnd cd r r2 = some b ∧ t = if b then tgt else pc + 3 := by
  unfold wk_br at h
  cases P with
  | none => cases h
  | some r => cases q with
    | none => cases h
    | some r2 => cases ht : wk_to pc off with
      | none => rw [ht] at h; cases h
      | some tgt =>
        rw [ht] at h
        cases hc : wk_cnd cd r r2 with
        | none => simp only [hc] at h; cases h
        | some b =>
          simp only [hc, Option.map_some, Option.some.injEq] at h
          exact ⟨r, r2, tgt, b, rfl, rfl, wk_to_r ht, hc, h.symm⟩
theorem wk_an_r {as : List Nat} {z : Nat → Nat} {ρ : Nat → Int32} {iv : wk_I} (hb : wk_bx ρ iv) (hρ : ρ 5 = ρ 0 &&& 63) {v w u : wk_V} {x y : Value} (h : wk_an iv v w = some u) (hw : wk_r as z ρ w x) (hv : wk_r as z ρ v y) : ∃ a b : Int32, x = .int a ∧ y = .int b ∧ wk_r as z ρ u (.int (a &&& b)) := by
  unfold wk_an at h
  split at h
  · cases h
    obtain ⟨j, rfl, j1, j2⟩ := hv
    cases hw
    have ej : j = 63 := wk_i32 (x := j) (a := 63) (by simp only at j1 j2; omega)
    subst ej
    refine ⟨ρ 0, 63, rfl, rfl, ?_⟩
    show Value.int (ρ 0 &&& 63) = Value.int (ρ 5)
    rw [hρ]
  · exact wk_o2_r (F := fun a b => a &&& b) hb h hw hv
theorem wk_il_r {as : List Nat} {z : Nat → Nat} {ρ : Nat → Int32} {iv : wk_I} (hb : wk_bx ρ iv) {v u : wk_V} {x : Value} (h : wk_il iv v = some u) (hv : wk_r as z ρ v x) : ∃ a : Int32, x = .int a ∧ wk_r as z ρ u (.long a.toInt64) := by
  unfold wk_il at h
  split at h
  · cases h
    cases hv
    exact ⟨_, rfl, rfl⟩
  · cases hg : wk_gi iv v with
    | none => rw [hg] at h; cases h
    | some q =>
      rw [hg] at h
      cases h
      obtain ⟨a, rfl, a1, a2⟩ := wk_gi_r hb hg hv
      exact ⟨a, rfl, a.toInt64, rfl, by rw [Int32.toInt_toInt64]; exact a1, by rw [Int32.toInt_toInt64]; exact a2⟩
section WKP
variable {p : Program} {l : Launch} {e : Env} {R : Room} {s : State} {m : MethodId} {args : Array Value} {below : List Frame} {meth : Method} {c : Code} {H : Heap} {locs : List Loc} {cells slots : Nat} {Q : State → Prop}
variable {cc : ByteArray} {pc : Nat} {ls : Array Slot} {rest : List Value}
variable {as : List Nat} {z : Nat → Nat} {ρ : Nat → Int32} {iv : wk_I} {AL AL' : wk_L} {AS AS' : List wk_V} {pc' : Nat} {nL : Nat}
set_option maxHeartbeats 4000000 in
theorem wk_pure_ok {own : String} {i : Instr} {n : Nat} {x : Int} {lv : List (Nat × Value)} {st : List Value} (hx : p.tables.exec = Jvm.exec) (hb : c.code = cc) (hown : s.vm.findClass own = some m.cls) (hd : decode cc pc = .ok (i, n)) (hlk : wk_lk i n = true)
    (hc1 : ∀ idx, i = .ldc idx ∨ i = .ldc_w idx → (Jvm.Cond.constant own idx (Int32.ofInt x)).before args s = true) (hc2 : ∀ idx, i = .ldc2_w idx → (Jvm.Cond.constantLong own idx (Int64.ofInt x)).before args s = true)
    (hbx : wk_bx ρ iv) (hρ : ρ 5 = ρ 0 &&& 63) (hp : wk_pure iv nL i x pc AL AS = some (pc', AL', AS')) (hl : lv_has ls nL lv) (ha : wk_f2 (wk_rl as z ρ) AL lv) (hs : wk_f2 (wk_r as z ρ) AS st)
    (kk : wk_go1 p l e R s m args below meth c H locs cells slots Q as z ρ nL pc' AL' AS') : W p l e R s m args below meth c H locs cells slots Q (F0 m pc ls st) := by
  cases i with
  | iconst k =>
    cases hp
    obtain rfl := Nat.eq_of_beq_eq_true hlk
    exact lv_iconst hx hb hd rfl (kk ls lv _ hl ha ⟨wk_sI_r _, hs⟩)
  | bipush k =>
    cases hp
    obtain rfl := Nat.eq_of_beq_eq_true hlk
    exact lv_bipush hx hb hd rfl (kk ls lv _ hl ha ⟨wk_sI_r _, hs⟩)
  | sipush k =>
    cases hp
    obtain rfl := Nat.eq_of_beq_eq_true hlk
    exact lv_sipush hx hb hd rfl (kk ls lv _ hl ha ⟨wk_sI_r _, hs⟩)
  | lconst k =>
    cases hp
    obtain rfl := Nat.eq_of_beq_eq_true hlk
    exact lv_lconst hx hb hd rfl (kk ls lv _ hl ha ⟨wk_sJ_r _, hs⟩)
  | ldc idx =>
    cases hp
    obtain rfl := Nat.eq_of_beq_eq_true hlk
    exact lv_ldc hx hb hown (hc1 idx (Or.inl rfl)) hd (kk ls lv _ hl ha ⟨wk_sI_r _, hs⟩)
  | ldc_w idx =>
    cases hp
    obtain rfl := Nat.eq_of_beq_eq_true hlk
    exact lv_ldcw hx hb hown (hc1 idx (Or.inr rfl)) hd (kk ls lv _ hl ha ⟨wk_sI_r _, hs⟩)
  | ldc2_w idx =>
    cases hp
    obtain rfl := Nat.eq_of_beq_eq_true hlk
    exact lv_ldc2 hx hb hown (hc2 idx rfl) hd (kk ls lv _ hl ha ⟨wk_sJ_r _, hs⟩)
  | iload_n k =>
    obtain rfl := Nat.eq_of_beq_eq_true hlk
    exact wk_ldi hbx hp hs hl ha (fun a h kw => lv_iload_n hx hb hd rfl h kw) kk
  | iload k =>
    obtain rfl := Nat.eq_of_beq_eq_true hlk
    exact wk_ldi hbx hp hs hl ha (fun a h kw => lv_iload hx hb hd h kw) kk
  | lload_n k =>
    obtain rfl := Nat.eq_of_beq_eq_true hlk
    exact wk_ldj hbx hp hs hl ha (fun a h kw => lv_lload_n hx hb hd rfl h kw) kk
  | lload k =>
    obtain rfl := Nat.eq_of_beq_eq_true hlk
    exact wk_ldj hbx hp hs hl ha (fun a h kw => lv_lload hx hb hd h kw) kk
  | aload_n k =>
    obtain rfl := Nat.eq_of_beq_eq_true hlk
    exact wk_lda hp hs hl ha (fun a h kw => lv_aload_n hx hb hd rfl h kw) kk
  | aload k =>
    obtain rfl := Nat.eq_of_beq_eq_true hlk
    exact wk_lda hp hs hl ha (fun a h kw => lv_aload hx hb hd h kw) kk
  | istore_n k =>
    obtain rfl := Nat.eq_of_beq_eq_true hlk
    rcases AS with _ | ⟨v, AS⟩
    · exact wk_no hp
    · exact wk_sti hbx hp hs hl ha (fun a lv' r h1 h2 kw => lv_istore_n hx hb hd rfl hl h1 h2 kw) kk
  | istore k =>
    obtain rfl := Nat.eq_of_beq_eq_true hlk
    rcases AS with _ | ⟨v, AS⟩
    · exact wk_no hp
    · exact wk_sti hbx hp hs hl ha (fun a lv' r h1 h2 kw => lv_istore hx hb hd hl h1 h2 kw) kk
  | lstore_n k =>
    obtain rfl := Nat.eq_of_beq_eq_true hlk
    rcases AS with _ | ⟨v, AS⟩
    · exact wk_no hp
    · exact wk_stj hbx hp hs hl ha (fun a lv' r h1 h2 kw => lv_lstore_n hx hb hd rfl hl h1 h2 kw) kk
  | lstore k =>
    obtain rfl := Nat.eq_of_beq_eq_true hlk
    rcases AS with _ | ⟨v, AS⟩
    · exact wk_no hp
    · exact wk_stj hbx hp hs hl ha (fun a lv' r h1 h2 kw => lv_lstore hx hb hd hl h1 h2 kw) kk
  | astore_n k =>
    obtain rfl := Nat.eq_of_beq_eq_true hlk
    rcases AS with _ | ⟨v, AS⟩
    · exact wk_no hp
    · exact wk_sta hp hs hl ha (fun a lv' r h1 h2 kw => lv_astore_n hx hb hd rfl hl h1 h2 kw) kk
  | astore k =>
    obtain rfl := Nat.eq_of_beq_eq_true hlk
    rcases AS with _ | ⟨v, AS⟩
    · exact wk_no hp
    · exact wk_sta hp hs hl ha (fun a lv' r h1 h2 kw => lv_astore hx hb hd hl h1 h2 kw) kk
  | iinc k d =>
    obtain rfl := Nat.eq_of_beq_eq_true hlk
    have hp : ((wk_get AL k).bind fun v => (wk_o2 iv (fun a b => a + b) v (wk_sI (Int32.ofInt d))).bind fun w => if k < nL then some ((pc + 3, wk_st1 AL k w, AS) : wk_P) else none) = some (pc', AL', AS') := hp
    cases hg : wk_get AL k with
    | none => rw [hg] at hp; cases hp
    | some v =>
      rw [hg] at hp
      simp only [Option.bind_some] at hp
      cases ho : wk_o2 iv (fun a b => a + b) v (wk_sI (Int32.ofInt d)) with
      | none => rw [ho] at hp; cases hp
      | some w =>
        rw [ho] at hp
        simp only [Option.bind_some] at hp
        split at hp
        · cases hp
          rename_i hk
          obtain ⟨y, h1, h2⟩ := wk_get_r (nL := nL) hl.2.2 ha hg
          obtain ⟨a, b, rfl, e2, hw⟩ := wk_o2_r hbx ho h2 (wk_sI_r (Int32.ofInt d))
          cases e2
          have hl2 : lv_has ls nL (lv ++ [(k, .int a)]) := ⟨hl.1, hl.2.1, fun q hq => by
            rcases List.mem_append.mp hq with h | h
            · exact hl.2.2 q h
            · rw [List.mem_singleton] at h
              subst h
              exact h1⟩
          refine lv_iinc (x := a) (lv := lv ++ [(k, .int a)]) (k := lv.length) hx hb hd hl2 (by simp) rfl hk rfl (fun ls' hl' => ?_)
          refine kk ls' _ st ⟨hl'.1, hl'.2.1, fun q hq => hl'.2.2 q ?_⟩ (wk_st1_r ha hw) hs
          rcases List.mem_cons.mp hq with h | h
          · exact List.mem_cons.mpr (Or.inl h)
          · refine List.mem_cons.mpr (Or.inr ?_)
            rw [List.filter_append]
            exact List.mem_append_left _ h
        · cases hp
  | goto off =>
    obtain rfl := Nat.eq_of_beq_eq_true hlk
    have hp : ((wk_to pc off).map fun t => ((t, AL, AS) : wk_P)) = some (pc', AL', AS') := hp
    cases ht : wk_to pc off with
    | none => rw [ht] at hp; cases hp
    | some t =>
      rw [ht] at hp
      cases hp
      exact lv_goto hx hb hd (wk_to_r ht) (kk ls lv st hl ha hs)
  | ifCond cd off =>
    obtain rfl := Nat.eq_of_beq_eq_true hlk
    rcases AS with _ | ⟨v, AS⟩
    · exact wk_no hp
    · have hp : ((wk_br cd pc off (wk_gi iv v) (some (0, 0))).map fun t => ((t, AL, AS) : wk_P)) = some (pc', AL', AS') := hp
      obtain ⟨y, st1, rfl, hv, hs1⟩ := wk_f2_cons hs
      cases ht : wk_br cd pc off (wk_gi iv v) (some (0, 0)) with
      | none => rw [ht] at hp; cases hp
      | some t =>
        rw [ht] at hp
        cases hp
        obtain ⟨r, r2, tgt, b, e1, e2, e3, e4, e5⟩ := wk_br_r ht
        cases e2
        obtain ⟨j, rfl, a1, a2⟩ := wk_gi_r hbx e1 hv
        have hh := wk_cnd_r (y := 0) e4 a1 a2 (by decide) (by decide)
        have k0 := kk ls lv st1 hl ha hs1
        refine wk_if hx hb hd e3 (fun q => ?_) (fun q => ?_)
        · rw [hh.mp q, if_pos rfl] at e5
          subst e5
          exact k0
        · have : b = false := by cases b; rfl; exact absurd (hh.mpr rfl) q
          rw [this, if_neg (by decide)] at e5
          subst e5
          exact k0
  | if_icmp cd off =>
    obtain rfl := Nat.eq_of_beq_eq_true hlk
    rcases AS with _ | ⟨v, _ | ⟨w, AS⟩⟩
    · exact wk_no hp
    · exact wk_no hp
    · have hp : ((wk_br cd pc off (wk_gi iv w) (wk_gi iv v)).map fun t => ((t, AL, AS) : wk_P)) = some (pc', AL', AS') := hp
      obtain ⟨y, st1, rfl, hv, hs1⟩ := wk_f2_cons hs
      obtain ⟨y2, st2, rfl, hw, hs2⟩ := wk_f2_cons hs1
      cases ht : wk_br cd pc off (wk_gi iv w) (wk_gi iv v) with
      | none => rw [ht] at hp; cases hp
      | some t =>
        rw [ht] at hp
        cases hp
        obtain ⟨r, r2, tgt, b, e1, e2, e3, e4, e5⟩ := wk_br_r ht
        obtain ⟨j, rfl, a1, a2⟩ := wk_gi_r hbx e1 hw
        obtain ⟨j2, rfl, b1, b2⟩ := wk_gi_r hbx e2 hv
        have hh := wk_cnd_r e4 a1 a2 b1 b2
        have k0 := kk ls lv st2 hl ha hs2
        refine wk_icmp hx hb hd e3 (fun q => ?_) (fun q => ?_)
        · rw [hh.mp q, if_pos rfl] at e5
          subst e5
          exact k0
        · have : b = false := by cases b; rfl; exact absurd (hh.mpr rfl) q
          rw [this, if_neg (by decide)] at e5
          subst e5
          exact k0
  | iadd =>
    obtain rfl := Nat.eq_of_beq_eq_true hlk
    rcases AS with _ | ⟨v, _ | ⟨w, AS⟩⟩
    · exact wk_no hp
    · exact wk_no hp
    · exact wk_bin hbx hp hs hl ha (fun a b r kw => lv_iadd hx hb hd kw) kk
  | isub =>
    obtain rfl := Nat.eq_of_beq_eq_true hlk
    rcases AS with _ | ⟨v, _ | ⟨w, AS⟩⟩
    · exact wk_no hp
    · exact wk_no hp
    · exact wk_bin hbx hp hs hl ha (fun a b r kw => lv_isub hx hb hd kw) kk
  | imul =>
    obtain rfl := Nat.eq_of_beq_eq_true hlk
    rcases AS with _ | ⟨v, _ | ⟨w, AS⟩⟩
    · exact wk_no hp
    · exact wk_no hp
    · exact wk_bin hbx hp hs hl ha (fun a b r kw => lv_imul hx hb hd kw) kk
  | iand =>
    obtain rfl := Nat.eq_of_beq_eq_true hlk
    rcases AS with _ | ⟨v, _ | ⟨w, AS⟩⟩
    · exact wk_no hp
    · exact wk_no hp
    · have hp : ((wk_an iv v w).map fun x => ((pc + 1, AL, x :: AS) : wk_P)) = some (pc', AL', AS') := hp
      obtain ⟨y, st1, rfl, hv, hs1⟩ := wk_f2_cons hs
      obtain ⟨y2, st2, rfl, hw, hs2⟩ := wk_f2_cons hs1
      cases ho : wk_an iv v w with
      | none => rw [ho] at hp; cases hp
      | some u =>
        rw [ho] at hp
        cases hp
        obtain ⟨a, b, rfl, rfl, hu⟩ := wk_an_r hbx hρ ho hw hv
        exact lv_iand hx hb hd (kk ls lv _ hl ha ⟨hu, hs2⟩)
  | ior =>
    obtain rfl := Nat.eq_of_beq_eq_true hlk
    rcases AS with _ | ⟨v, _ | ⟨w, AS⟩⟩
    · exact wk_no hp
    · exact wk_no hp
    · exact wk_bin hbx hp hs hl ha (fun a b r kw => lv_ior hx hb hd kw) kk
  | ixor =>
    obtain rfl := Nat.eq_of_beq_eq_true hlk
    rcases AS with _ | ⟨v, _ | ⟨w, AS⟩⟩
    · exact wk_no hp
    · exact wk_no hp
    · exact wk_bin hbx hp hs hl ha (fun a b r kw => lv_ixor hx hb hd kw) kk
  | ishl =>
    obtain rfl := Nat.eq_of_beq_eq_true hlk
    rcases AS with _ | ⟨v, _ | ⟨w, AS⟩⟩
    · exact wk_no hp
    · exact wk_no hp
    · exact wk_bin hbx hp hs hl ha (fun a b r kw => lv_ishl hx hb hd kw) kk
  | ishr =>
    obtain rfl := Nat.eq_of_beq_eq_true hlk
    rcases AS with _ | ⟨v, _ | ⟨w, AS⟩⟩
    · exact wk_no hp
    · exact wk_no hp
    · exact wk_bin hbx hp hs hl ha (fun a b r kw => lv_ishr hx hb hd kw) kk
  | idiv =>
    obtain rfl := Nat.eq_of_beq_eq_true hlk
    rcases AS with _ | ⟨v, _ | ⟨w, AS⟩⟩
    · exact wk_no hp
    · exact wk_no hp
    · exact wk_bind hbx hp hs hl ha (fun a b r h0 kw => lv_idiv hx hb hd h0 kw) kk
  | irem =>
    obtain rfl := Nat.eq_of_beq_eq_true hlk
    rcases AS with _ | ⟨v, _ | ⟨w, AS⟩⟩
    · exact wk_no hp
    · exact wk_no hp
    · exact wk_bind hbx hp hs hl ha (fun a b r h0 kw => lv_irem hx hb hd h0 kw) kk
  | ladd =>
    obtain rfl := Nat.eq_of_beq_eq_true hlk
    rcases AS with _ | ⟨v, _ | ⟨w, AS⟩⟩
    · exact wk_no hp
    · exact wk_no hp
    · exact wk_binj hbx hp hs hl ha (fun a b r kw => lv_ladd hx hb hd kw) kk
  | lsub =>
    obtain rfl := Nat.eq_of_beq_eq_true hlk
    rcases AS with _ | ⟨v, _ | ⟨w, AS⟩⟩
    · exact wk_no hp
    · exact wk_no hp
    · exact wk_binj hbx hp hs hl ha (fun a b r kw => lv_lsub hx hb hd kw) kk
  | lmul =>
    obtain rfl := Nat.eq_of_beq_eq_true hlk
    rcases AS with _ | ⟨v, _ | ⟨w, AS⟩⟩
    · exact wk_no hp
    · exact wk_no hp
    · exact wk_binj hbx hp hs hl ha (fun a b r kw => lv_lmul hx hb hd kw) kk
  | land =>
    obtain rfl := Nat.eq_of_beq_eq_true hlk
    rcases AS with _ | ⟨v, _ | ⟨w, AS⟩⟩
    · exact wk_no hp
    · exact wk_no hp
    · exact wk_binj hbx hp hs hl ha (fun a b r kw => lv_land hx hb hd kw) kk
  | lor =>
    obtain rfl := Nat.eq_of_beq_eq_true hlk
    rcases AS with _ | ⟨v, _ | ⟨w, AS⟩⟩
    · exact wk_no hp
    · exact wk_no hp
    · exact wk_binj hbx hp hs hl ha (fun a b r kw => lv_lor hx hb hd kw) kk
  | ldiv =>
    obtain rfl := Nat.eq_of_beq_eq_true hlk
    rcases AS with _ | ⟨v, _ | ⟨w, AS⟩⟩
    · exact wk_no hp
    · exact wk_no hp
    · exact wk_bindj hbx hp hs hl ha (fun a b r h0 kw => lv_ldiv hx hb hd h0 kw) kk
  | lrem =>
    obtain rfl := Nat.eq_of_beq_eq_true hlk
    rcases AS with _ | ⟨v, _ | ⟨w, AS⟩⟩
    · exact wk_no hp
    · exact wk_no hp
    · exact wk_bindj hbx hp hs hl ha (fun a b r h0 kw => lv_lrem hx hb hd h0 kw) kk
  | lshl =>
    obtain rfl := Nat.eq_of_beq_eq_true hlk
    rcases AS with _ | ⟨v, _ | ⟨w, AS⟩⟩
    · exact wk_no hp
    · exact wk_no hp
    · exact wk_bins hbx hp hs hl ha (fun a b r kw => lv_lshl hx hb hd rfl kw) kk
  | lshr =>
    obtain rfl := Nat.eq_of_beq_eq_true hlk
    rcases AS with _ | ⟨v, _ | ⟨w, AS⟩⟩
    · exact wk_no hp
    · exact wk_no hp
    · exact wk_bins hbx hp hs hl ha (fun a b r kw => lv_lshr hx hb hd rfl kw) kk
  | lushr =>
    obtain rfl := Nat.eq_of_beq_eq_true hlk
    rcases AS with _ | ⟨v, _ | ⟨w, AS⟩⟩
    · exact wk_no hp
    · exact wk_no hp
    · exact wk_bins hbx hp hs hl ha (fun a b r kw => lv_lushr hx hb hd rfl kw) kk
  | lcmp =>
    obtain rfl := Nat.eq_of_beq_eq_true hlk
    rcases AS with _ | ⟨v, _ | ⟨w, AS⟩⟩
    · exact wk_no hp
    · exact wk_no hp
    · have hp : ((wk_lc iv w v).map fun x => ((pc + 1, AL, x :: AS) : wk_P)) = some (pc', AL', AS') := hp
      obtain ⟨y, st1, rfl, hv, hs1⟩ := wk_f2_cons hs
      obtain ⟨y2, st2, rfl, hw, hs2⟩ := wk_f2_cons hs1
      cases ho : wk_lc iv w v with
      | none => rw [ho] at hp; cases hp
      | some u =>
        rw [ho] at hp
        cases hp
        obtain ⟨a, b, rfl, rfl, hu⟩ := wk_lc_r hbx ho hw hv
        exact W.lcmp hx hb hd (kk ls lv _ hl ha ⟨hu, hs2⟩)
  | ineg =>
    obtain rfl := Nat.eq_of_beq_eq_true hlk
    rcases AS with _ | ⟨v, AS⟩
    · exact wk_no hp
    · have hp : ((wk_o2 iv (fun a _ => -a) v (.inl (0, 0))).map fun x => ((pc + 1, AL, x :: AS) : wk_P)) = some (pc', AL', AS') := hp
      obtain ⟨y, st1, rfl, hv, hs1⟩ := wk_f2_cons hs
      cases ho : wk_o2 iv (fun a _ => -a) v (.inl (0, 0)) with
      | none => rw [ho] at hp; cases hp
      | some u =>
        rw [ho] at hp
        cases hp
        obtain ⟨a, b, rfl, -, hu⟩ := wk_o2_r hbx ho hv (y := .int 0) ⟨0, rfl, by decide, by decide⟩
        exact lv_ineg hx hb hd (kk ls lv _ hl ha ⟨hu, hs1⟩)
  | i2l =>
    obtain rfl := Nat.eq_of_beq_eq_true hlk
    rcases AS with _ | ⟨v, AS⟩
    · exact wk_no hp
    · have hp : ((wk_il iv v).map fun x => ((pc + 1, AL, x :: AS) : wk_P)) = some (pc', AL', AS') := hp
      obtain ⟨y, st1, rfl, hv, hs1⟩ := wk_f2_cons hs
      cases ho : wk_il iv v with
      | none => rw [ho] at hp; cases hp
      | some u =>
        rw [ho] at hp
        cases hp
        obtain ⟨a, rfl, hu⟩ := wk_il_r hbx ho hv
        exact lv_i2l hx hb hd rfl (kk ls lv _ hl ha ⟨hu, hs1⟩)
  | l2i =>
    obtain rfl := Nat.eq_of_beq_eq_true hlk
    rcases AS with _ | ⟨v, AS⟩
    · exact wk_no hp
    · have hp : ((wk_gj iv v).map fun p => ((pc + 1, AL, (if p.1 = p.2 then wk_sI (Int64.ofInt p.1).toInt32 else wk_tI) :: AS) : wk_P)) = some (pc', AL', AS') := hp
      obtain ⟨y, st1, rfl, hv, hs1⟩ := wk_f2_cons hs
      cases hg : wk_gj iv v with
      | none => rw [hg] at hp; cases hp
      | some q =>
        rw [hg] at hp
        cases hp
        obtain ⟨a, rfl, a1, a2⟩ := wk_gj_r hbx hg hv
        refine lv_l2i hx hb hd rfl (kk ls lv _ hl ha ⟨?_, hs1⟩)
        split
        · rename_i hq
          rw [wk_i64 (x := a) (a := q.1) (by omega)]
          exact wk_sI_r _
        · exact wk_tI_r _
  | dup =>
    obtain rfl := Nat.eq_of_beq_eq_true hlk
    rcases AS with _ | ⟨v, AS⟩
    · exact wk_no hp
    · have hp : (if wk_c1 v then some ((pc + 1, AL, v :: v :: AS) : wk_P) else none) = some (pc', AL', AS') := hp
      obtain ⟨y, st1, rfl, hv, hs1⟩ := wk_f2_cons hs
      split at hp
      · cases hp
        rename_i h1
        exact lv_dup hx hb hd (wk_c1_r h1 hv) (kk ls lv _ hl ha ⟨hv, hv, hs1⟩)
      · cases hp
  | dup_x1 =>
    obtain rfl := Nat.eq_of_beq_eq_true hlk
    rcases AS with _ | ⟨v, _ | ⟨w, AS⟩⟩
    · exact wk_no hp
    · exact wk_no hp
    · have hp : (if wk_c1 v ∧ wk_c1 w then some ((pc + 1, AL, v :: w :: v :: AS) : wk_P) else none) = some (pc', AL', AS') := hp
      obtain ⟨y, st1, rfl, hv, hs1⟩ := wk_f2_cons hs
      obtain ⟨y2, st2, rfl, hw, hs2⟩ := wk_f2_cons hs1
      split at hp
      · cases hp
        rename_i h1
        exact lv_dup_x1 hx hb hd (wk_c1_r h1.1 hv) (wk_c1_r h1.2 hw) (kk ls lv _ hl ha ⟨hv, hw, hv, hs2⟩)
      · cases hp
  | dup2 =>
    obtain rfl := Nat.eq_of_beq_eq_true hlk
    rcases AS with _ | ⟨v, _ | ⟨w, AS⟩⟩
    · exact wk_no hp
    · exact wk_no hp
    · have hp : (if wk_c1 v ∧ wk_c1 w then some ((pc + 1, AL, v :: w :: v :: w :: AS) : wk_P) else none) = some (pc', AL', AS') := hp
      obtain ⟨y, st1, rfl, hv, hs1⟩ := wk_f2_cons hs
      obtain ⟨y2, st2, rfl, hw, hs2⟩ := wk_f2_cons hs1
      split at hp
      · cases hp
        rename_i h1
        exact lv_dup2_11 hx hb hd (wk_c1_r h1.1 hv) (wk_c1_r h1.2 hw) (kk ls lv _ hl ha ⟨hv, hw, hv, hw, hs2⟩)
      · cases hp
  | pop =>
    obtain rfl := Nat.eq_of_beq_eq_true hlk
    rcases AS with _ | ⟨v, AS⟩
    · exact wk_no hp
    · have hp : (if wk_c1 v then some ((pc + 1, AL, AS) : wk_P) else none) = some (pc', AL', AS') := hp
      obtain ⟨y, st1, rfl, hv, hs1⟩ := wk_f2_cons hs
      split at hp
      · cases hp
        rename_i h1
        exact lv_pop hx hb hd (wk_c1_r h1 hv) (kk ls lv _ hl ha hs1)
      · cases hp
  | tableswitch dft lo hi offs =>
    rcases AS with _ | ⟨v, AS⟩
    · exact wk_no hp
    · have hp : ((wk_gi iv v).bind fun p => if p.1 = p.2 then (if p.1 < lo ∨ hi < p.1 then (wk_to pc dft).map fun t => ((t, AL, AS) : wk_P) else (offs[(p.1 - lo).toNat]?.bind fun o => wk_to pc o).map fun t => (t, AL, AS)) else if p.2 < lo ∨ hi < p.1 then (wk_to pc dft).map fun t => (t, AL, AS) else none) = some (pc', AL', AS') := hp
      obtain ⟨y, st1, rfl, hv, hs1⟩ := wk_f2_cons hs
      cases hg : wk_gi iv v with
      | none => rw [hg] at hp; cases hp
      | some q =>
        rw [hg] at hp
        simp only [Option.bind_some] at hp
        obtain ⟨a, rfl, a1, a2⟩ := wk_gi_r hbx hg hv
        split at hp
        · rename_i hq
          have ea : a.toInt = q.1 := by omega
          split at hp
          · rename_i ho
            cases ht : wk_to pc dft with
            | none => rw [ht] at hp; cases hp
            | some t =>
              rw [ht] at hp
              cases hp
              exact lv_tableOut hx hb hd (by rw [ea]; exact ho) (wk_to_r ht) (kk ls lv _ hl ha hs1)
          · rename_i ho
            cases hof : offs[(q.1 - lo).toNat]? with
            | none => rw [hof] at hp; cases hp
            | some o =>
              rw [hof] at hp
              simp only [Option.bind_some] at hp
              cases ht : wk_to pc o with
              | none => rw [ht] at hp; cases hp
              | some t =>
                rw [ht] at hp
                cases hp
                exact lv_tableIn hx hb hd (by rw [ea]; exact fun z => ho (Or.inl z)) (by rw [ea]; exact fun z => ho (Or.inr z)) (by rw [ea]; exact hof) (wk_to_r ht) (kk ls lv _ hl ha hs1)
        · split at hp
          · rename_i ho
            cases ht : wk_to pc dft with
            | none => rw [ht] at hp; cases hp
            | some t =>
              rw [ht] at hp
              cases hp
              exact lv_tableOut hx hb hd (by omega) (wk_to_r ht) (kk ls lv _ hl ha hs1)
          · cases hp
  | _ => exact wk_no hp
end WKP
