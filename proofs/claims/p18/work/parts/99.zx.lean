/-! ===== the law's start in the engine's words ===== -/
def R_law : String := "EvenSidesLaw"
def lw_P (b : Addr) (xs : List Int32) (args : Array Value) (s : State) : Prop := args = #[.ref b] ∧ s.IntsAt b xs ∧ xs.length ≤ 320 ∧ (Jvm.Cond.and given_1 narrow_1).before args s = true
def lw_Q (_ : Array Value) (s : State) (o : Outcome) (t : State) : Prop := o = .returned (some (.int 1)) ∧ Framed s o t [] 600000 7302250
def lw_Z (below : List Frame) (a : Array Value) (s : State) : State → Prop := fun t => ∃ o, t.status = .running ∧ Ended t below o ∧ lw_Q a s o t
def lw_At (p : Program) (s : State) (m : MethodId) (meth : Method) (c : Code) (b L : Nat) (xs : Nat → Int32) : Prop :=
  p.tables.exec = Jvm.exec ∧ c.code = code ∧ meth.sig.returnType = ret ∧ c.maxLocals = 4 ∧ s.vm.findClass R_law = some m.cls ∧ (∀ w ∈ lw_tbl, w.before #[Value.ref b] s = true) ∧ va_X b L xs s s.heap ∧ b < s.heap.size ∧ meth.locks = false ∧ meth.name = "law"
/-- places of 'instantiable' -/
def wk_insp : List Nat := [272, 477, 458, 333, 230, 427, 373, 139, 131, 1257]
def wk_insb (ci : Nat) : Bool := match wk_fl[ci]?, wk_insp[ci]? with
  | some q, some n => wk_has n (.instantiable q.1 q.2.length)
  | _, _ => false
set_option maxRecDepth 100000 in
theorem wk_ins_ok : ((List.range 10).all wk_insb) = true := by decide +kernel
theorem wk_ins_at {ci : Nat} {r : vw_C} (h : wk_cl[ci]? = some r) : Cond.instantiable r.1 r.2.2 ∈ wk_tbl := by
  obtain ⟨hc, q, hq, rfl⟩ := wk_cl_at h
  have h1 := List.all_eq_true.mp wk_ins_ok ci (List.mem_range.mpr hc)
  unfold wk_insb at h1
  rw [hq] at h1
  split at h1
  · rename_i q' n e1 e2
    cases e1
    exact wk_has_in h1
  · cases h1
theorem wk_D_ex {s : State} {args : Array Value} (hts : ∀ w ∈ wk_tbl, w.before args s = true) : ∃ D : va_G, va_K D wk_cl [] s := by
  have h : ∀ k : Nat, ∃ (cC : ClassId) (iS : Nat → Nat), ∀ r : vw_C, wk_cl[k]? = some r → u_Kn s r.1 r.2.1 r.2.2 cC iS := by
    intro k
    cases hk : wk_cl[k]? with
    | none => exact ⟨0, fun _ => 0, fun r hr => by cases hr⟩
    | some r =>
      obtain ⟨cC, iS, hK⟩ := u_known (C := r.1) (T := r.2.1) (N := r.2.2) (n := r.2.2) hts (wk_cl_in hk) (hts _ (wk_ins_at hk))
      exact ⟨cC, iS, fun r2 hr => by cases hr; exact hK⟩
  refine ⟨(fun k => Classical.choose (h k), fun k => Classical.choose (Classical.choose_spec (h k))), fun k r hr => Classical.choose_spec (Classical.choose_spec (h k)) r hr, fun k q hq => by simp at hq⟩
theorem wk_kk_start {s : State} {args : Array Value} {D : va_G} (hts : ∀ w ∈ lw_tbl, w.before args s = true) (hK : va_K D wk_cl [] s) : wk_kk D s := by
  refine ⟨hK, fun a i x h hm => va_Nw.of rfl (hts _ (List.mem_filter.mp hm).1), va_AO.of (hts _ (List.mem_of_getElem? (i := 228) (by decide +kernel))), ?_⟩
  exact Jvm.Stand.arrayOver_alikeB (s := s) (Vm.Alike.refl _) (hts (Cond.arrayOver (.array .int)) (List.mem_of_getElem? (i := 145) (by decide +kernel)))
theorem kZ_end {below : List Frame} {args : Array Value} {s t : State} (h : MQ below (kc_B (fun rx _ => rx = some (.int 1)) (fun q => s.heap.size ≤ q)) args s 289 10466 (fun q => s.heap.size ≤ q) t) : lw_Z below args s t := by
  obtain ⟨o, h1, h2, ⟨⟨rx, h3, h4⟩, -⟩, J, ⟨h6, h7, h8⟩, h9⟩ := h
  subst h4
  subst h3
  exact ⟨_, h1, h2, rfl, h6, h7, h8.weaken (fun y hy hlt => absurd hlt (Nat.not_lt.mpr (h9 y hy))) (by decide) (by decide)⟩
theorem whole_start {p : Program} {e : Env} {s : State} {m : MethodId} {below : List Frame} {meth : Method} {c : Code} (l : Launch) {b L : Nat} {xs : Nat → Int32} (hL : L ≤ 320) (hgv : (Jvm.Cond.and given_1 narrow_1).before #[Value.ref b] s = true) (C0 : lw_At p s m meth c b L xs) : W p l e room_1 s m #[Value.ref b] below meth c s.heap [] 0 0 (lw_Z below #[Value.ref b] s) (entryFrame m ([Value.ref b] : List Value).toArray 4) := by
  obtain ⟨hx, hbb, hr, hml, hown, hts, hX, hbl, hlocks, hname⟩ := C0
  have hts2 : ∀ w ∈ wk_tbl, w.before #[Value.ref b] s = true := fun w hw => hts w (wk_tbl_in hw)
  obtain ⟨D, hK⟩ := wk_D_ex hts2
  have hkk := wk_kk_start hts hK
  obtain ⟨z, hz0, hS⟩ := kn_S (A := fun q => s.heap.size ≤ q) hgv hts (fun a ha => Nat.not_le.mpr ha) b
  have hX2 : va_X (z 0) L xs s s.heap := by rw [hz0]; exact hX
  have hzl : z 0 < s.heap.size := by rw [hz0]; exact hbl
  have C : wk_cx p s m #[Value.ref b] meth c (wk_Mb wk_mL) (wk_My wk_mL) (wk_Ml wk_mL) D (fun q => s.heap.size ≤ q) z L xs := ⟨hx, hbb, hml, hown, hts2, hkk, fun _ h => h, hname, ⟨hX2, hS⟩, hzl, Nat.not_le.mpr hzl, by omega⟩
  have hF : kc_fix (l, D, (fun q => s.heap.size ≤ q), z, L, xs) 40 wk_mL p room_1 s m #[Value.ref b] meth c := ⟨C, hr, hlocks, by decide, by decide, wk_L_ok⟩
  have hg : kc_ok (l, D, (fun q => s.heap.size ≤ q), z, L, xs) := ⟨Nat.not_le.mpr hzl, by show L < 2 ^ 31; omega⟩
  have hcall : ∀ id M2 av iv AH fs, wk_mt id = some M2 → kS_run wk_mt 100000 10 id av iv AH = some fs → wk_bx xs iv → ∃ d2, d2 + 1 ≤ 10 ∧ ∀ (as : List Nat) (ws : va_W) (vals : List Value), wk_f2 (wk_r as z xs) av vals → Met l (wk_My M2) (wk_ws M2) (wk_rm M2 d2) (wk_Pc D (fun q => s.heap.size ≤ q) z L xs vals AH as ws) (wk_Qc D (fun q => s.heap.size ≤ q) z xs fs as ws) (wk_Mk M2) (wk_Ms M2) (fun q => s.heap.size ≤ q) := fun id M2 av iv AH fs q1 q2 q3 => kS_run_ok 100000 wk_mt_ok (Nat.not_le.mpr hzl) (by omega) 10 id M2 av iv AH fs q1 q2 q3
  have key := kS_go_ok (p := p) (l := l) (e := e) (R := room_1) (below := below) (d := 10) (L := []) (as0 := []) (ws0 := []) (Z := MQ below (kc_B (fun rx _ => rx = some (.int 1)) (fun q => s.heap.size ≤ q)) #[Value.ref b] s 289 10466 (fun q => s.heap.size ≤ q)) (cut := fun _ pc AL AS AH nc ns _ => kS_is pc AL AS AH nc ns) (call := kS_run wk_mt 100000 10)
    (fun t h => by
      obtain ⟨o, h1, h2, ⟨⟨f, hf, -⟩, -⟩, -⟩ := h
      cases hf) wk_mt_ok wk_L_ok C hr hlocks
    (fun iv pc AL AS AH nc ns wrs hc => by
      obtain ⟨rfl, rfl, rfl, rfl, rfl, rfl⟩ := kS_is_r hc
      exact ⟨by decide, rfl⟩) (by decide) (by decide) (by decide) (by decide) hcall rfl
    (fun iv pc AL AS AH nc ns wrs hc => by
      obtain ⟨rfl, rfl, rfl, rfl, rfl, rfl⟩ := kS_is_r hc
      intro _ _ _ H locs more ws ls lv st hS1 hr1 hl1 ha1 hs1 _
      rw [← kh_A] at hr1
      exact kL_loop (g := (l, D, (fun q => s.heap.size ≤ q), z, L, xs)) (e := e) (below := below) (as := more) hg hF (by decide) (by decide) (show L < 2147483000 by omega) (L + 6) 0 kh0 (show L + 5 - 0 < L + 6 by omega) (Nat.zero_le _) fh_Inv H locs ws ls lv st hS1 hr1 hl1 ha1 hs1) 100000 [] 0 [(0, .inr (.inr (.inr (2, 0))))] [] wk_AH0 0 0 [] [] kS_pre_r (fun f hf => by cases hf) (fun j q hj => by simp at hj) (Nat.zero_le _) (Nat.zero_le _)
  rw [lg_entry_eq]
  have hl := lv_entry [.ref b] (n := 4) (Nat.le_of_ble_eq_true rfl)
  have hw := key s.heap [] [] [] _ _ [] va_S.rf ⟨fun k q hk => by simp at hk, ⟨fun i j x y hi => by simp at hi, fun k q hk => by simp at hk⟩, rfl, rfl, fun k cl hk => absurd hk (Nat.not_lt_zero _)⟩ hl ⟨⟨rfl, show Value.ref b = .ref (z 0) by rw [hz0]⟩, trivial⟩ trivial (fun j hj => absurd hj (Nat.not_lt_zero _))
  intro T hT X
  obtain ⟨t, a1, b1⟩ := hw T hT X
  exact ⟨t, a1, kZ_end b1⟩
set_option maxHeartbeats 4000000 in
theorem lw_walk (l : Launch) (b : Addr) (xs : List Int32) : MetFree l x (headSpec (Jvm.Cond.code x code maxLocals ret :: tables_1) room_1) (lw_P b xs) (fun _ _ _ _ _ => True) lw_Q := by
  refine MetFree.of_bodyS (code := code) (maxLocals := maxLocals) (ret := ret) (by decide) ?_ ?_
  · intro args s m h hn
    obtain ⟨meth, c, h1, h2, h3, h4, h5, h6, -, -⟩ := Cond.code_spec hn (atoms_spec (ws := Jvm.Cond.code x code maxLocals ret :: tables_1) h _ List.mem_cons_self)
    exact ⟨meth, c, h1, h2, h3, h4, h5, h6⟩
  · intro p e s m args below meth c s₁ B hml0 hP _
    obtain ⟨rfl, hx, hbd, hgv⟩ := hP
    obtain ⟨scr, harrAt, hlist, hof, hsmall⟩ := hx
    obtain ⟨hcb, hkn, -, -⟩ := State.arrayAt?_spec harrAt
    have hown : s.vm.findClass R_law = some m.cls := findClass_of_methodNamed B.named
    have hts0 : ∀ c ∈ (Jvm.Cond.code x code maxLocals ret :: tables_1), c.before #[Value.ref b] s = true := atoms_spec (ws := Jvm.Cond.code x code maxLocals ret :: tables_1) B.pre
    have hts : ∀ w ∈ lw_tbl, w.before #[Value.ref b] s = true := k2_hts_sels lw_privs (fun w hw => hts0 w (List.mem_cons_of_mem _ hw)) lw_privs_ok
    have hml : c.maxLocals = 4 := B.maxLocals_eq (hts0 _ List.mem_cons_self)
    have X₀ : Stand p l e room_1 s m #[Value.ref b] below meth c s₁ [] 0 0 := Stand.of_body B
    have hh0 : s₁.heap = s.heap := by rw [B.state]; rfl
    have hsz : scr.slots.size = xs.length := by rw [← Array.length_toList, hlist, List.length_map]
    have hval : ∀ j : Nat, j < xs.length → scr.slots[j]? = some (.int (xs.getD j 0)) := fun j hj => by
      rw [← Array.getElem?_toList, hlist]
      simp [hj]
    have hbl : b < s.heap.size := (Array.getElem?_eq_some_iff.mp hcb).1
    have hX : va_X b xs.length (fun j => xs.getD j 0) s s.heap := ⟨scr, hcb, hof, hkn, hsz, hval⟩
    have K : W p l e room_1 s m #[Value.ref b] below meth c s₁.heap [] 0 0 (lw_Z below #[Value.ref b] s) (entryFrame m ([Value.ref b] : List Value).toArray 4) := by
      rw [hh0]
      exact whole_start l hbd hgv ⟨B.exec, B.bytes, B.returns, hml, hown, hts, hX, hbl, B.notSynchronized, (name_of_methodNamed B.named B.method).1⟩
    obtain ⟨t, a1, o, b1, b2, b3⟩ := K s₁ rfl X₀
    exact ⟨t, o, a1, b1, b2, b3⟩
theorem lw_pre_spec {args : Array Value} {s : State} (h : (Jvm.Cond.and given_1 narrow_1).before args s = true) (hr : rest_1_c.before args s = true) : ∃ (b : Addr) (xs : List Int32), lw_P b xs args s := by
  have hs := flat_of_before _ h
  have hq := flat_of_before _ hr
  have hc : (Cond.count 1).before args s = true := hs _ (by decide +kernel)
  have harr : (Cond.arrayOf (.arg 0) .int).before args s = true := hs _ (by decide +kernel)
  have hle : (Cond.le (.length (.arg 0)) (.int 320)).before args s = true := hs _ (by decide +kernel)
  have hlen : (Cond.isInt (.length (.arg 0))).before args s = true := hq _ (by decide +kernel)
  have hall : (Cond.all (.arg 0) (.isInt (.elem (.arg 0) (.index 0)))).before args s = true := hq _ (by decide +kernel)
  obtain ⟨b, xs, hb, hx⟩ := State.ints_of_pre rfl harr hlen hall
  have hsm : xs.length < 2 ^ 31 := hx.choose_spec.2.2.2
  have hev : (Term.length (.arg 0)).eval args s none [] s = some (.int xs.length.toInt32) := hx.length_eval hb
  have hv := Cond.le_ints hev (show (Term.int 320).eval args s none [] s = some (.int 320) from rfl)
  have hd : xs.length.toInt32 ≤ 320 := by
    simpa [Cond.before, Cond.holds, hv] using hle
  have hN : xs.length ≤ 320 := (Int32.ofNat_le_ofNat hsm (by decide)).mp (show Int32.ofNat xs.length ≤ Int32.ofNat 320 from hd)
  exact ⟨b, xs, Cond.one_arg hc (show args[0]? = some (.ref b) from hb), hx, hN, h⟩
theorem lw_comes (l : Launch) : Comes l x (Jvm.Cond.code x code maxLocals ret :: tables_1) room_1 (fun tb e args s => Calls_1 tb e args s ∧ rest_1 tb e args s ∧ Pre_1 tb e args s)
    (fun _ _ args s o t => lw_Q args s o t) := by
  intro p e ha hc hk s m args below hf hfit hheap happ hpre
  obtain ⟨b, xs, hP⟩ := lw_pre_spec hpre.2.2 hpre.2.1
  obtain ⟨k, o, h1, h2, h3, hQ⟩ := lw_walk l b xs p e ha hc hk s m args below hf ((Spec.applies_iff_loose hf).mp happ).1 hP trivial
  exact ⟨k, o, h1, h2, h3, hQ⟩
theorem lw_frame {s t : State} {o : Outcome} {args : Array Value} (h : Framed s o t [] 600000 7302250) :
    Framed s o t (fieldLocs frame_1_writes args s ++ arrayLocs frame_1_arrays args s ++ staticLocs frame_1_statics s) 600000 7302250 := h
theorem lw_limb (L : Cond) (hL : ∀ (args : Array Value) (s t : State), L.after args s (.returned (some (.int 1))) t = true) :
    ArmFor flags0 classFile x code maxLocals ret World_1 tables_1 room_1 Calls_1 rest_1 Pre_1
      (fun tb e a s o t => postC L tb e a s o t ∧ Framed s o t (fieldLocs frame_1_writes a s ++ arrayLocs frame_1_arrays a s ++ staticLocs frame_1_statics s) 600000 7302250) := by
  intro l _ _ _ p e ha hc hk s m args below hf hfit hheap happ hpre
  obtain ⟨k, o, h1, h2, h3, rfl, hF⟩ := lw_comes l p e ha hc hk s m args below hf hfit hheap happ hpre
  exact ⟨k, _, h1, h2, h3, hL args s _, lw_frame hF⟩
theorem i_vc : Claimed_1_1 ∧ Claimed_1_2 := ⟨lw_limb limb_1_1 (fun args s t => by simp [limb_1_1, Cond.after, Cond.holds, Cond.value]), lw_limb limb_1_2 (fun args s t => Cond.after_iff.mpr (by
  first | (rw [show limb_1_2 = Cond.eq .result (.int 1) from rfl, Cond.eq_ints (x := 1) (y := 1) rfl rfl]; simp; done) | (simp [limb_1_2, Cond.value, Term.eval]; done)))⟩
