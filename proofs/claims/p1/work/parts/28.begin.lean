/-! ===== the law's start in the engine's words ===== -/
def R_law : String := "EvenSidesLaw"
def lw_P (b : Addr) (xs : List Int32) (args : Array Value) (s : State) : Prop := args = #[.ref b] ∧ s.IntsAt b xs ∧ xs.length ≤ 5 ∧ (Jvm.Cond.and given_1 narrow_1).before args s = true
def lw_Q (_ : Array Value) (s : State) (o : Outcome) (t : State) : Prop := o = .returned (some (.int 1)) ∧ Framed s o t [] 600000 7302250
def lw_Z (below : List Frame) (a : Array Value) (s : State) : State → Prop := fun t => ∃ o, t.status = .running ∧ Ended t below o ∧ lw_Q a s o t
def lw_At (p : Program) (s : State) (m : MethodId) (meth : Method) (c : Code) (b L : Nat) (xs : Nat → Int32) : Prop :=
  p.tables.exec = Jvm.exec ∧ c.code = code ∧ meth.sig.returnType = ret ∧ c.maxLocals = 4 ∧ s.vm.findClass R_law = some m.cls ∧ (∀ w ∈ lw_tbl, w.before #[Value.ref b] s = true) ∧ va_X b L xs s s.heap ∧ b < s.heap.size ∧ meth.locks = false ∧ meth.name = "law"
/-- places of 'instantiable' -/
def wk_insp : List Nat := [272, 477, 458, 333, 230, 427, 373, 139, 131, 1257]
def wk_insb (ci : Nat) : Bool := match wk_fl[ci]?, wk_insp[ci]? with
  | some q, some n => wk_has n (.instantiable q.1 q.2.length)
  | _, _ => false
set_option maxRecDepth 100000 in
theorem wk_ins_ok : ((List.range 10).all wk_insb) = true := by decide +kernel
theorem wk_ins_at {ci : Nat} {r : vw_C} (h : wk_cl[ci]? = some r) : Cond.instantiable r.1 r.2.2 ∈ wk_tbl := by
  obtain ⟨hc, q, hq, rfl⟩ := wk_cl_at h
  have h1 := List.all_eq_true.mp wk_ins_ok ci (List.mem_range.mpr hc)
  unfold wk_insb at h1
  rw [hq] at h1
  split at h1
  · rename_i q' n e1 e2
    cases e1
    exact wk_has_in h1
  · cases h1
theorem wk_D_ex {s : State} {args : Array Value} (hts : ∀ w ∈ wk_tbl, w.before args s = true) : ∃ D : va_G, va_K D wk_cl [] s := by
  have h : ∀ k : Nat, ∃ (cC : ClassId) (iS : Nat → Nat), ∀ r : vw_C, wk_cl[k]? = some r → u_Kn s r.1 r.2.1 r.2.2 cC iS := by
    intro k
    cases hk : wk_cl[k]? with
    | none => exact ⟨0, fun _ => 0, fun r hr => by cases hr⟩
    | some r =>
      obtain ⟨cC, iS, hK⟩ := u_known (C := r.1) (T := r.2.1) (N := r.2.2) (n := r.2.2) hts (wk_cl_in hk) (hts _ (wk_ins_at hk))
      exact ⟨cC, iS, fun r2 hr => by cases hr; exact hK⟩
  refine ⟨(fun k => Classical.choose (h k), fun k => Classical.choose (Classical.choose_spec (h k))), fun k r hr => Classical.choose_spec (Classical.choose_spec (h k)) r hr, fun k q hq => by simp at hq⟩
theorem wk_kk_start {s : State} {args : Array Value} {D : va_G} (hts : ∀ w ∈ lw_tbl, w.before args s = true) (hK : va_K D wk_cl [] s) : wk_kk D s := by
  refine ⟨hK, fun a i x h hm => va_Nw.of rfl (hts _ (List.mem_filter.mp hm).1), va_AO.of (hts _ (List.mem_of_getElem? (i := 228) (by decide +kernel))), ?_⟩
  exact Jvm.Stand.arrayOver_alikeB (s := s) (Vm.Alike.refl _) (hts (Cond.arrayOver (.array .int)) (List.mem_of_getElem? (i := 145) (by decide +kernel)))
def wk_qV (v w : wk_V) : Bool := match v, w with
  | .inl (a, b), .inl (c, d) => decide (a = c) && decide (b = d)
  | .inr (.inl (a, b)), .inr (.inl (c, d)) => decide (a = c) && decide (b = d)
  | .inr (.inr (.inl none)), .inr (.inr (.inl none)) => true
  | .inr (.inr (.inl (some a))), .inr (.inr (.inl (some b))) => Nat.beq a b
  | .inr (.inr (.inr (a, b))), .inr (.inr (.inr (c, d))) => Nat.beq a c && Nat.beq b d
  | _, _ => false
theorem wk_qV_r {v w : wk_V} (h : wk_qV v w = true) : v = w := by
  unfold wk_qV at h
  split at h
  · rw [Bool.and_eq_true, decide_eq_true_eq, decide_eq_true_eq] at h
    rw [h.1, h.2]
  · rw [Bool.and_eq_true, decide_eq_true_eq, decide_eq_true_eq] at h
    rw [h.1, h.2]
  · rfl
  · rw [Nat.eq_of_beq_eq_true h]
  · rw [Bool.and_eq_true] at h
    rw [Nat.eq_of_beq_eq_true h.1, Nat.eq_of_beq_eq_true h.2]
  · cases h
def wk_qL {α : Type} (f : α → α → Bool) : List α → List α → Bool
  | [], [] => true
  | a :: l, b :: m => f a b && wk_qL f l m
  | _, _ => false
theorem wk_qL_r {α : Type} {f : α → α → Bool} (hf : ∀ a b, f a b = true → a = b) : ∀ {l m : List α}, wk_qL f l m = true → l = m
  | [], [], _ => rfl
  | [], _ :: _, h => by cases h
  | _ :: _, [], h => by cases h
  | a :: l, b :: m, h => by
    have h : (f a b && wk_qL f l m) = true := h
    rw [Bool.and_eq_true] at h
    rw [hf a b h.1, wk_qL_r hf h.2]
def wk_qC (c d : wk_C) : Bool := match c, d with
  | .inl (t, n, vs), .inl (t2, n2, vs2) => Nat.beq t t2 && (Nat.beq n n2 && wk_qL (wk_qL wk_qV) vs vs2)
  | .inr (t, fs), .inr (t2, fs2) => Nat.beq t t2 && wk_qL wk_qV fs fs2
  | _, _ => false
theorem wk_qC_r {c d : wk_C} (h : wk_qC c d = true) : c = d := by
  unfold wk_qC at h
  split at h
  · simp only [Bool.and_eq_true] at h
    rw [Nat.eq_of_beq_eq_true h.1, Nat.eq_of_beq_eq_true h.2.1, wk_qL_r (fun a b q => wk_qL_r (fun a b q => wk_qV_r q) q) h.2.2]
  · simp only [Bool.and_eq_true] at h
    rw [Nat.eq_of_beq_eq_true h.1, wk_qL_r (fun a b q => wk_qV_r q) h.2]
  · cases h
def wk_isS1 (pc : Nat) (AL : wk_L) (AS : List wk_V) (AH : wk_A) (nc ns : Nat) : Bool :=
  Nat.beq pc 18 && (wk_qL (fun a b => Nat.beq a.1 b.1 && wk_qV a.2 b.2) AL wk_AL1 && (AS.isEmpty && (Nat.beq AH.1 wk_AH1.1 && (wk_qL (wk_qL wk_qC) AH.2 wk_AH1.2 && (Nat.beq nc 289 && Nat.beq ns 10466)))))
theorem wk_isS1_r {pc : Nat} {AL : wk_L} {AS : List wk_V} {AH : wk_A} {nc ns : Nat} (h : wk_isS1 pc AL AS AH nc ns = true) : pc = 18 ∧ AL = wk_AL1 ∧ AS = [] ∧ AH = wk_AH1 ∧ nc = 289 ∧ ns = 10466 := by
  unfold wk_isS1 at h
  simp only [Bool.and_eq_true] at h
  obtain ⟨h1, h2, h3, h4, h5, h6, h7⟩ := h
  refine ⟨Nat.eq_of_beq_eq_true h1, wk_qL_r (fun a b q => ?_) h2, List.isEmpty_iff.mp h3, ?_, Nat.eq_of_beq_eq_true h6, Nat.eq_of_beq_eq_true h7⟩
  · rw [Bool.and_eq_true] at q
    exact Prod.ext (Nat.eq_of_beq_eq_true q.1) (wk_qV_r q.2)
  · exact Prod.ext (Nat.eq_of_beq_eq_true h4) (wk_qL_r (fun a b q => wk_qL_r (fun a b q => wk_qC_r q) q) h5)
def wk_all1 (L : List wk_F) : Bool := L.all fun f => match f.2.1 with
  | some (.inl (a, b)) => decide (a = 1) && decide (b = 1)
  | _ => false
theorem wk_end {below : List Frame} {args : Array Value} {s t : State} {D : va_G} {z : Nat} {ρ : Nat → Int32} {L : List wk_F} (hL : wk_all1 L = true) (h : MQ below (wk_Qc D (fun q => s.heap.size ≤ q) z ρ L []) args s (wk_Mk wk_mL) (wk_Ms wk_mL) (fun q => s.heap.size ≤ q) t) : lw_Z below args s t := by
  obtain ⟨o, h1, h2, ⟨⟨f, hf, hb, rv, more, ws, h3, h4, h5⟩, -⟩, J, ⟨h6, h7, h8⟩, h9⟩ := h
  have hone := List.all_eq_true.mp hL f hf
  have hrv : rv = some (.int 1) := by
    cases hf2 : f.2.1 with
    | none => rw [hf2] at hone; cases hone
    | some v =>
      rw [hf2] at hone h4
      cases rv with
      | none => exact h4.elim
      | some xv =>
        rcases v with ⟨a, b⟩ | v
        · simp only [Bool.and_eq_true, decide_eq_true_eq] at hone
          obtain ⟨i, rfl, i1, i2⟩ := h4
          simp only at i1 i2
          rw [wk_i32 (x := i) (a := 1) (by omega)]
          rfl
        · cases hone
  subst h3
  subst hrv
  refine ⟨_, h1, h2, rfl, h6, h7, h8.weaken (fun y hy hlt => absurd hlt (Nat.not_lt.mpr (h9 y hy))) (by decide) (by decide)⟩
/-- from runs of the engine to the law: before the loop's head, and from it -/
theorem wk_law {p : Program} {l : Launch} {e : Env} {s : State} {m : MethodId} {below : List Frame} {meth : Method} {c : Code} {b Lz : Nat} {xs ρ : Nat → Int32} {fuel fuel2 d : Nat} {iv0 iv : wk_I} {fs : List wk_F} (hLz : Lz ≤ 5) (C0 : lw_At p s m meth c b Lz xs) (hρ : ρ 5 = ρ 0 &&& 63) (hρx : ∀ j, j < 5 → ρ j = xs j) (hd : d ≤ 100)
    (h1 : wk_go wk_mt Lz wk_mL (fun _ pc AL AS AH nc ns => wk_isS1 pc AL AS AH nc ns) (wk_run wk_mt Lz fuel d) fuel iv0 0 [(0, .inr (.inr (.inr (2, 0))))] [] wk_AH0 0 0 = some []) (hb0 : wk_bx ρ iv0)
    (h2 : wk_go wk_mt Lz wk_mL (fun _ _ _ _ _ _ _ => false) (wk_run wk_mt Lz fuel2 d) fuel2 iv 18 wk_AL1 [] wk_AH1 289 10466 = some fs) (hb : wk_bx ρ iv) (h3 : wk_all1 fs = true) :
    W p l e room_1 s m #[Value.ref b] below meth c s.heap [] 0 0 (lw_Z below #[Value.ref b] s) (entryFrame m ([Value.ref b] : List Value).toArray 4) := by
  obtain ⟨hx, hbb, hr, hml, hown, hts, hX, hbl, hlocks, hname⟩ := C0
  have hts2 : ∀ w ∈ wk_tbl, w.before #[Value.ref b] s = true := fun w hw => hts w (wk_tbl_in hw)
  obtain ⟨D, hK⟩ := wk_D_ex hts2
  have hkk := wk_kk_start hts hK
  have hXρ : va_X b Lz ρ s s.heap := by
    obtain ⟨scr, g1, g2, g3, g4, g5⟩ := hX
    exact ⟨scr, g1, g2, g3, g4, fun j hj => by rw [g5 j hj, hρx j (by omega)]⟩
  have C : wk_cx p s m #[Value.ref b] meth c (wk_Mb wk_mL) (wk_My wk_mL) (wk_Ml wk_mL) D (fun q => s.heap.size ≤ q) b Lz ρ := ⟨hx, hbb, hml, hown, hts2, hkk, fun _ h => h, hname, hXρ, hbl, Nat.not_le.mpr hbl, by omega⟩
  have hcall : ∀ f id M2 av iv AH fs, wk_mt id = some M2 → wk_run wk_mt Lz f d id av iv AH = some fs → wk_bx ρ iv → ∃ d2, d = d2 + 1 ∧ ∀ (as : List Nat) (vals : List Value), wk_f2 (wk_r as b ρ) av vals → Met l (wk_My M2) (wk_ws M2) (wk_rm M2 d2) (wk_Pc D (fun q => s.heap.size ≤ q) b Lz ρ vals AH as) (wk_Qc D (fun q => s.heap.size ≤ q) b ρ fs as) (wk_Mk M2) (wk_Ms M2) (fun q => s.heap.size ≤ q) := fun f id M2 av iv AH fs q1 q2 q3 => wk_run_ok f wk_mt_ok hρ (Nat.not_le.mpr hbl) (by omega) d id M2 av iv AH fs q1 q2 q3
  have key2 : wk_says p l e room_1 s m #[Value.ref b] below meth c D (fun q => s.heap.size ≤ q) b ρ wk_mL fs [] iv 18 wk_AL1 [] wk_AH1 289 10466 := wk_go_ok (d := d) wk_mt_ok wk_L_ok C hr hlocks hρ (by show d + 1 ≤ 2048; omega) (by show 100 + 200 * d ≤ 84000; omega) (by decide) (by decide) (hcall fuel2) (fun _ _ _ _ _ _ _ q => by cases q) fuel2 iv 18 wk_AL1 [] wk_AH1 289 10466 fs h2 (fun _ q => q)
  have key1 := wk_go_ok (p := p) (l := l) (e := e) (R := room_1) (below := below) (d := d) (L := fs) (as0 := []) wk_mt_ok wk_L_ok C hr hlocks hρ (by show d + 1 ≤ 2048; omega) (by show 100 + 200 * d ≤ 84000; omega) (by decide) (by decide) (hcall fuel) (fun iv1 pc AL AS AH nc ns hcut => by
    obtain ⟨rfl, rfl, rfl, rfl, rfl, rfl⟩ := wk_isS1_r hcut
    intro _ k1 k2
    exact key2 hb k1 k2) fuel iv0 0 _ [] wk_AH0 0 0 [] h1 (fun f hf => by cases hf) hb0 (Nat.zero_le _) (Nat.zero_le _)
  rw [lg_entry_eq]
  have hl := lv_entry [.ref b] (n := 4) (Nat.le_of_ble_eq_true rfl)
  have hw := key1 s.heap [] [] [] _ _ [] va_S.rf ⟨fun k q hk => by simp at hk, ⟨fun i j x y hi => by simp at hi, fun k q hk => by simp at hk⟩, rfl, rfl, fun k cl hk => absurd hk (Nat.not_lt_zero _)⟩ hl ⟨⟨rfl, rfl⟩, trivial⟩ trivial
  intro T hT X
  obtain ⟨t, a1, b1⟩ := hw T hT X
  exact ⟨t, a1, wk_end h3 b1⟩
