/-! ===== calls, and the whole run ===== -/
def wk_rv (as : List Nat) (z : Nat → Nat) (ρ : Nat → Int32) : Option wk_V → Option Value → Prop
  | none, none => True
  | some v, some x => wk_r as z ρ v x
  | _, _ => False
def wk_Qc (D : va_G) (A : Nat → Prop) (z : Nat → Nat) (ρ : Nat → Int32) (fs : List wk_F) (as : List Nat) (ws0 : va_W) : Array Value → State → Outcome → State → Prop := fun _ st oc t =>
  (∃ f ∈ fs, wk_bx ρ f.1 ∧ ∃ (rv : Option Value) (more : List Nat) (ws : va_W), oc = .returned rv ∧ wk_rv (as ++ more) z ρ f.2.1 rv ∧ wk_hr D A t (as ++ more) z ρ f.2.2.1 ws t.heap ∧ ∀ j : Nat, j < ws0.length → j ∉ f.2.2.2 → ws[j]? = ws0[j]?) ∧ va_F A st t
def wk_Pc (D : va_G) (A : Nat → Prop) (z : Nat → Nat) (Lz : Nat) (ρ : Nat → Int32) (vals : List Value) (AH : wk_A) (as : List Nat) (ws : va_W) : Array Value → State → Prop :=
  va_Pc vals (fun U => wk_kk D U ∧ wk_Xs z Lz ρ A U U.heap ∧ z 0 < U.heap.size ∧ (∀ q, U.heap.size ≤ q → A q) ∧ wk_hr D A U as z ρ AH ws U.heap)
theorem wk_blind {D : va_G} {A : Nat → Prop} {z : Nat → Nat} {Lz : Nat} {ρ : Nat → Int32} {vals : List Value} {AH : wk_A} {as : List Nat} {ws : va_W} : FrameBlind (wk_Pc D A z Lz ρ vals AH as ws) := fun a U g mk q => by
  obtain ⟨h1, h2, h3, h4, h5, h6⟩ := q
  exact ⟨h1, wk_kk_same (s := U) (U := U.calling g mk a) rfl h2, wk_Xs_same (s := U) (U := U.calling g mk a) rfl h3, h4, h5, wk_hr_moved (U := U) (V := U.calling g mk a) (Vm.Alike.refl U.vm) h6⟩
theorem wk_mem_r : ∀ {l : List Nat} {n : Nat}, wk_mem l n = true → n ∈ l
  | [], _, h => by cases h
  | a :: l, n, h => by
    have h : (bif Nat.beq a n then true else wk_mem l n) = true := h
    cases hb : Nat.beq a n with
    | true => exact List.mem_cons.mpr (Or.inl (Nat.eq_of_beq_eq_true hb).symm)
    | false =>
      rw [hb] at h
      exact List.mem_cons_of_mem _ (wk_mem_r h)
def wk_ins1 (wr : List Nat) (n : Nat) : List Nat := bif wk_mem wr n then wr else n :: wr
theorem wk_ins_eq {β : Type} (wr : List Nat) (n : Nat) (k : List Nat → β) : wk_ins wr n k = k (wk_ins1 wr n) := by
  unfold wk_ins wk_ins1
  cases wk_mem wr n <;> rfl
theorem wk_ins1_r {wr : List Nat} {n j : Nat} (h : j ∉ wk_ins1 wr n) : j ∉ wr ∧ j ≠ n := by
  unfold wk_ins1 at h
  cases hm : wk_mem wr n with
  | true =>
    rw [hm] at h
    exact ⟨h, fun e => h (by rw [e]; exact wk_mem_r hm)⟩
  | false =>
    rw [hm] at h
    exact ⟨fun q => h (List.mem_cons_of_mem _ q), fun e => h (List.mem_cons.mpr (Or.inl e))⟩
def wk_adw1 (wr : List Nat) (w : Option (Nat × wk_C)) : List Nat := match w with
  | some (n, _) => wk_ins1 wr n
  | none => wr
theorem wk_adw_eq {β : Type} (wr : List Nat) (w : Option (Nat × wk_C)) (k : List Nat → β) : wk_adw wr w k = k (wk_adw1 wr w) := by
  cases w with
  | none => rfl
  | some q => exact wk_ins_eq _ _ _
theorem wk_adw1_r {wr : List Nat} {w : Option (Nat × wk_C)} {j : Nat} (h : j ∉ wk_adw1 wr w) : j ∉ wr ∧ ∀ c, w ≠ some (j, c) := by
  cases w with
  | none => exact ⟨h, fun c q => by cases q⟩
  | some q =>
    obtain ⟨n, c0⟩ := q
    have h2 := wk_ins1_r h
    refine ⟨h2.1, fun c q => ?_⟩
    cases q
    exact h2.2 rfl
def wk_uni1 : List Nat → List Nat → List Nat
  | [], wr => wr
  | a :: l, wr => wk_uni1 l (wk_ins1 wr a)
theorem wk_uni_eq {β : Type} : ∀ (l wr : List Nat) (k : List Nat → β), wk_uni l wr k = k (wk_uni1 l wr)
  | [], _, _ => rfl
  | a :: l, wr, k => by
    show wk_ins wr a (fun wr => wk_uni l wr k) = _
    rw [wk_ins_eq, wk_uni_eq l]
    rfl
theorem wk_uni1_r : ∀ {l wr : List Nat} {j : Nat}, j ∉ wk_uni1 l wr → j ∉ l ∧ j ∉ wr
  | [], _, _, h => ⟨List.not_mem_nil, h⟩
  | a :: l, wr, j, h => by
    obtain ⟨h1, h2⟩ := wk_uni1_r (l := l) h
    obtain ⟨h3, h4⟩ := wk_ins1_r h2
    exact ⟨fun q => (List.mem_cons.mp q).elim h4 h1, h3⟩
def wk_ws (M : wk_M) : List Cond := Cond.code (wk_My M) (wk_Mb M) (wk_Ml M) (wk_Mr M) :: wk_tbl
def wk_rm (M : wk_M) (d : Nat) : Room := { frames := d + 1, cells := wk_Mk M, slots := wk_Ms M, locals := 100 + 200 * d }
/-- the words of a method: its kind (0 virtual, 1 static, 2 a constructor) and their places -/
abbrev wk_W : Type := Nat → Nat × List Nat
def wk_okc (mw : wk_W) (i : Instr) (x : Nat × Nat × Int) : Bool := match i, x.1 with
  | .invokevirtual _, 0 => Nat.beq (mw x.2.1).1 0
  | .invokestatic _, 1 => Nat.beq (mw x.2.1).1 1
  | .invokestatic _, 3 => Nat.beq (mw x.2.1).1 1
  | .invokespecial _, 2 => Nat.beq (mw x.2.1).1 2
  | _, _ => true
def wk_okx (mt : Nat → Option wk_M) (mw : wk_W) (y : MethodName) (cc : ByteArray) (row : wk_X) : Bool := match row with
  | (pc, i, n, x, wd, t, a) => decide (decode cc pc = .ok (i, n)) && (wk_lk i n && (wk_okw mt y i x wd && (wk_okt i x pc t a && wk_okc mw i x)))
def wk_okk (M : wk_M) (kd : Nat × List Nat) : Bool := match kd with
  | (0, [a, b, c, d]) => wk_has a (.code (wk_My M) (wk_Mb M) (wk_Ml M) (wk_Mr M)) && (wk_has b (.initialized (wk_My M).cls) && (wk_has c (.instanceMethod (wk_My M)) && (wk_has d (.selects (wk_My M).cls (wk_My M) (wk_My M)) && decide ((wk_fl[wk_Mc M]?).map (fun q => q.1) = some (wk_My M).cls))))
  | (1, [a, b, c]) => wk_has a (.code (wk_My M) (wk_Mb M) (wk_Ml M) (wk_Mr M)) && (wk_has b (.initialized (wk_My M).cls) && wk_has c (.static (wk_My M)))
  | (2, [a, b, c]) => wk_has a (.code (wk_My M) (wk_Mb M) (wk_Ml M) (wk_Mr M)) && (wk_has b (.initialized (wk_My M).cls) && (wk_has c (.instanceMethod (wk_My M)) && (decide ((wk_My M).name = "<init>") && decide (wk_Mr M = none))))
  | _ => false
def wk_okm (mt : Nat → Option wk_M) (mw : wk_W) (id : Nat) (M : wk_M) : Bool :=
  plainName (wk_My M).cls && (decide ((wk_My M).cls ≠ "java/lang/invoke/MethodHandle" ∧ (wk_My M).cls ≠ "java/lang/invoke/VarHandle" ∧ (parseMethodDescriptor (wk_My M).desc).map (fun d => d.parameters.length) = some (wk_Mn M)) && (Nat.ble (wk_Ml M) 100 && (wk_okk M (mw id) && (wk_Mx M).all fun r => r.all (wk_okx mt mw (wk_My M) (wk_Mb M)))))
theorem wk_okk_0 {M : wk_M} {kd : Nat × List Nat} (h : wk_okk M kd = true) (hk : kd.1 = 0) : Cond.code (wk_My M) (wk_Mb M) (wk_Ml M) (wk_Mr M) ∈ wk_tbl ∧ Cond.initialized (wk_My M).cls ∈ wk_tbl ∧ Cond.instanceMethod (wk_My M) ∈ wk_tbl ∧ Cond.selects (wk_My M).cls (wk_My M) (wk_My M) ∈ wk_tbl ∧ (wk_fl[wk_Mc M]?).map (fun q => q.1) = some (wk_My M).cls := by
  unfold wk_okk at h
  split at h
  · simp only [Bool.and_eq_true, decide_eq_true_eq] at h
    exact ⟨wk_has_in h.1, wk_has_in h.2.1, wk_has_in h.2.2.1, wk_has_in h.2.2.2.1, h.2.2.2.2⟩
  · cases hk
  · cases hk
  · cases h
theorem wk_okk_1 {M : wk_M} {kd : Nat × List Nat} (h : wk_okk M kd = true) (hk : kd.1 = 1) : Cond.code (wk_My M) (wk_Mb M) (wk_Ml M) (wk_Mr M) ∈ wk_tbl ∧ Cond.initialized (wk_My M).cls ∈ wk_tbl ∧ Cond.static (wk_My M) ∈ wk_tbl := by
  unfold wk_okk at h
  split at h
  · cases hk
  · simp only [Bool.and_eq_true, decide_eq_true_eq] at h
    exact ⟨wk_has_in h.1, wk_has_in h.2.1, wk_has_in h.2.2⟩
  · cases hk
  · cases h
theorem wk_okk_2 {M : wk_M} {kd : Nat × List Nat} (h : wk_okk M kd = true) (hk : kd.1 = 2) : Cond.code (wk_My M) (wk_Mb M) (wk_Ml M) (wk_Mr M) ∈ wk_tbl ∧ Cond.initialized (wk_My M).cls ∈ wk_tbl ∧ Cond.instanceMethod (wk_My M) ∈ wk_tbl ∧ (wk_My M).name = "<init>" ∧ wk_Mr M = none := by
  unfold wk_okk at h
  split at h
  · cases hk
  · cases hk
  · simp only [Bool.and_eq_true, decide_eq_true_eq] at h
    exact ⟨wk_has_in h.1, wk_has_in h.2.1, wk_has_in h.2.2.1, h.2.2.2.1, h.2.2.2.2⟩
  · cases h
theorem wk_okk_c {M : wk_M} {kd : Nat × List Nat} (h : wk_okk M kd = true) : Cond.code (wk_My M) (wk_Mb M) (wk_Ml M) (wk_Mr M) ∈ wk_tbl := by
  unfold wk_okk at h
  split at h
  · simp only [Bool.and_eq_true] at h
    exact wk_has_in h.1
  · simp only [Bool.and_eq_true] at h
    exact wk_has_in h.1
  · simp only [Bool.and_eq_true] at h
    exact wk_has_in h.1
  · cases h
theorem wk_take_r : ∀ (n : Nat) (AS acc av r : List wk_V), wk_take n AS acc = some (av, r) → ∃ pre, av = pre ++ acc ∧ AS = pre.reverse ++ r ∧ pre.length = n
  | 0, AS, acc, av, r, h => by
    cases h
    exact ⟨[], rfl, rfl, rfl⟩
  | n + 1, [], acc, av, r, h => by cases h
  | n + 1, v :: AS, acc, av, r, h => by
    obtain ⟨pre, h1, h2, h3⟩ := wk_take_r n AS (v :: acc) av r h
    exact ⟨pre ++ [v], by rw [h1]; simp, by rw [h2]; simp, by simp [h3]⟩
theorem wk_f2_split {α β : Type} {R : α → β → Prop} : ∀ {l1 l2 : List α} {m : List β}, wk_f2 R (l1 ++ l2) m → ∃ m1 m2, m = m1 ++ m2 ∧ wk_f2 R l1 m1 ∧ wk_f2 R l2 m2
  | [], l2, m, h => ⟨[], m, rfl, trivial, h⟩
  | a :: l1, l2, [], h => h.elim
  | a :: l1, l2, b :: m, h => by
    obtain ⟨m1, m2, h1, h2, h3⟩ := wk_f2_split (l1 := l1) h.2
    exact ⟨b :: m1, m2, by rw [h1]; rfl, ⟨h.1, h2⟩, h3⟩
theorem wk_f2_rev {α β : Type} {R : α → β → Prop} : ∀ {l : List α} {m : List β}, wk_f2 R l m → wk_f2 R l.reverse m.reverse
  | [], [], _ => trivial
  | [], _ :: _, h => h.elim
  | _ :: _, [], h => h.elim
  | a :: l, b :: m, h => by
    rw [List.reverse_cons, List.reverse_cons]
    exact wk_f2_app (wk_f2_rev h.2) ⟨h.1, trivial⟩
theorem wk_app_r {α : Type} {a b : Option (List α)} {L : List α} (h : wk_app a b = some L) : ∃ x y, a = some x ∧ b = some y ∧ L = x ++ y := by
  unfold wk_app at h
  cases a with
  | none => cases h
  | some x => cases b with
    | none => cases h
    | some y => cases h; exact ⟨x, y, rfl, rfl, rfl⟩
theorem wk_fold_r {α β : Type} {g : α → Option (List β)} : ∀ {l : List α} {L : List β}, l.foldr (fun q acc => wk_app (g q) acc) (some []) = some L → ∀ q ∈ l, ∃ x, g q = some x ∧ ∀ f ∈ x, f ∈ L
  | [], _, _, q, hq => by cases hq
  | a :: l, L, h, q, hq => by
    obtain ⟨x, y, h1, h2, rfl⟩ := wk_app_r h
    rcases List.mem_cons.mp hq with rfl | hq
    · exact ⟨x, h1, fun f hf => List.mem_append_left _ hf⟩
    · obtain ⟨x2, h3, h4⟩ := wk_fold_r h2 q hq
      exact ⟨x2, h3, fun f hf => List.mem_append_right _ (h4 f hf)⟩
theorem wk_cv_r : ∀ (ps : List (Int × Int)) (lo hi v : Int), wk_cv lo hi ps = true → lo ≤ v → v ≤ hi → ∃ q ∈ ps, q.1 ≤ v ∧ v ≤ q.2
  | [], lo, hi, v, h, h1, h2 => by
    have h : decide (hi < lo) = true := h
    rw [decide_eq_true_eq] at h
    omega
  | (a, b) :: r, lo, hi, v, h, h1, h2 => by
    have h : (decide (a ≤ lo) && (decide (hi ≤ b) || wk_cv (b + 1) hi r)) = true := h
    rw [Bool.and_eq_true, Bool.or_eq_true, decide_eq_true_eq, decide_eq_true_eq] at h
    by_cases hv : v ≤ b
    · exact ⟨(a, b), List.mem_cons_self, by show a ≤ v; omega, hv⟩
    · rcases h.2 with h3 | h3
      · omega
      · obtain ⟨q, q1, q2⟩ := wk_cv_r r (b + 1) hi v h3 (by omega) h2
        exact ⟨q, List.mem_cons_of_mem _ q1, q2⟩
theorem wk_bx_set {ρ : Nat → Int32} {iv : wk_I} {i : Nat} {q : Int × Int} (h : wk_bx ρ iv) (h1 : q.1 ≤ (ρ i).toInt) (h2 : (ρ i).toInt ≤ q.2) : wk_bx ρ (iv.set i q) := by
  intro j p hj
  by_cases e : j = i
  · subst e
    by_cases hl : j < iv.length
    · rw [List.getElem?_set_self hl] at hj
      cases hj
      exact ⟨h1, h2⟩
    · rw [List.getElem?_eq_none (by rw [List.length_set]; omega)] at hj
      cases hj
  · rw [List.getElem?_set_ne (fun q => e q.symm)] at hj
    exact h j p hj
theorem wk_args_r {as : List Nat} {z : Nat → Nat} {ρ : Nat → Int32} : ∀ {av : List wk_V} {vals : List Value} (i : Nat), wk_f2 (wk_r as z ρ) av vals → wk_f2 (wk_rl as z ρ) (wk_args i av) (lv_args i vals)
  | [], [], _, _ => trivial
  | [], _ :: _, _, h => h.elim
  | _ :: _, [], _, h => h.elim
  | v :: av, x :: vals, i, h => by
    refine ⟨⟨rfl, h.1⟩, ?_⟩
    have e : (if wk_c2 v = true then i + 2 else i + 1) = (if x.category = 2 then i + 2 else i + 1) := by
      rw [wk_c2_r h.1]
      by_cases hc : x.category = 2
      · rw [hc]; rfl
      · rw [if_neg hc, if_neg (by simpa using hc)]
    show wk_f2 _ (wk_args (if wk_c2 v = true then i + 2 else i + 1) av) (lv_args (if x.category = 2 then i + 2 else i + 1) vals)
    rw [e]
    exact wk_args_r _ h.2
section WKC
variable {p : Program} {l : Launch} {e : Env} {R : Room} {s : State} {m : MethodId} {args : Array Value} {below : List Frame} {meth : Method} {c : Code} {H : Heap} {locs : List Loc} {cells slots : Nat} {Q : State → Prop}
variable {pc : Nat} {ls : Array Slot} {rest st0 : List Value} {a : Array Value} {A : Nat → Prop} {mc ms : Nat} {z : Nat → Nat} {D : va_G} {ρ : Nat → Int32} {fs : List wk_F} {as : List Nat} {ws0 : va_W}
theorem wk_after (hr : va_Run p l e R s m args below meth c H locs cells slots mc ms (F0 m pc ls st0) rest (wk_Qc D A z ρ fs as ws0 a) A) (hS : va_S A s.heap H locs)
    (kk : ∀ f ∈ fs, wk_bx ρ f.1 → ∀ (rv : Option Value) (more : List Nat) (ws : va_W) (H1 : Heap) (locs1 : List Loc), wk_rv (as ++ more) z ρ f.2.1 rv → wk_hr D A s (as ++ more) z ρ f.2.2.1 ws H1 → (∀ j : Nat, j < ws0.length → j ∉ f.2.2.2 → ws[j]? = ws0[j]?) → va_S A s.heap H1 locs1 → W p l e R s m args below meth c H1 locs1 (cells + mc) (slots + ms) Q (F0 m (pc + 3) ls (rv.toList ++ rest))) : W p l e R s m args below meth c H locs cells slots Q (F0 m pc ls st0) := by
  intro T hT X
  obtain ⟨v, st₀, t, T', L, h0, X', hL, e1, e2, ⟨⟨f, hf, hb, rv, more, ws, hv, hrv, hhr, hsm⟩, hz, hk⟩, st⟩ := hr T hT X
  cases hv
  rw [h0] at hz hk
  have hal : t.vm.Alike s.vm := by rw [← e2]; exact X'.warmed.alike.symm
  obtain ⟨t2, a1, b1⟩ := kk f hf hb v more ws T'.heap (locs ++ L) hrv (by rw [e1]; exact wk_hr_moved hal hhr) hsm
    ⟨Nat.le_trans hS.1 (by rw [e1]; exact hz), fun q h1 h2 => by rw [e1, hk q (Nat.lt_of_lt_of_le h1 hS.1) h2]; exact hS.2.1 q h1 h2, fun q hq => by
      rcases List.mem_append.mp hq with h | h
      · exact hS.2.2 q h
      · exact hL q h⟩ T' rfl X'
  exact ⟨t2, st t2 a1, b1⟩
end WKC
