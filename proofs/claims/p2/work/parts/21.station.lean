/-! ===== stations: where ways come together ===== -/
/-- a station: box, place, locals, stack, heap, cells written -/
abbrev wk_Sn : Type := wk_I × Nat × wk_L × List wk_V × wk_A × List Nat
def wk_blI (iv : wk_I) : Nat → wk_I → Bool
  | _, [] => true
  | i, (c, d) :: r => (match wk_at iv i with
    | some (a, b) => decide (c ≤ a) && decide (b ≤ d)
    | none => false) && wk_blI iv (i + 1) r
theorem wk_blI_r {ρ : Nat → Int32} {iv : wk_I} (hb : wk_bx ρ iv) : ∀ (r : wk_I) (i : Nat), wk_blI iv i r = true → ∀ (k : Nat) (p : Int × Int), r[k]? = some p → p.1 ≤ (ρ (i + k)).toInt ∧ (ρ (i + k)).toInt ≤ p.2
  | [], _, _, k, p, hk => by simp at hk
  | (c, d) :: r, i, h, k, p, hk => by
    have h : ((match wk_at iv i with
      | some (a, b) => decide (c ≤ a) && decide (b ≤ d)
      | none => false) && wk_blI iv (i + 1) r) = true := h
    rw [Bool.and_eq_true] at h
    cases k with
    | zero =>
      simp only [List.getElem?_cons_zero, Option.some.injEq] at hk
      subst hk
      cases hv : wk_at iv i with
      | none => rw [hv] at h; exact absurd h.1 (fun q => by cases q)
      | some q =>
        obtain ⟨a, b⟩ := q
        rw [hv] at h
        have h1 := h.1
        simp only [Bool.and_eq_true, decide_eq_true_eq] at h1
        rw [wk_at_eq] at hv
        have := hb i _ hv
        simp only at this
        exact ⟨by show c ≤ (ρ (i + 0)).toInt; rw [Nat.add_zero]; omega, by show (ρ (i + 0)).toInt ≤ d; rw [Nat.add_zero]; omega⟩
    | succ k =>
      simp only [List.getElem?_cons_succ] at hk
      have := wk_blI_r hb r (i + 1) h.2 k p hk
      rw [show i + (k + 1) = i + 1 + k by omega]
      exact this
def wk_blAL (iv : wk_I) (AL : wk_L) : wk_L → Bool
  | [] => true
  | (i, w) :: r => (match wk_get AL i with
    | some v => wk_bl iv v w
    | none => false) && wk_blAL iv AL r
theorem wk_blAL_r {as : List Nat} {z : Nat} {ρ : Nat → Int32} {iv : wk_I} (hb : wk_bx ρ iv) {AL : wk_L} {ls : Array Slot} {nL : Nat} {lv : List (Nat × Value)} (hl : lv_has ls nL lv) (ha : wk_f2 (wk_rl as z ρ) AL lv) : ∀ (r : wk_L), wk_blAL iv AL r = true → ∃ lv', lv_has ls nL lv' ∧ wk_f2 (wk_rl as z ρ) r lv'
  | [], _ => ⟨[], ⟨hl.1, hl.2.1, fun q hq => by cases hq⟩, trivial⟩
  | (i, w) :: r, h => by
    have h : ((match wk_get AL i with
      | some v => wk_bl iv v w
      | none => false) && wk_blAL iv AL r) = true := h
    rw [Bool.and_eq_true] at h
    obtain ⟨lv', h1, h2⟩ := wk_blAL_r hb hl ha r h.2
    cases hv : wk_get AL i with
    | none => rw [hv] at h; exact absurd h.1 (fun q => by cases q)
    | some v =>
      rw [hv] at h
      obtain ⟨x, x1, x2⟩ := wk_get_r (nL := nL) hl.2.2 ha hv
      refine ⟨(i, x) :: lv', ⟨hl.1, hl.2.1, fun q hq => ?_⟩, ⟨rfl, wk_bl_r hb h.1 x2⟩, h2⟩
      rcases List.mem_cons.mp hq with rfl | hq
      · exact x1
      · exact h1.2.2 q hq
def wk_sub (a b : List Nat) : Bool := a.all fun n => wk_mem b n
def wk_atS (iv : wk_I) (pc : Nat) (AL : wk_L) (AS : List wk_V) (AH : wk_A) (nc ns : Nat) (wrs : List Nat) (S : wk_Sn) : Bool :=
  Nat.beq pc S.2.1 && (Nat.beq nc 0 && (Nat.beq ns 0 && (wk_blI iv 0 S.1 && (wk_blAL iv AL S.2.2.1 && (wk_blL (wk_bl iv) AS S.2.2.2.1 && (wk_sub wrs S.2.2.2.2.2 && wk_blA iv AH S.2.2.2.2.1))))))
def wk_cutS (S : List wk_Sn) : wk_Cu := fun iv pc AL AS AH nc ns wrs => S.any (wk_atS iv pc AL AS AH nc ns wrs)
section WKST
variable {p : Program} {l : Launch} {e : Env} {R : Room} {s : State} {m : MethodId} {args : Array Value} {below : List Frame} {meth : Method} {c : Code} {z Lz d : Nat} {D : va_G} {A : Nat → Prop} {as0 : List Nat} {ρ : Nat → Int32} {M : wk_M} {mt : Nat → Option wk_M} {mw : wk_W} {L : List wk_F} {call : wk_K} {ws0 : va_W}
theorem wk_atS_r {iv : wk_I} {pc : Nat} {AL : wk_L} {AS : List wk_V} {AH : wk_A} {nc ns : Nat} {wrs : List Nat} {S : wk_Sn} (h : wk_atS iv pc AL AS AH nc ns wrs S = true) (hs : wk_says p l e R s m args below meth c D A z ρ M L as0 ws0 S.1 S.2.1 S.2.2.1 S.2.2.2.1 S.2.2.2.2.1 0 0 S.2.2.2.2.2) : wk_says p l e R s m args below meth c D A z ρ M L as0 ws0 iv pc AL AS AH nc ns wrs := by
  unfold wk_atS at h
  simp only [Bool.and_eq_true] at h
  obtain ⟨h1, h2, h3, h4, h5, h6, h7, h8⟩ := h
  obtain rfl := Nat.eq_of_beq_eq_true h1
  obtain rfl := Nat.eq_of_beq_eq_true h2
  obtain rfl := Nat.eq_of_beq_eq_true h3
  intro hbx hnc hns H locs more ws ls lv st hS hr hl ha hst hsm
  have hbS : wk_bx ρ S.1 := fun k q hk => by
    have := wk_blI_r hbx S.1 0 h4 k q hk
    rw [Nat.zero_add] at this
    exact this
  obtain ⟨lv', g1, g2⟩ := wk_blAL_r hbx hl ha S.2.2.1 h5
  have hst2 : wk_f2 (wk_r (as0 ++ more) z ρ) S.2.2.2.1 st := wk_f2_of (by rw [← (wk_blL_at h6).1, wk_f2_len hst]) (fun k b x hk hx => by
    obtain ⟨a, a1, a2⟩ := (wk_blL_at h6).2 k b hk
    obtain ⟨x2, x3, x4⟩ := wk_f2_at hst k a a1
    cases hx.symm.trans x3
    exact wk_bl_r hbx a2 x4)
  exact hs hbS hnc hns H locs more ws ls lv' st hS (wk_blA_r hbx h8 hr) g1 g2 hst2 (fun j hj hjw => hsm j hj (fun q => hjw (wk_mem_r (List.all_eq_true.mp h7 j q))))
/-- the runs from the stations, each up to later ones -/
noncomputable def wk_runs (mt : Nat → Option wk_M) (Lz : Nat) (M : wk_M) (call : wk_K) (fuel : Nat) : List wk_Sn → Option (List wk_F)
  | [] => some []
  | S :: r => wk_app (wk_go mt Lz M (wk_cutS r) call fuel S.1 S.2.1 S.2.2.1 S.2.2.2.1 S.2.2.2.2.1 0 0 S.2.2.2.2.2) (wk_runs mt Lz M call fuel r)
theorem wk_runs_ok (fuel : Nat) (hmt : ∀ id M, mt id = some M → wk_okm mt mw id M = true) (hM : ∀ r ∈ wk_Mx M, ∀ row ∈ r, wk_okx mt mw (wk_My M) (wk_Mb M) row = true) (C : wk_cx p s m args meth c (wk_Mb M) (wk_My M) (wk_Ml M) D A z Lz ρ) (hret : meth.sig.returnType = wk_Mr M) (hlocks : meth.locks = false) (hρ : ρ 5 = ρ 0 &&& 63)
    (hfr : d + 1 ≤ R.frames) (hlo : 100 + 200 * d ≤ R.locals) (hRc : wk_Mk M ≤ R.cells) (hRs : wk_Ms M ≤ R.slots)
    (hcall : ∀ id M2 av iv AH fs, mt id = some M2 → call id av iv AH = some fs → wk_bx ρ iv → ∃ d2, d2 + 1 ≤ d ∧ ∀ (as : List Nat) (ws : va_W) (vals : List Value), wk_f2 (wk_r as z ρ) av vals → Met l (wk_My M2) (wk_ws M2) (wk_rm M2 d2) (wk_Pc D A z Lz ρ vals AH as ws) (wk_Qc D A z ρ fs as ws) (wk_Mk M2) (wk_Ms M2) A)
    (hw0 : ws0.length = as0.length) : ∀ (Ss : List wk_Sn) (L' : List wk_F), wk_runs mt Lz M call fuel Ss = some L' → (∀ f ∈ L', f ∈ L) → ∀ S ∈ Ss, wk_says p l e R s m args below meth c D A z ρ M L as0 ws0 S.1 S.2.1 S.2.2.1 S.2.2.2.1 S.2.2.2.2.1 0 0 S.2.2.2.2.2
  | [], _, _, _, S, hS => by cases hS
  | S0 :: r, L', h, hL, S, hS => by
    obtain ⟨x, y, h1, h2, rfl⟩ := wk_app_r h
    have ih := wk_runs_ok fuel hmt hM C hret hlocks hρ hfr hlo hRc hRs hcall hw0 r y h2 (fun f hf => hL f (List.mem_append_right _ hf))
    rcases List.mem_cons.mp hS with rfl | hS
    · exact wk_go_ok (d := d) hmt hM C hret hlocks hρ hfr hlo hRc hRs hcall hw0 (fun iv pc AL AS AH nc ns wrs hc => by
        obtain ⟨S2, q1, q2⟩ := List.any_eq_true.mp hc
        exact wk_atS_r q2 (ih S2 q1)) fuel _ _ _ _ _ _ _ _ x h1 (fun f hf => hL f (List.mem_append_left _ hf))
    · exact ih S hS
end WKST
