/-! ===== a row held by its numbers ===== -/
theorem wq_Ds_ok : ∀ k ds, wk_at wq_Ds k = some ds → wq_all (wk_dr k) ds := by
  intro k ds h
  match k, h with
  | 0, h => cases h; exact wq_D0_ok
  | 1, h => cases h; exact wq_D1_ok
  | 2, h => cases h; exact wq_D2_ok
  | 3, h => cases h; exact wq_D3_ok
  | 4, h => cases h; exact wq_D4_ok
  | 5, h => cases h; exact wq_D5_ok
  | 6, h => cases h; exact wq_D6_ok
  | 7, h => cases h; exact wq_D7_ok
  | 8, h => cases h; exact wq_D8_ok
  | 9, h => cases h; exact wq_D9_ok
  | 10, h => cases h; exact wq_D10_ok
  | 11, h => cases h; exact wq_D11_ok
  | 12, h => cases h; exact wq_D12_ok
  | 13, h => cases h; exact wq_D13_ok
  | 14, h => cases h; exact wq_D14_ok
  | 15, h => cases h; exact wq_D15_ok
  | 16, h => cases h; exact wq_D16_ok
  | 17, h => cases h; exact wq_D17_ok
  | 18, h => cases h; exact wq_D18_ok
  | 19, h => cases h; exact wq_D19_ok
  | 20, h => cases h; exact wq_D20_ok
  | 21, h => cases h; exact wq_D21_ok
  | 22, h => cases h; exact wq_D22_ok
  | 23, h => cases h; exact wq_D23_ok
  | 24, h => cases h; exact wq_D24_ok
  | 25, h => cases h; exact wq_D25_ok
  | 26, h => cases h; exact wq_D26_ok
  | 27, h => cases h; exact wq_D27_ok
  | 28, h => cases h; exact wq_D28_ok
  | 29, h => cases h; exact wq_D29_ok
  | 30, h => cases h; exact wq_D30_ok
  | 31, h => cases h; exact wq_D31_ok
  | 32, h => cases h; exact wq_D32_ok
  | 33, h => cases h; exact wq_D33_ok
  | 34, h => cases h; exact wq_D34_ok
  | 35, h => cases h; exact wq_D35_ok
  | 36, h => cases h; exact wq_D36_ok
  | 37, h => cases h; exact wq_D37_ok
  | 38, h => cases h; exact wq_D38_ok
  | 39, h => cases h; exact wq_D39_ok
  | 40, h => cases h; exact wq_D40_ok
  | 41, h => cases h; exact wq_D41_ok
  | 42, h => cases h; exact wq_D42_ok
  | 43, h => cases h; exact wq_D43_ok
  | 44, h => cases h; exact wq_D44_ok
  | 45, h => cases h; exact wq_D45_ok
  | 46, h => cases h; exact wq_D46_ok
  | 47, h => cases h; exact wq_D47_ok
  | 48, h => cases h; exact wq_D48_ok
  | 49, h => cases h; exact wq_D49_ok
  | 50, h => cases h; exact wq_D50_ok
  | 51, h => cases h; exact wq_D51_ok
  | 52, h => cases h; exact wq_D52_ok
  | 53, h => cases h; exact wq_D53_ok
  | 54, h => cases h; exact wq_D54_ok
  | 55, h => cases h; exact wq_D55_ok
  | 56, h => cases h; exact wq_D56_ok
  | 57, h => cases h; exact wq_D57_ok
  | 58, h => cases h; exact wq_D58_ok
  | 59, h => cases h; exact wq_D59_ok
  | _ + 60, h => cases h
def wq_look (p : Nat) : Option wq_T := match wk_at wq_Ds (p / 32) with
  | some ds => wk_at ds (p % 32)
  | none => none
def wq_hs (p t a b c e : Nat) : Bool := match wq_look p with
  | some (t', a', b', c', e') => Nat.beq t' t && (Nat.beq a' a && (Nat.beq b' b && (Nat.beq c' c && Nat.beq e' e)))
  | none => false
theorem wq_hs_ok {p t a b c e : Nat} (h : wq_hs p t a b c e = true) : ∃ w, (wk_dr (p / 32))[p % 32]? = some w ∧ wq_one w (t, a, b, c, e) := by
  unfold wq_hs at h
  split at h
  · rename_i t' a' b' c' e' hl
    simp only [Bool.and_eq_true, Nat.beq_eq] at h
    obtain ⟨rfl, rfl, rfl, rfl, rfl⟩ := h
    unfold wq_look at hl
    split at hl
    · rename_i ds hd
      exact wq_all_at (wq_Ds_ok _ _ hd) hl
    · cases hl
  · cases h
theorem wq_hs_has {p t a b c e : Nat} {w : Cond} (h : wq_hs p t a b c e = true) (h1 : ∀ v, wq_one v (t, a, b, c, e) → v = w) (h2 : goodWord w = true) : wk_has p w = true := by
  obtain ⟨v, h3, h4⟩ := wq_hs_ok h
  have := h1 v h4
  subst this
  unfold wk_has
  rw [h3, h2, Bool.and_true, decide_eq_true_eq]
/-- the words of a row -/
def wq_w (y : MethodName) (yc : Nat) (i : Instr) (x : Nat × Nat × Int) (ws : List Nat) : Bool := match ws with
  | [] => wk_plain i
  | p :: r => match wq_op i with
    | (f, op, u, _) => bif Nat.beq f 3 then (match r with
      | [] => bif Nat.beq op 180 then wq_hs p 0 yc u x.1 x.2.1 && Nat.blt x.2.1 (wq_fn x.1)
        else bif Nat.beq op 181 then wq_hs p 0 yc u x.1 x.2.1 && (Nat.blt x.2.1 (wq_fn x.1) && ((!(wq_ft x.1 x.2.1).2.2.2 || (decide (y.name = "<init>") && decide ((wq_ft x.1 x.2.1).1 = y.cls))) && decide (((wk_fc[x.1]?).bind fun r => r[x.2.1]?) = some x.2.2.toNat)))
        else bif (Nat.beq op 182 && Nat.beq x.1 0) || ((Nat.beq op 183 && Nat.beq x.1 2) || (Nat.beq op 184 && Nat.beq x.1 1)) then wq_hs p 7 yc u x.2.1 0 && Nat.blt x.2.1 276
        else wk_okw wk_mt y i x (p :: r)
      | _ => wk_okw wk_mt y i x (p :: r)) else wk_okw wk_mt y i x (p :: r)
theorem wq_mts_len : wk_mts.length = 276 := by decide +kernel
theorem wq_mt_at {n : Nat} (h : n < 276) : wk_mt n = some (wq_M n) := by
  unfold wk_mt wq_M
  rw [wk_at_eq, List.getElem?_eq_getElem (by rw [wq_mts_len]; exact h)]
theorem wq_fl_at {c k : Nat} (h : Nat.blt k (wq_fn c) = true) : ∃ q, wk_fl[c]? = some q ∧ wq_ft c = wk_T q ∧ Nat.blt k q.2.length = true := by
  unfold wq_fn at h
  unfold wq_ft
  cases hq : wk_fl[c]? with
  | none => rw [hq] at h; cases h
  | some q => rw [hq] at h; exact ⟨q, rfl, rfl, h⟩
theorem wq_w_ok {y : MethodName} {yc : Nat} {i : Instr} {x : Nat × Nat × Int} {ws : List Nat} (hy : wq_cn yc = y.cls) (h : wq_w y yc i x ws = true) : wk_okw wk_mt y i x ws = true := by
  match ws, h with
  | [], h =>
    have h' : wk_plain i = true := h
    cases i <;> first | rfl | cases h'
  | p :: p' :: r, h =>
    unfold wq_w at h
    simp only at h
    cases hf : Nat.beq (wq_op i).1 3 with
    | true => rw [hf] at h; exact h
    | false => rw [hf] at h; exact h
  | [p], h =>
    cases i with
    | getfield u =>
      have h' : (wq_hs p 0 yc u x.1 x.2.1 && Nat.blt x.2.1 (wq_fn x.1)) = true := h
      rw [Bool.and_eq_true] at h'
      obtain ⟨q, h1, h2, h3⟩ := wq_fl_at h'.2
      show (match wk_fl[x.1]? with
        | some q => Nat.blt x.2.1 q.2.length && wk_has p (.fieldLink y.cls u (wk_T q x.2.1).1 (wk_T q x.2.1).2.1 (wk_T q x.2.1).2.2.1)
        | none => false) = true
      rw [h1]
      show (Nat.blt x.2.1 q.2.length && wk_has p (.fieldLink y.cls u (wk_T q x.2.1).1 (wk_T q x.2.1).2.1 (wk_T q x.2.1).2.2.1)) = true
      rw [h3, Bool.true_and]
      refine wq_hs_has h'.1 (fun v hv => ?_) rfl
      have hv' : v = .fieldLink (wq_cn yc) u (wq_ft x.1 x.2.1).1 (wq_ft x.1 x.2.1).2.1 (wq_ft x.1 x.2.1).2.2.1 := hv
      rw [hv', hy, h2]
    | putfield u =>
      have h' : (wq_hs p 0 yc u x.1 x.2.1 && (Nat.blt x.2.1 (wq_fn x.1) && ((!(wq_ft x.1 x.2.1).2.2.2 || (decide (y.name = "<init>") && decide ((wq_ft x.1 x.2.1).1 = y.cls))) && decide (((wk_fc[x.1]?).bind fun r => r[x.2.1]?) = some x.2.2.toNat)))) = true := h
      rw [Bool.and_eq_true, Bool.and_eq_true] at h'
      obtain ⟨q, h1, h2, h3⟩ := wq_fl_at h'.2.1
      show (match wk_fl[x.1]? with
        | some q => Nat.blt x.2.1 q.2.length && (wk_has p (.fieldLink y.cls u (wk_T q x.2.1).1 (wk_T q x.2.1).2.1 (wk_T q x.2.1).2.2.1) && ((!(wk_T q x.2.1).2.2.2 || (decide (y.name = "<init>") && decide ((wk_T q x.2.1).1 = y.cls))) && decide (((wk_fc[x.1]?).bind fun r => r[x.2.1]?) = some x.2.2.toNat)))
        | none => false) = true
      rw [h1]
      show (Nat.blt x.2.1 q.2.length && (wk_has p (.fieldLink y.cls u (wk_T q x.2.1).1 (wk_T q x.2.1).2.1 (wk_T q x.2.1).2.2.1) && ((!(wk_T q x.2.1).2.2.2 || (decide (y.name = "<init>") && decide ((wk_T q x.2.1).1 = y.cls))) && decide (((wk_fc[x.1]?).bind fun r => r[x.2.1]?) = some x.2.2.toNat)))) = true
      have h4 := h'.2.2
      rw [h2] at h4
      rw [h3, h4, Bool.true_and, Bool.and_true]
      refine wq_hs_has h'.1 (fun v hv => ?_) rfl
      have hv' : v = .fieldLink (wq_cn yc) u (wq_ft x.1 x.2.1).1 (wq_ft x.1 x.2.1).2.1 (wq_ft x.1 x.2.1).2.2.1 := hv
      rw [hv', hy, h2]
    | invokevirtual u =>
      have h' : (bif (Nat.beq x.1 0) || (false || false) then wq_hs p 7 yc u x.2.1 0 && Nat.blt x.2.1 276 else wk_okw wk_mt y (.invokevirtual u) x [p]) = true := h
      cases hx : Nat.beq x.1 0 with
      | false => rw [hx] at h'; exact h'
      | true =>
        rw [hx] at h'
        have h2 : (wq_hs p 7 yc u x.2.1 0 && Nat.blt x.2.1 276) = true := h'
        rw [Bool.and_eq_true] at h2
        show (Nat.beq x.1 0 && match wk_mt x.2.1 with
          | some M => wk_has p (.methodLink y.cls u (wk_My M))
          | none => false) = true
        rw [hx, wq_mt_at (Nat.blt_eq.mp h2.2)]
        show wk_has p (.methodLink y.cls u (wk_My (wq_M x.2.1))) = true
        refine wq_hs_has h2.1 (fun v hv => ?_) rfl
        have hv' : v = .methodLink (wq_cn yc) u (wk_My (wq_M x.2.1)) := hv
        rw [hv', hy]
    | invokespecial u =>
      have h' : (bif (false && Nat.beq x.1 0) || ((Nat.beq x.1 2) || false) then wq_hs p 7 yc u x.2.1 0 && Nat.blt x.2.1 276 else wk_okw wk_mt y (.invokespecial u) x [p]) = true := h
      cases hx : Nat.beq x.1 2 with
      | false => rw [hx] at h'; exact h'
      | true =>
        rw [hx] at h'
        have h2 : (wq_hs p 7 yc u x.2.1 0 && Nat.blt x.2.1 276) = true := h'
        rw [Bool.and_eq_true] at h2
        show (Nat.beq x.1 2 && match wk_mt x.2.1 with
          | some M => wk_has p (.methodLink y.cls u (wk_My M))
          | none => false) = true
        rw [hx, wq_mt_at (Nat.blt_eq.mp h2.2)]
        show wk_has p (.methodLink y.cls u (wk_My (wq_M x.2.1))) = true
        refine wq_hs_has h2.1 (fun v hv => ?_) rfl
        have hv' : v = .methodLink (wq_cn yc) u (wk_My (wq_M x.2.1)) := hv
        rw [hv', hy]
    | invokestatic u =>
      have h' : (bif (false && Nat.beq x.1 0) || ((false && Nat.beq x.1 2) || Nat.beq x.1 1) then wq_hs p 7 yc u x.2.1 0 && Nat.blt x.2.1 276 else wk_okw wk_mt y (.invokestatic u) x [p]) = true := h
      cases hx : Nat.beq x.1 1 with
      | false => rw [hx] at h'; exact h'
      | true =>
        rw [hx] at h'
        have h2 : (wq_hs p 7 yc u x.2.1 0 && Nat.blt x.2.1 276) = true := h'
        rw [Bool.and_eq_true] at h2
        show (match wk_mt x.2.1 with
          | some M => (Nat.beq x.1 1 && wk_has p (.methodLink y.cls u (wk_My M))) || (Nat.beq x.1 3 && wk_nst p (.methodLinkNest y.cls u (wk_My M) "EvenSides"))
          | none => false) = true
        rw [hx, wq_mt_at (Nat.blt_eq.mp h2.2)]
        show ((true && wk_has p (.methodLink y.cls u (wk_My (wq_M x.2.1)))) || (Nat.beq x.1 3 && wk_nst p (.methodLinkNest y.cls u (wk_My (wq_M x.2.1)) "EvenSides"))) = true
        have h5 : wk_has p (.methodLink y.cls u (wk_My (wq_M x.2.1))) = true := by
          refine wq_hs_has h2.1 (fun v hv => ?_) rfl
          have hv' : v = .methodLink (wq_cn yc) u (wk_My (wq_M x.2.1)) := hv
          rw [hv', hy]
        rw [h5]
        rfl
    | _ => exact h
def wq_f (y : MethodName) (yc : Nat) (mw : wk_W) (row : wk_X) : Bool := match row with
  | (pc, i, n, x, wd, t, a) => wk_lk i n && (wq_w y yc i x wd && (wk_okt i x pc t a && wk_okc mw i x))
/-- a method's own words -/
def wq_kk (id yc : Nat) (M : wk_M) (kd : Nat × List Nat) : Bool := match kd with
  | (0, [a, b, c, d]) => wq_hs a 10 id 0 0 0 && (wq_hs b 3 yc 0 0 0 && (wq_hs c 12 id 0 0 0 && wq_hs d 13 id 0 0 0))
  | (1, [a, b, c]) => wq_hs a 10 id 0 0 0 && (wq_hs b 3 yc 0 0 0 && wq_hs c 11 id 0 0 0)
  | (2, [a, b, c]) => wq_hs a 10 id 0 0 0 && (wq_hs b 3 yc 0 0 0 && (wq_hs c 12 id 0 0 0 && (decide ((wk_My M).name = "<init>") && decide (wk_Mr M = none))))
  | _ => false
def wq_m (mw : wk_W) (id : Nat) (M : wk_M) : Bool := decide (wq_cn (wk_Mc M) = (wk_My M).cls) && (Nat.blt (wk_Mc M) 10 && (decide ((parseMethodDescriptor (wk_My M).desc).map (fun d => d.parameters.length) = some (wk_Mn M)) && (Nat.ble (wk_Ml M) 100 && (wq_kk id (wk_Mc M) M (mw id) && wq_sqs (wk_Mb M) (wq_f (wk_My M) (wk_Mc M) mw) (wk_Mx M) 0 (wk_Mb M).data.toList))))
theorem wq_pl : ∀ c, c < 10 → (plainName (wq_cn c) && decide (wq_cn c ≠ "java/lang/invoke/MethodHandle" ∧ wq_cn c ≠ "java/lang/invoke/VarHandle")) = true := by decide +kernel
theorem wq_fl10 {c : Nat} (h : c < 10) : (wk_fl[c]?).map (fun q => q.1) = some (wq_cn c) := by
  unfold wq_cn
  rw [List.getElem?_eq_getElem (by rw [wk_len10]; exact h)]
  rfl
theorem wq_m_ok {mw : wk_W} {id : Nat} {M : wk_M} (hM : wk_mt id = some M) (h : wq_m mw id M = true) : wk_okm wk_mt mw id M = true := by
  have hq : wq_M id = M := by
    have : wk_at wk_mts id = some M := hM
    unfold wq_M
    rw [this]
  unfold wq_m at h
  simp only [Bool.and_eq_true, decide_eq_true_eq, Nat.blt_eq, Nat.ble_eq] at h
  obtain ⟨h1, h2, h3, h4, h5, h6⟩ := h
  have hp := wq_pl (wk_Mc M) h2
  rw [Bool.and_eq_true, decide_eq_true_eq, h1] at hp
  unfold wk_okm
  simp only [Bool.and_eq_true, decide_eq_true_eq, Nat.ble_eq, List.all_eq_true]
  refine ⟨hp.1, ⟨hp.2.1, hp.2.2, h3⟩, h4, ?_, fun r hr x hx => ?_⟩
  · have hc : ∀ {p : Nat}, wq_hs p 10 id 0 0 0 = true → wk_has p (.code (wk_My M) (wk_Mb M) (wk_Ml M) (wk_Mr M)) = true := fun q => wq_hs_has q (fun v hv => by
      have : v = .code (wk_My (wq_M id)) (wk_Mb (wq_M id)) (wk_Ml (wq_M id)) (wk_Mr (wq_M id)) := hv
      rw [this, hq]) rfl
    have hi : ∀ {p : Nat}, wq_hs p 3 (wk_Mc M) 0 0 0 = true → wk_has p (.initialized (wk_My M).cls) = true := fun q => wq_hs_has q (fun v hv => by
      have : v = .initialized (wq_cn (wk_Mc M)) := hv
      rw [this, h1]) rfl
    have hs : ∀ {p : Nat}, wq_hs p 11 id 0 0 0 = true → wk_has p (.static (wk_My M)) = true := fun q => wq_hs_has q (fun v hv => by
      have : v = .static (wk_My (wq_M id)) := hv
      rw [this, hq]) rfl
    have hn : ∀ {p : Nat}, wq_hs p 12 id 0 0 0 = true → wk_has p (.instanceMethod (wk_My M)) = true := fun q => wq_hs_has q (fun v hv => by
      have : v = .instanceMethod (wk_My (wq_M id)) := hv
      rw [this, hq]) rfl
    have hl : ∀ {p : Nat}, wq_hs p 13 id 0 0 0 = true → wk_has p (.selects (wk_My M).cls (wk_My M) (wk_My M)) = true := fun q => wq_hs_has q (fun v hv => by
      have : v = .selects (wk_My (wq_M id)).cls (wk_My (wq_M id)) (wk_My (wq_M id)) := hv
      rw [this, hq]) rfl
    generalize mw id = kd at h5 ⊢
    unfold wq_kk at h5
    split at h5
    · simp only [Bool.and_eq_true] at h5
      show (wk_has _ _ && (wk_has _ _ && (wk_has _ _ && (wk_has _ _ && _)))) = true
      rw [hc h5.1, hi h5.2.1, hn h5.2.2.1, hl h5.2.2.2, wq_fl10 h2, h1]
      simp
    · simp only [Bool.and_eq_true] at h5
      show (wk_has _ _ && (wk_has _ _ && wk_has _ _)) = true
      rw [hc h5.1, hi h5.2.1, hs h5.2.2]
      rfl
    · simp only [Bool.and_eq_true, decide_eq_true_eq] at h5
      show (wk_has _ _ && (wk_has _ _ && (wk_has _ _ && (_ && _)))) = true
      rw [hc h5.1, hi h5.2.1, hn h5.2.2.1, decide_eq_true h5.2.2.2.1, decide_eq_true h5.2.2.2.2]
      rfl
    · cases h5
  · obtain ⟨h7, h8⟩ := wq_sqs_ok (pc := 0) h6 r hr x hx
    obtain ⟨pc, i, n, x, wd, t, a⟩ := x
    unfold wq_f at h7
    simp only [Bool.and_eq_true] at h7
    unfold wk_okx
    simp only [Bool.and_eq_true, decide_eq_true_eq]
    exact ⟨h8, h7.1, wq_w_ok h1 h7.2.1, h7.2.2⟩
