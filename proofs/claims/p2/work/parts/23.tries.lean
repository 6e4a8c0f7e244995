/-! ===== calls by contract, else by running ===== -/
def wk_tryC (iv : wk_I) (av : List wk_V) (AH : wk_A) : List wk_T3 → Option (List wk_F)
  | [] => none
  | T :: r => bif wk_blL (wk_bl iv) av T.1 && wk_blA iv AH T.2.1 then wk_inst iv AH T.2.2 else wk_tryC iv av AH r
theorem wk_tryC_r {iv : wk_I} {av : List wk_V} {AH : wk_A} {fs : List wk_F} : ∀ {Ts : List wk_T3}, wk_tryC iv av AH Ts = some fs → ∃ T ∈ Ts, wk_blL (wk_bl iv) av T.1 = true ∧ wk_blA iv AH T.2.1 = true ∧ wk_inst iv AH T.2.2 = some fs
  | [], h => by cases h
  | T :: r, h => by
    unfold wk_tryC at h
    cases hc : wk_blL (wk_bl iv) av T.1 && wk_blA iv AH T.2.1 with
    | true =>
      rw [hc] at h
      rw [Bool.and_eq_true] at hc
      exact ⟨T, List.mem_cons_self, hc.1, hc.2, h⟩
    | false =>
      rw [hc] at h
      obtain ⟨T2, h1, h2⟩ := wk_tryC_r h
      exact ⟨T2, List.mem_cons_of_mem _ h1, h2⟩
noncomputable def wk_kc (ct : Nat → List wk_T3) (k : wk_K) : wk_K := fun id av iv AH => match wk_tryC iv av AH (ct id) with
  | some fs => some fs
  | none => k id av iv AH
/-- a contract holds, at a depth below `d` -/
def wk_hC (l : Launch) (D : va_G) (A : Nat → Prop) (z Lz : Nat) (ρ : Nat → Int32) (d : Nat) (M : wk_M) (T : wk_T3) : Prop :=
  ∃ d2, d2 + 1 ≤ d ∧ ∀ (as : List Nat) (ws : va_W) (vals : List Value), wk_f2 (wk_r as z ρ) T.1 vals → Met l (wk_My M) (wk_ws M) (wk_rm M d2) (wk_Pc D A z Lz ρ vals T.2.1 as ws) (wk_Qc D A z ρ T.2.2 as ws) (wk_Mk M) (wk_Ms M) A
theorem wk_hC_le {l : Launch} {D : va_G} {A : Nat → Prop} {z Lz : Nat} {ρ : Nat → Int32} {d d' : Nat} {M : wk_M} {T : wk_T3} (h : wk_hC l D A z Lz ρ d M T) (hd : d ≤ d') : wk_hC l D A z Lz ρ d' M T := by
  obtain ⟨d2, h1, h2⟩ := h
  exact ⟨d2, Nat.le_trans h1 hd, h2⟩
theorem wk_kc_good {l : Launch} {D : va_G} {A : Nat → Prop} {z Lz : Nat} {ρ : Nat → Int32} {mt : Nat → Option wk_M} {d : Nat} {ct : Nat → List wk_T3} {k : wk_K} (hk : wk_good l D A z Lz ρ mt d k) (hct : ∀ id M, mt id = some M → ∀ T ∈ ct id, wk_hC l D A z Lz ρ d M T) : wk_good l D A z Lz ρ mt d (wk_kc ct k) := by
  intro id M av iv AH fs hm h hb
  unfold wk_kc at h
  cases ht : wk_tryC iv av AH (ct id) with
  | none => rw [ht] at h; exact hk id M av iv AH fs hm h hb
  | some g =>
    rw [ht] at h
    cases h
    obtain ⟨T, h1, h2, h3, h4⟩ := wk_tryC_r ht
    obtain ⟨d2, e1, e2⟩ := hct id M hm T h1
    exact ⟨d2, e1, wk_con_use hb h2 h3 h4 e2⟩
/-- a run in which calls are by contract at every depth -/
noncomputable def wk_runK (mt : Nat → Option wk_M) (Lz : Nat) (ct : Nat → List wk_T3) (fuel : Nat) : Nat → wk_K
  | 0 => wk_kc ct (fun _ _ _ _ => none)
  | d + 1 => wk_kc ct (fun id av iv AH => match mt id with
    | some M => wk_conE mt Lz M (wk_runK mt Lz ct fuel d) fuel iv av AH []
    | none => none)
theorem wk_runK_good {l : Launch} {D : va_G} {A : Nat → Prop} {z Lz : Nat} {ρ : Nat → Int32} {mt : Nat → Option wk_M} {mw : wk_W} {ct : Nat → List wk_T3} {fuel d0 : Nat} (hmt : ∀ id M, mt id = some M → wk_okm mt mw id M = true) (hρ : ρ 5 = ρ 0 &&& 63) (hzA : ¬ A z) (hLz : Lz < 2 ^ 31) (hct : ∀ id M, mt id = some M → ∀ T ∈ ct id, wk_hC l D A z Lz ρ d0 M T) : ∀ d, wk_good l D A z Lz ρ mt (d0 + d) (wk_runK mt Lz ct fuel d)
  | 0 => wk_kc_good (fun _ _ _ _ _ _ _ h => by cases h) hct
  | d + 1 => by
    refine wk_kc_good (fun id M av iv AH fs hm h hb => ?_) (fun id M hm T hT => wk_hC_le (hct id M hm T hT) (by omega))
    simp only [hm] at h
    exact ⟨d0 + d, by omega, wk_conE_ok hmt hρ hzA hLz (wk_runK_good hmt hρ hzA hLz hct d) hm h hb⟩
/-- a new contract, out of those before -/
theorem wk_hC_new {l : Launch} {D : va_G} {A : Nat → Prop} {z Lz : Nat} {ρ : Nat → Int32} {mt : Nat → Option wk_M} {mw : wk_W} {ct : Nat → List wk_T3} {fuel d0 d id : Nat} {M : wk_M} {iv : wk_I} {T : wk_T3} {Ss : List wk_Sn} {fs : List wk_F} (hmt : ∀ id M, mt id = some M → wk_okm mt mw id M = true) (hρ : ρ 5 = ρ 0 &&& 63) (hzA : ¬ A z) (hLz : Lz < 2 ^ 31) (hct : ∀ id M, mt id = some M → ∀ T ∈ ct id, wk_hC l D A z Lz ρ d0 M T) (hm : mt id = some M) (hb : wk_bx ρ iv) (h : wk_conE mt Lz M (wk_runK mt Lz ct fuel d) fuel iv T.1 T.2.1 Ss = some fs) (hg : fs.all (fun f => T.2.2.any (wk_blF f)) = true) : wk_hC l D A z Lz ρ (d0 + d + 1) M T :=
  ⟨d0 + d, Nat.le_refl _, wk_con_ok hmt hρ hzA hLz (wk_runK_good hmt hρ hzA hLz hct d) hm h hg hb⟩
