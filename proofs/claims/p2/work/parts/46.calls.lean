/-! ===== calls by sparse contract, else by running ===== -/
abbrev wk_T4 : Type := List wk_V × Nat × wk_Dl × List wk_F
def wk_tryS (iv : wk_I) (av : List wk_V) (AH : wk_A) : List wk_T4 → Option (List wk_F)
  | [] => none
  | T :: r => bif Nat.beq AH.1 T.2.1 && (wk_blL (wk_bl iv) av T.1 && wk_blD iv AH T.2.2.1) then wk_inst iv AH T.2.2.2 else wk_tryS iv av AH r
theorem wk_tryS_r {iv : wk_I} {av : List wk_V} {AH : wk_A} {fs : List wk_F} : ∀ {Ts : List wk_T4}, wk_tryS iv av AH Ts = some fs → ∃ T ∈ Ts, AH.1 = T.2.1 ∧ wk_blL (wk_bl iv) av T.1 = true ∧ wk_blD iv AH T.2.2.1 = true ∧ wk_inst iv AH T.2.2.2 = some fs
  | [], h => by cases h
  | T :: r, h => by
    unfold wk_tryS at h
    cases hc : Nat.beq AH.1 T.2.1 && (wk_blL (wk_bl iv) av T.1 && wk_blD iv AH T.2.2.1) with
    | true =>
      rw [hc] at h
      simp only [Bool.and_eq_true] at hc
      exact ⟨T, List.mem_cons_self, Nat.eq_of_beq_eq_true hc.1, hc.2.1, hc.2.2, h⟩
    | false =>
      rw [hc] at h
      obtain ⟨T2, h1, h2⟩ := wk_tryS_r h
      exact ⟨T2, List.mem_cons_of_mem _ h1, h2⟩
/-- a sparse contract holds, at a depth below `d` -/
def wk_hS (l : Launch) (D : va_G) (A : Nat → Prop) (z Lz : Nat) (ρ : Nat → Int32) (d : Nat) (M : wk_M) (T : wk_T4) : Prop :=
  ∃ rows, wk_putD1 T.2.2.1 wk_unR = some rows ∧ wk_hC l D A z Lz ρ d M (T.1, (T.2.1, rows), T.2.2.2)
noncomputable def wk_kS (ct : Nat → List wk_T4) (k : wk_K) : wk_K := fun id av iv AH => match wk_tryS iv av AH (ct id) with
  | some fs => some fs
  | none => k id av iv AH
theorem wk_kS_good {l : Launch} {D : va_G} {A : Nat → Prop} {z Lz : Nat} {ρ : Nat → Int32} {mt : Nat → Option wk_M} {d : Nat} {ct : Nat → List wk_T4} {k : wk_K} (hk : wk_good l D A z Lz ρ mt d k) (hct : ∀ id M, mt id = some M → ∀ T ∈ ct id, wk_hS l D A z Lz ρ d M T) : wk_good l D A z Lz ρ mt d (wk_kS ct k) := by
  intro id M av iv AH fs hm h hb
  unfold wk_kS at h
  cases ht : wk_tryS iv av AH (ct id) with
  | none => rw [ht] at h; exact hk id M av iv AH fs hm h hb
  | some g =>
    rw [ht] at h
    cases h
    obtain ⟨T, h1, h2, h3, h4, h5⟩ := wk_tryS_r ht
    obtain ⟨rows, r1, d2, e1, e2⟩ := hct id M hm T h1
    exact ⟨d2, e1, wk_con_useS hb h3 h2 h4 r1 h5 e2⟩
noncomputable def wk_runS (mt : Nat → Option wk_M) (Lz : Nat) (ct : Nat → List wk_T4) (fuel : Nat) : Nat → wk_K
  | 0 => wk_kS ct (fun _ _ _ _ => none)
  | d + 1 => wk_kS ct (fun id av iv AH => match mt id with
    | some M => wk_conD mt Lz M (wk_runS mt Lz ct fuel d) fuel iv av AH []
    | none => none)
theorem wk_runS_good {l : Launch} {D : va_G} {A : Nat → Prop} {z Lz : Nat} {ρ : Nat → Int32} {mt : Nat → Option wk_M} {mw : wk_W} {ct : Nat → List wk_T4} {fuel d0 : Nat} (hmt : ∀ id M, mt id = some M → wk_okm mt mw id M = true) (hρ : ρ 5 = ρ 0 &&& 63) (hzA : ¬ A z) (hLz : Lz < 2 ^ 31) (hct : ∀ id M, mt id = some M → ∀ T ∈ ct id, wk_hS l D A z Lz ρ d0 M T) : ∀ d, wk_good l D A z Lz ρ mt (d0 + d) (wk_runS mt Lz ct fuel d)
  | 0 => wk_kS_good (fun _ _ _ _ _ _ _ h => by cases h) hct
  | d + 1 => by
    refine wk_kS_good (fun id M av iv AH fs hm h hb => ?_) (fun id M hm T hT => by
      obtain ⟨rows, r1, r2⟩ := hct id M hm T hT
      exact ⟨rows, r1, wk_hC_le r2 (by omega)⟩)
    simp only [hm] at h
    exact ⟨d0 + d, by omega, wk_conD_ok hmt hρ hzA hLz (wk_runS_good hmt hρ hzA hLz hct d) hm h hb⟩
/-- a new sparse contract, out of those before -/
theorem wk_hS_new {l : Launch} {D : va_G} {A : Nat → Prop} {z Lz : Nat} {ρ : Nat → Int32} {mt : Nat → Option wk_M} {mw : wk_W} {ct : Nat → List wk_T4} {fuel d0 d id n : Nat} {M : wk_M} {iv : wk_I} {av : List wk_V} {pre : wk_Dl} {rows : List (List wk_C)} {Ss : List wk_Sd} {fs Gs : List wk_F} {gs : List wk_Fd} (hmt : ∀ id M, mt id = some M → wk_okm mt mw id M = true) (hρ : ρ 5 = ρ 0 &&& 63) (hzA : ¬ A z) (hLz : Lz < 2 ^ 31) (hct : ∀ id M, mt id = some M → ∀ T ∈ ct id, wk_hS l D A z Lz ρ d0 M T) (hm : mt id = some M) (hb : wk_bx ρ iv) (hp : wk_putD1 pre wk_unR = some rows) (h : wk_conD mt Lz M (wk_runS mt Lz ct fuel d) fuel iv av (n, rows) Ss = some fs) (hg : fs.all (fun f => gs.any (wk_blFd n f)) = true) (hmk : wk_mkF (n, rows) gs = some Gs) : wk_hS l D A z Lz ρ (d0 + d + 1) M (av, n, pre, Gs) :=
  ⟨rows, hp, d0 + d, Nat.le_refl _, fun as ws vals hv => wk_met_mono (wk_conD_ok hmt hρ hzA hLz (wk_runS_good hmt hρ hzA hLz hct d) hm h hb as ws vals hv) (fun _ _ q => q) (fun _ _ _ _ hp hW q => wk_blFd_Q (P := (n, rows)) hg hmk hp.2.2.2.2.2 hW q)⟩
