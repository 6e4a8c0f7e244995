/-! ===== ways' ends told by the cells in which they differ from the entry's heap ===== -/
abbrev wk_Fd : Type := wk_I × Option wk_V × wk_Dl
def wk_mkF (P : wk_A) : List wk_Fd → Option (List wk_F)
  | [] => some []
  | g :: l => match wk_putD g.2.2 P.2 (fun r => (g.1, g.2.1, (P.1, r), wk_ks g.2.2)), wk_mkF P l with
    | some f, some m => some (f :: m)
    | _, _ => none
theorem wk_mkF_r {P : wk_A} : ∀ {l : List wk_Fd} {fs : List wk_F}, wk_mkF P l = some fs → ∀ g ∈ l, ∃ r, wk_putD1 g.2.2 P.2 = some r ∧ (g.1, g.2.1, (P.1, r), wk_ks g.2.2) ∈ fs
  | [], _, _, g, hg => by cases hg
  | a :: l, fs, h, g, hg => by
    unfold wk_mkF at h
    split at h
    · rename_i f m h1 h2
      cases h
      rw [wk_putD_eq] at h1
      obtain ⟨r, r1, r2⟩ := Option.map_eq_some_iff.mp h1
      rcases List.mem_cons.mp hg with rfl | hg
      · exact ⟨r, r1, List.mem_cons.mpr (Or.inl r2)⟩
      · obtain ⟨q, q1, q2⟩ := wk_mkF_r h2 g hg
        exact ⟨q, q1, List.mem_cons_of_mem _ q2⟩
    · cases h
def wk_blFd (n : Nat) (f : wk_F) (g : wk_Fd) : Bool :=
  wk_blI f.1 0 g.1 && (wk_blO f.1 f.2.1 g.2.1 && (wk_sub f.2.2.2 (wk_ks g.2.2) && (Nat.beq f.2.2.1.1 n && wk_blD f.1 f.2.2.1 g.2.2)))
theorem wk_blFd_Q {D : va_G} {A : Nat → Prop} {z : Nat} {ρ : Nat → Int32} {P : wk_A} {fs Gs : List wk_F} {gs : List wk_Fd} (h : fs.all (fun f => gs.any (wk_blFd P.1 f)) = true) (hmk : wk_mkF P gs = some Gs) {as : List Nat} {ws : va_W} {a : Array Value} {s : State} {o : Outcome} {t : State} (h0 : wk_hr D A s as z ρ P ws s.heap) (hW : s.WarmedH t.vm) (hq : wk_Qc D A z ρ fs as ws a s o t) : wk_Qc D A z ρ Gs as ws a s o t := by
  obtain ⟨⟨f, hf, hb, rv, more, ws', q1, q2, q3, q4⟩, q5⟩ := hq
  obtain ⟨g, hg, hfg⟩ := List.any_eq_true.mp (List.all_eq_true.mp h f hf)
  unfold wk_blFd at hfg
  simp only [Bool.and_eq_true] at hfg
  obtain ⟨h1, h2, h3, h4, h5⟩ := hfg
  obtain ⟨r, r1, r2⟩ := wk_mkF_r hmk g hg
  have hbg : wk_bx ρ g.1 := fun k q hk => by
    have := wk_blI_r hb g.1 0 h1 k q hk
    rw [Nat.zero_add] at this
    exact this
  have h0' : wk_hr D A t as z ρ P ws s.heap := ⟨h0.1, h0.2.1, h0.2.2.1, h0.2.2.2.1, fun k c hk hc => by
    obtain ⟨a, e, e1, e2⟩ := h0.2.2.2.2 k c hk hc
    exact ⟨a, e, e1, wk_e_moved hW.alike e2⟩⟩
  refine ⟨⟨_, r2, hbg, rv, more, ws', q1, ?_, wk_dl_r hb h0' q3 q4 (Nat.eq_of_beq_eq_true h4) h5 h3 r1, fun j hj hjw => q4 j hj (fun q => hjw (wk_mem_r (List.all_eq_true.mp h3 j q)))⟩, q5⟩
  cases hf2 : f.2.1 with
  | none =>
    rw [hf2] at q2 h2
    cases hg2 : g.2.1 with
    | none => exact q2
    | some w => rw [hg2] at h2; cases h2
  | some v =>
    rw [hf2] at q2 h2
    cases hg2 : g.2.1 with
    | none => rw [hg2] at h2; cases h2
    | some w =>
      rw [hg2] at h2
      cases rv with
      | none => exact q2.elim
      | some xv => exact wk_bl_r hb h2 q2
/-- a new contract, out of those before, all told by differing cells -/
theorem wk_hC_newD {l : Launch} {D : va_G} {A : Nat → Prop} {z Lz : Nat} {ρ : Nat → Int32} {mt : Nat → Option wk_M} {mw : wk_W} {ct : Nat → List wk_T3} {fuel d0 d id : Nat} {M : wk_M} {iv : wk_I} {av : List wk_V} {P : wk_A} {Ss : List wk_Sd} {fs Gs : List wk_F} {gs : List wk_Fd} (hmt : ∀ id M, mt id = some M → wk_okm mt mw id M = true) (hρ : ρ 5 = ρ 0 &&& 63) (hzA : ¬ A z) (hLz : Lz < 2 ^ 31) (hct : ∀ id M, mt id = some M → ∀ T ∈ ct id, wk_hC l D A z Lz ρ d0 M T) (hm : mt id = some M) (hb : wk_bx ρ iv) (h : wk_conD mt Lz M (wk_runK mt Lz ct fuel d) fuel iv av P Ss = some fs) (hg : fs.all (fun f => gs.any (wk_blFd P.1 f)) = true) (hmk : wk_mkF P gs = some Gs) : wk_hC l D A z Lz ρ (d0 + d + 1) M (av, P, Gs) :=
  ⟨d0 + d, Nat.le_refl _, fun as ws vals hv => wk_met_mono (wk_conD_ok hmt hρ hzA hLz (wk_runK_good hmt hρ hzA hLz hct d) hm h hb as ws vals hv) (fun _ _ q => q) (fun _ _ _ _ hp hW q => wk_blFd_Q hg hmk hp.2.2.2.2.2 hW q)⟩
