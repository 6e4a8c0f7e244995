/-! ===== contracts that ask only for some cells ===== -/
def wk_un : wk_C := .inr (1000, [])
def wk_unR : List (List wk_C) := List.replicate 10 (List.replicate 32 wk_un)
theorem wk_unR_at {k : Nat} {c : wk_C} (h : wk_at2 wk_unR k = some c) : c = .inr (1000, []) := by
  rw [wk_at2_eq] at h
  unfold wk_unR at h
  simp only [List.getElem?_replicate] at h
  by_cases h1 : k / 32 < 10
  · rw [if_pos h1] at h
    simp only [Option.bind_some, List.getElem?_replicate] at h
    by_cases h2 : k % 32 < 32
    · rw [if_pos h2] at h
      cases h
      rfl
    · rw [if_neg h2] at h
      cases h
  · rw [if_neg h1] at h
    cases h
theorem wk_con_useS {l : Launch} {D : va_G} {A : Nat → Prop} {z Lz : Nat} {ρ : Nat → Int32} {M : wk_M} {d : Nat} {iv : wk_I} {av avP : List wk_V} {AH : wk_A} {pre : wk_Dl} {rows : List (List wk_C)} {n : Nat} {fs0 fs : List wk_F} (hb : wk_bx ρ iv) (ha : wk_blL (wk_bl iv) av avP = true) (hn : AH.1 = n) (hd : wk_blD iv AH pre = true) (hp : wk_putD1 pre wk_unR = some rows) (hi : wk_inst iv AH fs0 = some fs)
    (hM : ∀ (as : List Nat) (ws : va_W) (vals : List Value), wk_f2 (wk_r as z ρ) avP vals → Met l (wk_My M) (wk_ws M) (wk_rm M d) (wk_Pc D A z Lz ρ vals (n, rows) as ws) (wk_Qc D A z ρ fs0 as ws) (wk_Mk M) (wk_Ms M) A) :
    ∀ (as : List Nat) (ws : va_W) (vals : List Value), wk_f2 (wk_r as z ρ) av vals → Met l (wk_My M) (wk_ws M) (wk_rm M d) (wk_Pc D A z Lz ρ vals AH as ws) (wk_Qc D A z ρ fs as ws) (wk_Mk M) (wk_Ms M) A := by
  intro as ws vals hv
  have hv2 : wk_f2 (wk_r as z ρ) avP vals := wk_f2_of (by rw [← (wk_blL_at ha).1, wk_f2_len hv]) (fun k b x hk hx => by
    obtain ⟨a, a1, a2⟩ := (wk_blL_at ha).2 k b hk
    obtain ⟨x2, x3, x4⟩ := wk_f2_at hv k a a1
    cases hx.symm.trans x3
    exact wk_bl_r hb a2 x4)
  refine wk_met_mono (hM as ws vals hv2) (fun a s h => ?_) (fun a s o t h hW hq => ?_)
  · obtain ⟨h1, h2, h3, h4, h5, h6⟩ := h
    exact ⟨h1, h2, h3, h4, h5, wk_sp_r hb h6 hn hd (fun k c hc => (wk_putD1_at _ _ _ hp k c hc).imp id (fun q => ⟨_, wk_unR_at q.2⟩))⟩
  · obtain ⟨-, -, -, -, -, h6⟩ := h
    obtain ⟨⟨f, hf, -, rv, more, ws', q1, q2, q3, q4⟩, q5⟩ := hq
    obtain ⟨r, r1, r2, r3⟩ := wk_inst_r hi f hf
    have hlen : ws'.length = ws.length := by rw [q3.2.2.1, r2, h6.2.2.1]
    have hmore : more = [] := by
      have e1 := congrArg List.length q3.2.2.2.1
      have e2 := congrArg List.length h6.2.2.2.1
      rw [List.length_map, List.length_append] at e1
      rw [List.length_map] at e2
      exact List.length_eq_zero_iff.mp (by omega)
    subst hmore
    rw [List.append_nil] at q2 q3
    refine ⟨⟨_, r3, hb, rv, [], ws', q1, by rw [List.append_nil]; exact q2, ?_, q4⟩, q5⟩
    rw [List.append_nil]
    refine ⟨q3.1, q3.2.1, by rw [hlen]; exact h6.2.2.1, q3.2.2.2.1, fun k c hk hc => ?_⟩
    rcases wk_mrg1_at _ _ _ _ r1 k c hc with ⟨g1, g2⟩ | ⟨g1, g2⟩
    · exact q3.2.2.2.2 k c (by rw [r2]; exact hk) g2
    · obtain ⟨a2, e2, g3, g4⟩ := h6.2.2.2.2 k c hk g2
      refine ⟨a2, e2, ?_, ?_⟩
      · rw [q4 k (by rw [h6.2.2.1]; exact hk) g1]
        exact g3
      · exact wk_e_moved hW.alike g4
