/-! ===== contracts in calls ===== -/
theorem wk_met_mono {l : Launch} {y : MethodName} {ws : List Cond} {rm : Room} {P P' : Array Value → State → Prop} {Q Q' : Array Value → State → Outcome → State → Prop} {mc ms : Nat} {free : Addr → Prop} (h : Met l y ws rm P Q mc ms free) (hP : ∀ a s, P' a s → P a s) (hQ : ∀ a (s : State) o (t : State), P' a s → s.WarmedH t.vm → Q a s o t → Q' a s o t) : Met l y ws rm P' Q' mc ms free := by
  intro p e ha hc hk s m args below hf happ hp hK
  obtain ⟨n, o, h1, h2, h3, h4, h5⟩ := h p e ha hc hk s m args below hf happ (hP _ _ hp) hK
  obtain ⟨L, ⟨g1, g2, g3⟩, g4⟩ := h5
  exact ⟨n, o, h1, h2, h3, hQ _ _ _ _ hp g2 h4, L, ⟨g1, g2, g3⟩, g4⟩
/-- the cells written, out of a leaf's heap -/
def wk_mrg {β : Type} (F : wk_A) : List Nat → List (List wk_C) → (List (List wk_C) → β) → Option β
  | [], r, k => some (k r)
  | n :: l, r, k => match wk_at2 F.2 n with
    | some c => bif (wk_at2 r n).isSome then wk_put2 r n c (fun r => wk_mrg F l r k) else none
    | none => none
def wk_mrg1 (F : wk_A) : List Nat → List (List wk_C) → Option (List (List wk_C))
  | [], r => some r
  | n :: l, r => match wk_at2 F.2 n with
    | some c => bif (wk_at2 r n).isSome then wk_mrg1 F l (wk_set2 r n c) else none
    | none => none
theorem wk_mrg_eq {β : Type} (F : wk_A) : ∀ (l : List Nat) (r : List (List wk_C)) (k : List (List wk_C) → β), wk_mrg F l r k = (wk_mrg1 F l r).map k
  | [], _, _ => rfl
  | n :: l, r, k => by
    unfold wk_mrg wk_mrg1
    cases wk_at2 F.2 n with
    | none => rfl
    | some c =>
      simp only
      cases (wk_at2 r n).isSome with
      | false => rfl
      | true =>
        simp only [cond_true]
        rw [wk_put2_eq, wk_mrg_eq F l]
/-- behind a merge: a cell is the leaf's, if it was written, else the caller's -/
theorem wk_mrg1_at (F : wk_A) : ∀ (l : List Nat) (r r' : List (List wk_C)), wk_mrg1 F l r = some r' → ∀ (k : Nat) (c : wk_C), wk_at2 r' k = some c → (k ∈ l ∧ wk_at2 F.2 k = some c) ∨ (k ∉ l ∧ wk_at2 r k = some c)
  | [], r, r', h, k, c, hk => by
    cases h
    exact Or.inr ⟨List.not_mem_nil, hk⟩
  | n :: l, r, r', h, k, c, hk => by
    unfold wk_mrg1 at h
    cases hf : wk_at2 F.2 n with
    | none => rw [hf] at h; cases h
    | some d =>
      rw [hf] at h
      replace h := wk_bt h
      obtain ⟨h1, h2⟩ := h
      rcases wk_mrg1_at F l _ _ h2 k c hk with ⟨g1, g2⟩ | ⟨g1, g2⟩
      · exact Or.inl ⟨List.mem_cons_of_mem _ g1, g2⟩
      · rw [wk_at2_set _ _ _ _ h1] at g2
        by_cases e : k = n
        · subst e
          rw [if_pos rfl] at g2
          cases g2
          exact Or.inl ⟨List.mem_cons_self, hf⟩
        · rw [if_neg e] at g2
          exact Or.inr ⟨fun q => (List.mem_cons.mp q).elim e g1, g2⟩
/-- a contract: what the arguments and the heap must be below, the ways' ends -/
abbrev wk_T3 : Type := List wk_V × wk_A × List wk_F
/-- the ways' ends at a caller's heap (no cell is made) -/
def wk_inst (iv : wk_I) (AH : wk_A) : List wk_F → Option (List wk_F)
  | [] => some []
  | f :: l => match wk_mrg f.2.2.1 f.2.2.2 AH.2 (fun r => (iv, f.2.1, (AH.1, r), f.2.2.2)), wk_inst iv AH l with
    | some g, some m => bif Nat.beq f.2.2.1.1 AH.1 then some (g :: m) else none
    | _, _ => none
theorem wk_inst_r {iv : wk_I} {AH : wk_A} : ∀ {l fs : List wk_F}, wk_inst iv AH l = some fs → ∀ f ∈ l, ∃ r, wk_mrg1 f.2.2.1 f.2.2.2 AH.2 = some r ∧ f.2.2.1.1 = AH.1 ∧ (iv, f.2.1, (AH.1, r), f.2.2.2) ∈ fs
  | [], _, _, f, hf => by cases hf
  | a :: l, fs, h, f, hf => by
    unfold wk_inst at h
    split at h
    · rename_i g m h1 h2
      replace h := wk_bt h
      obtain ⟨h3, h4⟩ := h
      cases h4
      rw [wk_mrg_eq] at h1
      obtain ⟨r, r1, r2⟩ := Option.map_eq_some_iff.mp h1
      rcases List.mem_cons.mp hf with rfl | hf
      · exact ⟨r, r1, Nat.eq_of_beq_eq_true h3, List.mem_cons.mpr (Or.inl r2)⟩
      · obtain ⟨q, q1, q2, q3⟩ := wk_inst_r h2 f hf
        exact ⟨q, q1, q2, List.mem_cons_of_mem _ q3⟩
    · cases h
theorem wk_con_use {l : Launch} {D : va_G} {A : Nat → Prop} {z Lz : Nat} {ρ : Nat → Int32} {M : wk_M} {d : Nat} {iv : wk_I} {av avP : List wk_V} {AH P : wk_A} {fs0 fs : List wk_F} (hb : wk_bx ρ iv) (ha : wk_blL (wk_bl iv) av avP = true) (hA : wk_blA iv AH P = true) (hi : wk_inst iv AH fs0 = some fs)
    (hM : ∀ (as : List Nat) (ws : va_W) (vals : List Value), wk_f2 (wk_r as z ρ) avP vals → Met l (wk_My M) (wk_ws M) (wk_rm M d) (wk_Pc D A z Lz ρ vals P as ws) (wk_Qc D A z ρ fs0 as ws) (wk_Mk M) (wk_Ms M) A) :
    ∀ (as : List Nat) (ws : va_W) (vals : List Value), wk_f2 (wk_r as z ρ) av vals → Met l (wk_My M) (wk_ws M) (wk_rm M d) (wk_Pc D A z Lz ρ vals AH as ws) (wk_Qc D A z ρ fs as ws) (wk_Mk M) (wk_Ms M) A := by
  intro as ws vals hv
  have hv2 : wk_f2 (wk_r as z ρ) avP vals := wk_f2_of (by rw [← (wk_blL_at ha).1, wk_f2_len hv]) (fun k b x hk hx => by
    obtain ⟨a, a1, a2⟩ := (wk_blL_at ha).2 k b hk
    obtain ⟨x2, x3, x4⟩ := wk_f2_at hv k a a1
    cases hx.symm.trans x3
    exact wk_bl_r hb a2 x4)
  refine wk_met_mono (hM as ws vals hv2) (fun a s h => ?_) (fun a s o t h hW hq => ?_)
  · obtain ⟨h1, h2, h3, h4, h5, h6⟩ := h
    exact ⟨h1, h2, h3, h4, h5, wk_blA_r hb hA h6⟩
  · obtain ⟨-, -, -, -, -, h6⟩ := h
    obtain ⟨⟨f, hf, -, rv, more, ws', q1, q2, q3, q4⟩, q5⟩ := hq
    obtain ⟨r, r1, r2, r3⟩ := wk_inst_r hi f hf
    have hlen : ws'.length = ws.length := by rw [q3.2.2.1, r2, h6.2.2.1]
    have hmore : more = [] := by
      have e1 := congrArg List.length q3.2.2.2.1
      have e2 := congrArg List.length h6.2.2.2.1
      rw [List.length_map, List.length_append] at e1
      rw [List.length_map] at e2
      exact List.length_eq_zero_iff.mp (by omega)
    subst hmore
    rw [List.append_nil] at q2 q3
    refine ⟨⟨_, r3, hb, rv, [], ws', q1, by rw [List.append_nil]; exact q2, ?_, q4⟩, q5⟩
    rw [List.append_nil]
    refine ⟨q3.1, q3.2.1, by rw [hlen]; exact h6.2.2.1, q3.2.2.2.1, fun k c hk hc => ?_⟩
    rcases wk_mrg1_at _ _ _ _ r1 k c hc with ⟨g1, g2⟩ | ⟨g1, g2⟩
    · exact q3.2.2.2.2 k c (by rw [r2]; exact hk) g2
    · obtain ⟨a2, e2, g3, g4⟩ := h6.2.2.2.2 k c hk g2
      refine ⟨a2, e2, ?_, ?_⟩
      · rw [q4 k (by rw [h6.2.2.1]; exact hk) g1]
        exact g3
      · exact wk_e_moved hW.alike g4
