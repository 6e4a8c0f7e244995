/-! ===== contracts with names: what stands at a place may be told by what stood there ===== -/
def kd_leV (n0 : Nat) (iv : kd_I) (n : Nat) (v w : kd_V) : Bool := bif Nat.beq w.1 1 then (Nat.blt w.2.1 n0 && (Nat.beq v.1 1 && (Nat.beq v.2.1 w.2.1 && Nat.beq v.2.2 w.2.2))) else kd_le iv n v w
theorem kd_leV_r {n0 : Nat} {iv : kd_I} {n : Nat} {v w : kd_V} {ρ σ : Nat → Nat} {x : kc_V} (h : kd_leV n0 iv n v w = true) (ha : kd_ag n0 σ ρ) (hb : kd_bx ρ iv n) (hv : kd_g n ρ v x) : kd_g n0 σ w x := by
  unfold kd_leV at h
  rcases kd_bif h with ⟨c, h⟩ | ⟨-, h⟩
  · obtain ⟨t, a, b⟩ := w
    obtain ⟨t2, a2, b2⟩ := v
    simp only [Bool.and_eq_true] at h
    obtain ⟨k1, k2, k3, k4⟩ := h
    obtain rfl := Nat.eq_of_beq_eq_true c
    obtain rfl := Nat.eq_of_beq_eq_true k2
    obtain rfl := Nat.eq_of_beq_eq_true k3
    obtain rfl := Nat.eq_of_beq_eq_true k4
    have k1 : a2 < n0 := Nat.le_of_ble_eq_true k1
    obtain ⟨-, z, e1, e2⟩ := hv
    refine ⟨k1, z, e1, ?_⟩
    rw [← ha a2 k1]
    exact e2
  · exact kd_le_r h hb hv
def kd_leFv (ty : kd_T) (n0 : Nat) (iv : kd_I) (n : Nat) (F : kd_F) : kd_F → Bool
  | [] => true
  | (c, i, w) :: r => (match kd_ev ty F c i with
    | some v => kd_leV n0 iv n v w
    | none => false) && kd_leFv ty n0 iv n F r
theorem kd_leFv_r {ty : kd_T} {n0 : Nat} {iv : kd_I} {n : Nat} {F : kd_F} {ρ σ : Nat → Nat} {h : kc_H} (ha : kd_ag n0 σ ρ) (hb : kd_bx ρ iv n) (hF : kd_gF n ρ F h) (hw : kd_wt ty h) : ∀ (G : kd_F), kd_leFv ty n0 iv n F G = true → kd_gF n0 σ G h
  | [], _, q, hq => by cases hq
  | (c, i, w) :: r, hk, q, hq => by
    have hk : ((match kd_ev ty F c i with
      | some v => kd_leV n0 iv n v w
      | none => false) && kd_leFv ty n0 iv n F r) = true := hk
    rw [Bool.and_eq_true] at hk
    rcases List.mem_cons.mp hq with rfl | hq
    · cases he : kd_ev ty F c i with
      | none => rw [he] at hk; cases hk.1
      | some v =>
        rw [he] at hk
        exact kd_leV_r hk.1 ha hb (kd_ev_r he hF hw)
    · exact kd_leFv_r ha hb hF hw r hk.2 q hq
def kd_finv (ty : kd_T) (n0 : Nat) (ps : List kd_P) : kd_R := fun iv n rv F W => ps.any fun p => (match rv, p.1 with
  | none, none => true
  | some v, some w => kd_leV n0 iv n v w
  | _, _ => false) && (kd_leFv ty n0 iv n F p.2.1 && kd_cvW p.2.2 W)
theorem kd_finv_r {ty : kd_T} {ps : List kd_P} {h0 : kc_H} {σ ρ0 : Nat → Nat} {n0 n1 : Nat} (ha : kd_ag n0 σ ρ0) (hn : n0 ≤ n1) : kd_rgood (fun xr h' => ∃ p ∈ ps, kd_rv n0 σ p.1 xr ∧ kd_gF n0 σ p.2.1 h' ∧ kd_wt ty h' ∧ kd_fr p.2.2 h0 h') ty h0 ρ0 n1 (kd_finv ty n0 ps) := by
  intro iv n rv F W h hn1 ρ xr hh ha1 hb hr hF hw hfr
  obtain ⟨p, p1, p2⟩ := List.any_eq_true.mp h
  simp only [Bool.and_eq_true] at p2
  obtain ⟨q1, q2, q3⟩ := p2
  have ha2 : kd_ag n0 σ ρ := kd_ag_tr ha ha1 hn
  refine ⟨p, p1, ?_, kd_leFv_r ha2 hb hF hw _ q2, hw, kd_cvW_r W q3 hfr⟩
  obtain ⟨rw, fs, ws⟩ := p
  cases rv with
  | none =>
    cases xr with
    | none =>
      cases rw with
      | none => trivial
      | some _ => cases q1
    | some _ => exact hr.elim
  | some v =>
    cases xr with
    | none => exact hr.elim
    | some x =>
      cases rw with
      | none => cases q1
      | some w => exact kd_leV_r q1 ha2 hb hr
def kd_holdv (g : kc_G) (d : Nat) (ty : kd_T) (id : Nat) (iv0 : kd_I) (n0 : Nat) (T : kd_Tc) : Prop := ∀ (σ : Nat → Nat) (xs : List kc_V) (h : kc_H), kd_bx σ iv0 n0 → kd_wt ty h → wk_f2 (kd_g 0 (fun _ => 0)) T.1 xs → kd_gF n0 σ T.2.1 h → kc_Con g d id xs h (fun xr h' => ∃ p ∈ T.2.2, kd_rv n0 σ p.1 xr ∧ kd_gF n0 σ p.2.1 h' ∧ kd_wt ty h' ∧ kd_fr p.2.2 h h')
noncomputable def kd_runv (ty : kd_T) (X : List (List kd_X)) (nL : Nat) (call : kd_Cl) (iv0 : kd_I) (n0 : Nat) (T : kd_Tc) (fuel : Nat) : Bool := kd_nmL T.1 iv0 n0 fun iv n al => kd_argl al nL (fun AL => kd_go ty X nL (fun _ _ _ _ _ _ _ => false) call (kd_finv ty n0 T.2.2) fuel 0 iv n AL [] T.2.1 [])
theorem kd_newv {g : kc_G} {d : Nat} {ty : kd_T} {call : kd_Cl} {id : Nat} {M : wk_M} {X : List (List kd_X)} {nL : Nat} {iv0 : kd_I} {n0 : Nat} {T : kd_Tc} {fuel : Nat} (hg : kc_ok g) (hX : kd_isA2 M X = true) (hm : wk_mt id = some M) (hk : wk_Mk M = 0) (hs : wk_Ms M = 0) (hl : wk_Ml M = nL) (hcall : ∀ h0, kd_good g d ty h0 call) (h0 : kd_runv ty X nL call iv0 n0 T fuel = true) : kd_holdv g (d + 1) ty id iv0 n0 T := by
  subst hl
  intro σ xs h hb hw hv hF
  unfold kd_runv at h0
  obtain ⟨ρ, iv, n, al, a1, a2, b3, b4, h0⟩ := kd_nmL_r T.1 xs iv0 n0 σ _ h0 hb hv
  obtain ⟨AL, k1, k2, k3⟩ := kd_argl_r (n := n) (ρ := ρ) al xs _ _ h0 b4
  refine kc_Con_new hg hm hk hs k2 (kd_go_r (h0 := h) (ρ0 := ρ) (n0 := n) hX (hcall h) (kd_finv_r a1 a2) (fun pc iv n AL AS F W hc => by cases hc) fuel _ _ _ _ _ _ _ k1 (Nat.le_refl _) ρ _ [] h kd_ag_rf b3 (fun i v hi hk => ?_) trivial (fun q hq => kd_g_ag (hF q hq) a1 a2) hw (fun c i _ => rfl))
  obtain ⟨y, e1, e2⟩ := k3 0 i v hi hk
  rw [Nat.zero_add] at e1
  exact ⟨y, e1, e2⟩
theorem kv_bx0 {σ : Nat → Nat} : kd_bx σ [] 0 := ⟨rfl, fun j l u hat => by unfold kd_at at hat; simp [Nat.blt, Nat.ble] at hat⟩
theorem kv_bx1 {a b s : Nat} (h1 : a ≤ s) (h2 : s ≤ b) : kd_bx (fun _ => s) [(a, b)] 1 := by
  refine ⟨rfl, fun j l u hat => ?_⟩
  cases j with
  | zero =>
    have hat : some (a, b) = some (l, u) := hat
    cases hat
    exact ⟨h1, h2⟩
  | succ j =>
    exfalso
    unfold kd_at at hat
    simp [Nat.blt, Nat.ble] at hat
