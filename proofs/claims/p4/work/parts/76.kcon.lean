/-! ===== THE RULE: a contract out of an entry and stations ===== -/
/-- an end is one of the contract's -/
def kd_fin (ty : kd_T) (ps : List kd_P) : kd_R := fun iv n rv F W => ps.any fun p => (match rv, p.1 with
  | none, none => true
  | some v, some w => kd_le iv n v w
  | _, _ => false) && (kd_leF ty iv n F p.2.1 && kd_cvW p.2.2 W)
theorem kd_fin_r {ty : kd_T} {ps : List kd_P} {h0 : kc_H} {ρ0 : Nat → Nat} {n0 : Nat} : kd_rgood (fun xr h' => ∃ p ∈ ps, kd_rv 0 (fun _ => 0) p.1 xr ∧ kd_gF 0 (fun _ => 0) p.2.1 h' ∧ kd_wt ty h' ∧ kd_fr p.2.2 h0 h') ty h0 ρ0 n0 (kd_fin ty ps) := by
  intro iv n rv F W h _ ρ xr hh _ hb hr hF hw hfr
  obtain ⟨p, p1, p2⟩ := List.any_eq_true.mp h
  simp only [Bool.and_eq_true] at p2
  obtain ⟨q1, q2, q3⟩ := p2
  refine ⟨p, p1, ?_, kd_leF_r hb hF hw _ q2, hw, kd_cvW_r W q3 hfr⟩
  obtain ⟨rw, fs, ws⟩ := p
  cases rv with
  | none =>
    cases xr with
    | none =>
      cases rw with
      | none => trivial
      | some _ => cases q1
    | some _ => exact hr.elim
  | some v =>
    cases xr with
    | none => exact hr.elim
    | some x =>
      cases rw with
      | none => cases q1
      | some w => exact kd_le_r q1 hb hr
def kd_sok (S : kd_St) : Bool := match S with
  | (_, iv, n, _, _, _, mu) => Nat.beq iv.length n && kd_mok n mu
/-- the run from a station, up to stations -/
noncomputable def kd_run1 (ty : kd_T) (X : List (List kd_X)) (nL : Nat) (call : kd_Cl) (ps : List kd_P) (fuel : Nat) (Ss : List kd_St) (S : kd_St) : Bool := match S with
  | (pc, iv, n, AL, F, W, mu) => kd_go ty X nL (fun pc iv n AL AS F W => Ss.any (kd_arr ty (some mu) pc iv n AL AS F W)) call (kd_fin ty ps) fuel pc iv n AL [] F W
/-- the arguments get names -/
def kd_nmL : List kd_V → kd_I → Nat → (kd_I → Nat → List kd_V → Bool) → Bool
  | [], iv, n, k => k iv n []
  | v :: r, iv, n, k => kd_nm iv n v (fun iv n v => kd_nmL r iv n (fun iv n l => k iv n (v :: l)))
theorem kd_nmL_r : ∀ (av : List kd_V) (xs : List kc_V) (iv : kd_I) (n : Nat) (ρ : Nat → Nat) (k : kd_I → Nat → List kd_V → Bool), kd_nmL av iv n k = true → kd_bx ρ iv n → wk_f2 (kd_g 0 (fun _ => 0)) av xs → ∃ ρ' iv' n' al, kd_ag n ρ ρ' ∧ n ≤ n' ∧ kd_bx ρ' iv' n' ∧ wk_f2 (kd_g n' ρ') al xs ∧ k iv' n' al = true
  | [], [], iv, n, ρ, k, h, hb, _ => ⟨ρ, iv, n, [], kd_ag_rf, Nat.le_refl _, hb, trivial, h⟩
  | [], _ :: _, _, _, _, _, _, _, h => h.elim
  | _ :: _, [], _, _, _, _, _, _, h => h.elim
  | v :: r, x :: xs, iv, n, ρ, k, h, hb, hv => by
    have h : kd_nm iv n v (fun iv n v => kd_nmL r iv n (fun iv n l => k iv n (v :: l))) = true := h
    obtain ⟨ρ1, iv1, n1, v1, a1, a2, a3, a4, h1⟩ := kd_nm_r h hb (kd_g0 hv.1)
    obtain ⟨ρ2, iv2, n2, al, b1, b2, b3, b4, h2⟩ := kd_nmL_r r xs iv1 n1 ρ1 _ h1 a3 hv.2
    exact ⟨ρ2, iv2, n2, v1 :: al, kd_ag_tr a1 b1 a2, Nat.le_trans a2 b2, b3, ⟨kd_g_ag a4 b1 b2, b4⟩, h2⟩
noncomputable def kd_run0 (ty : kd_T) (X : List (List kd_X)) (nL : Nat) (call : kd_Cl) (T : kd_Tc) (fuel : Nat) (Ss : List kd_St) : Bool := kd_nmL T.1 [] 0 fun iv n al => kd_argl al nL (fun AL => kd_go ty X nL (fun pc iv n AL AS F W => Ss.any (kd_arr ty none pc iv n AL AS F W)) call (kd_fin ty T.2.2) fuel 0 iv n AL [] T.2.1 [])
section KDQ
variable {g : kc_G} {d : Nat} {M : wk_M} {Q : Option kc_V → kc_H → Prop} {ty : kd_T} {h0 : kc_H}
/-- what an arrival gives -/
theorem kd_arr_r {mu : Option (List (Nat × kd_V))} {pc : Nat} {iv : kd_I} {n : Nat} {AL AS : List kd_V} {F : kd_F} {W : kd_W} {p : Nat} {iv2 : kd_I} {n2 : Nat} {AL2 : List kd_V} {F2 : kd_F} {W2 : kd_W} {mu2 : List (Nat × kd_V)} (h : kd_arr ty mu pc iv n AL AS F W (p, iv2, n2, AL2, F2, W2, mu2) = true) (hok : kd_sok (p, iv2, n2, AL2, F2, W2, mu2) = true) {ρ : Nat → Nat} {L : kc_L} {S : List kc_V} {hh : kc_H} (hb : kd_bx ρ iv n) (hL : kd_gL n ρ AL L) (hS : wk_f2 (kd_g n ρ) AS S) (hF : kd_gF n ρ F hh) (hw : kd_wt ty hh) (hfr : kd_fr W h0 hh) :
    pc = p ∧ S = [] ∧ ∃ σ : Nat → Nat, kd_bx σ iv2 n2 ∧ kd_gL n2 σ AL2 L ∧ kd_gF n2 σ F2 hh ∧ kd_fr W2 h0 hh ∧ ∀ m, mu = some m → kd_mok n m = true → kd_nu (mu2.map (kd_cv σ)) < kd_nu (m.map (kd_cv ρ)) := by
  unfold kd_arr kd_arrB at h
  simp only at h
  obtain ⟨c1, h⟩ := kd_bt h
  have c1 := Nat.eq_of_beq_eq_true c1
  unfold kd_sok at hok
  simp only [Bool.and_eq_true] at hok
  have hlen := Nat.eq_of_beq_eq_true hok.1
  cases AS with
  | cons v AS => cases h
  | nil =>
    have := wk_f2_nil hS
    subst this
    simp only [Bool.and_eq_true] at h
    obtain ⟨h, hW⟩ := h
    have hJ0 : kd_jj n ρ (List.replicate n2 ((9, 0, 0) : kd_V)) (fun _ => 0) := fun j u hj hu => by
      rw [List.getElem?_replicate] at hj
      split at hj
      · cases hj; exact absurd rfl hu
      · cases hj
    obtain ⟨s1, σ1, h, a2, a3, a4⟩ := kd_mL_r hb (fun i => kc_get L i) AL2 AL 0 _ _ _ h hJ0 (fun i v hi hk => by rw [Nat.zero_add]; exact hL i v hi hk)
    obtain ⟨s2, σ2, h, b2, b3, b4⟩ := kd_mF_r hb hF hw F2 s1 σ1 _ h a2
    rw [Bool.and_eq_true] at h
    obtain ⟨hB, hmu⟩ := h
    have hset := kd_mB_r (ρ := ρ) hb b2 n2 hB
    have hl1 : s1.length = n2 := by rw [a3.1, List.length_replicate]
    refine ⟨c1, rfl, σ2, ⟨hlen, fun j l u hat => ?_⟩, fun i w hi hk => ?_, fun q hq => ?_, kd_cvW_r W hW hfr, fun m hm hmok => ?_⟩
    · have hj : j < n2 := by
        unfold kd_at at hat
        cases hj : Nat.blt j n2 with
        | false => rw [hj] at hat; cases hat
        | true => exact wk_blt hj
      obtain ⟨u2, l2, h2, e1, e2, e3, e4, e5⟩ := hset j hj
      rw [hat] at e3
      cases e3
      exact ⟨e4, e5⟩
    · obtain ⟨x, e1, e2⟩ := a4 i w hi hk
      rw [Nat.zero_add] at e1
      have := e2 σ2 (fun j u hj hu => (b3.2 j u hj hu).2)
      rw [List.length_replicate] at this
      exact ⟨x, e1, this⟩
    · have := b4 q hq σ2 (fun j u hj hu => rfl)
      rw [hl1] at this
      exact this
    · subst hm
      exact (kd_lx_r hb b2 (fun j hj => by
        obtain ⟨u, -, -, e1, e2, -⟩ := hset j hj
        exact ⟨u, e1, e2⟩) m mu2 hmu hmok hok.2).2
theorem kd_mok_le {n n' : Nat} (hn : n ≤ n') : ∀ mu : List (Nat × kd_V), kd_mok n mu = true → kd_mok n' mu = true
  | [], _ => rfl
  | (d0, t, a, b) :: r, h => by
    have h : ((bif Nat.beq t 1 then Nat.beq b kd_B && Nat.blt a n else Nat.beq t 0 && (Nat.beq a b && Nat.ble a kd_M)) && kd_mok n r) = true := h
    show ((bif Nat.beq t 1 then Nat.beq b kd_B && Nat.blt a n' else Nat.beq t 0 && (Nat.beq a b && Nat.ble a kd_M)) && kd_mok n' r) = true
    rw [Bool.and_eq_true] at h ⊢
    refine ⟨?_, kd_mok_le hn r h.2⟩
    cases hc : Nat.beq t 1 with
    | true =>
      have h1 := h.1
      rw [hc] at h1
      simp only [cond_true, Bool.and_eq_true] at h1 ⊢
      exact ⟨h1.1, kc_blt (Nat.lt_of_lt_of_le (wk_blt h1.2) hn)⟩
    | false =>
      have h1 := h.1
      rw [hc] at h1
      exact h1
theorem kd_cv_ag {n : Nat} {ρ σ : Nat → Nat} (ha : kd_ag n σ ρ) : ∀ mu : List (Nat × kd_V), kd_mok n mu = true → mu.map (kd_cv ρ) = mu.map (kd_cv σ)
  | [], _ => by simp only [List.map_nil]
  | (d0, t, a, b) :: r, h => by
    have h : ((bif Nat.beq t 1 then Nat.beq b kd_B && Nat.blt a n else Nat.beq t 0 && (Nat.beq a b && Nat.ble a kd_M)) && kd_mok n r) = true := h
    rw [Bool.and_eq_true] at h
    rw [List.map_cons, List.map_cons, kd_cv_ag ha r h.2]
    have : kd_cv ρ (d0, t, a, b) = kd_cv σ (d0, t, a, b) := by
      unfold kd_cv kd_cn
      simp only
      rcases kd_bif h.1 with ⟨c, h1⟩ | ⟨c, h1⟩
      · rw [Bool.and_eq_true] at h1
        rw [ha a (wk_blt h1.2)]
      · have c := kd_nbeq c
        rw [if_neg c, if_neg c]
    rw [this]
theorem kd_stations {X : List (List kd_X)} {call : kd_Cl} {ps : List kd_P} {fuel : Nat} {Ss : List kd_St} (hX : kd_isA2 M X = true) (hcall : kd_good g d ty h0 call) (hok : ∀ S ∈ Ss, kd_sok S = true) (hrun : ∀ S ∈ Ss, kd_run1 ty X (wk_Ml M) call ps fuel Ss S = true) :
    ∀ (m : Nat) (p : Nat) (iv2 : kd_I) (n2 : Nat) (AL2 : List kd_V) (F2 : kd_F) (W2 : kd_W) (mu2 : List (Nat × kd_V)), (p, iv2, n2, AL2, F2, W2, mu2) ∈ Ss → ∀ (σ : Nat → Nat) (L : kc_L) (hh : kc_H), kd_nu (mu2.map (kd_cv σ)) < m → kd_bx σ iv2 n2 → kd_gL n2 σ AL2 L → kd_gF n2 σ F2 hh → kd_wt ty hh → kd_fr W2 h0 hh → kc_Ev g d M (fun xr h' => ∃ p ∈ ps, kd_rv 0 (fun _ => 0) p.1 xr ∧ kd_gF 0 (fun _ => 0) p.2.1 h' ∧ kd_wt ty h' ∧ kd_fr p.2.2 h0 h') p L [] hh := by
  intro m
  induction m with
  | zero => intro p iv2 n2 AL2 F2 W2 mu2 hS σ L hh hm; omega
  | succ m ih =>
    intro p iv2 n2 AL2 F2 W2 mu2 hS σ L hh hm hb hL hF hw hfr
    have hr : kd_go ty X (wk_Ml M) (fun pc iv n AL AS F W => Ss.any (kd_arr ty (some mu2) pc iv n AL AS F W)) call (kd_fin ty ps) fuel p iv2 n2 AL2 [] F2 W2 = true := hrun _ hS
    have hmok : kd_mok n2 mu2 = true := by
      have := hok _ hS
      unfold kd_sok at this
      simp only [Bool.and_eq_true] at this
      exact this.2
    refine kd_go_r (ρ0 := σ) (n0 := n2) hX hcall kd_fin_r (fun pc iv n AL AS F W hc => ?_) fuel _ _ _ _ _ _ _ hr (Nat.le_refl _) σ L [] hh kd_ag_rf hb hL trivial hF hw hfr
    intro hn ρ L' S' h' ha hb' hL' hS' hF' hw' hfr'
    obtain ⟨S2, s1, s2⟩ := List.any_eq_true.mp hc
    obtain ⟨p3, iv3, n3, AL3, F3, W3, mu3⟩ := S2
    obtain ⟨rfl, rfl, σ3, e1, e2, e3, e4, e5⟩ := kd_arr_r s2 (hok _ s1) hb' hL' hS' hF' hw' hfr'
    refine ih pc iv3 n3 AL3 F3 W3 mu3 s1 σ3 L' h' ?_ e1 e2 e3 hw' e4
    have := e5 mu2 rfl (kd_mok_le hn _ hmok)
    rw [kd_cv_ag ha mu2 hmok] at this
    omega
end KDQ
/-- THE RULE -/
theorem kd_new {g : kc_G} {d : Nat} {ty : kd_T} {call : kd_Cl} {id : Nat} {M : wk_M} {X : List (List kd_X)} {T : kd_Tc} {fuel : Nat} {Ss : List kd_St} (hg : kc_ok g) (hm : wk_mt id = some M) (hk : wk_Mk M = 0) (hs : wk_Ms M = 0) (hX : kd_isA2 M X = true) (hcall : ∀ h0, kd_good g d ty h0 call) (hok : Ss.all kd_sok = true) (h0 : kd_run0 ty X (wk_Ml M) call T fuel Ss = true) (hrun : ∀ S ∈ Ss, kd_run1 ty X (wk_Ml M) call T.2.2 fuel Ss S = true) : kd_hold g (d + 1) ty id T := by
  intro xs h hw hv hF
  have hok' : ∀ S ∈ Ss, kd_sok S = true := fun S hS => List.all_eq_true.mp hok S hS
  have st := kd_stations (h0 := h) hX (hcall h) hok' hrun
  unfold kd_run0 at h0
  have hb0 : kd_bx (fun _ => 0) ([] : kd_I) 0 := ⟨rfl, fun j l u hat => by unfold kd_at at hat; simp [Nat.blt, Nat.ble] at hat⟩
  obtain ⟨ρ, iv, n, al, -, -, b3, b4, h0⟩ := kd_nmL_r T.1 xs [] 0 _ _ h0 hb0 hv
  obtain ⟨AL, k1, k2, k3⟩ := kd_argl_r (n := n) (ρ := ρ) al xs _ _ h0 b4
  refine kc_Con_new hg hm hk hs k2 (kd_go_r (h0 := h) (ρ0 := ρ) (n0 := n) hX (hcall h) kd_fin_r (fun pc iv n AL AS F W hc => ?_) fuel _ _ _ _ _ _ _ k1 (Nat.le_refl _) ρ _ [] h kd_ag_rf b3 (fun i v hi hk => ?_) trivial (fun q hq => kd_g0 (hF q hq)) hw (fun c i _ => rfl))
  · intro hn ρ L' S' h' ha hb' hL' hS' hF' hw' hfr'
    obtain ⟨S2, s1, s2⟩ := List.any_eq_true.mp hc
    obtain ⟨p3, iv3, n3, AL3, F3, W3, mu3⟩ := S2
    obtain ⟨rfl, rfl, σ3, e1, e2, e3, e4, e5⟩ := kd_arr_r s2 (hok' _ s1) hb' hL' hS' hF' hw' hfr'
    exact st _ pc iv3 n3 AL3 F3 W3 mu3 s1 σ3 L' h' (Nat.lt_succ_self _) e1 e2 e3 hw' e4
  · obtain ⟨y, e1, e2⟩ := k3 0 i v hi hk
    rw [Nat.zero_add] at e1
    exact ⟨y, e1, e2⟩
