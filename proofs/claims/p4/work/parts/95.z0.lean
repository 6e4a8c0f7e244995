/-! ===== contracts with marks that are proved by hand ===== -/
noncomputable def kd_run1h (ty : kd_T) (X : List (List kd_X)) (nL : Nat) (call : kd_Cl) (ps : List kd_P) (fuel : Nat) (Ss Hs : List kd_St) (S : kd_St) : Bool := match S with
  | (pc, iv, n, AL, F, W, mu) => kd_go ty X nL (fun pc iv n AL AS F W => bif Ss.any (kd_arr ty (some mu) pc iv n AL AS F W) then true else Hs.any (kd_arr ty none pc iv n AL AS F W)) call (kd_fin ty ps) fuel pc iv n AL [] F W
noncomputable def kd_run0h (ty : kd_T) (X : List (List kd_X)) (nL : Nat) (call : kd_Cl) (T : kd_Tc) (fuel : Nat) (Ss Hs : List kd_St) : Bool := kd_nmL T.1 [] 0 fun iv n al => kd_argl al nL (fun AL => kd_go ty X nL (fun pc iv n AL AS F W => bif Ss.any (kd_arr ty none pc iv n AL AS F W) then true else Hs.any (kd_arr ty none pc iv n AL AS F W)) call (kd_fin ty T.2.2) fuel 0 iv n AL [] T.2.1 [])
/-- a mark proved by hand -/
def kd_hand (g : kc_G) (d : Nat) (M : wk_M) (ty : kd_T) (ps : List kd_P) (h0 : kc_H) (S : kd_St) : Prop := match S with
  | (p, iv, n, AL, F, W, _) => ∀ (σ : Nat → Nat) (L : kc_L) (hh : kc_H), kd_bx σ iv n → kd_gL n σ AL L → kd_gF n σ F hh → kd_wt ty hh → kd_fr W h0 hh → kc_Ev g d M (fun xr h' => ∃ p ∈ ps, kd_rv 0 (fun _ => 0) p.1 xr ∧ kd_gF 0 (fun _ => 0) p.2.1 h' ∧ kd_wt ty h' ∧ kd_fr p.2.2 h0 h') p L [] hh
theorem kd_orh {a b : Bool} (h : (bif a then true else b) = true) : a = true ∨ b = true := by
  cases a with
  | true => exact Or.inl rfl
  | false => exact Or.inr h
theorem kd_stations_h {g : kc_G} {d : Nat} {M : wk_M} {ty : kd_T} {h0 : kc_H} {X : List (List kd_X)} {call : kd_Cl} {ps : List kd_P} {fuel : Nat} {Ss Hs : List kd_St} (hX : kd_isA2 M X = true) (hcall : kd_good g d ty h0 call) (hok : ∀ S ∈ Ss, kd_sok S = true) (hokH : ∀ S ∈ Hs, kd_sok S = true) (hH : ∀ S ∈ Hs, kd_hand g d M ty ps h0 S) (hrun : ∀ S ∈ Ss, kd_run1h ty X (wk_Ml M) call ps fuel Ss Hs S = true) :
    ∀ (m : Nat) (p : Nat) (iv2 : kd_I) (n2 : Nat) (AL2 : List kd_V) (F2 : kd_F) (W2 : kd_W) (mu2 : List (Nat × kd_V)), (p, iv2, n2, AL2, F2, W2, mu2) ∈ Ss → ∀ (σ : Nat → Nat) (L : kc_L) (hh : kc_H), kd_nu (mu2.map (kd_cv σ)) < m → kd_bx σ iv2 n2 → kd_gL n2 σ AL2 L → kd_gF n2 σ F2 hh → kd_wt ty hh → kd_fr W2 h0 hh → kc_Ev g d M (fun xr h' => ∃ p ∈ ps, kd_rv 0 (fun _ => 0) p.1 xr ∧ kd_gF 0 (fun _ => 0) p.2.1 h' ∧ kd_wt ty h' ∧ kd_fr p.2.2 h0 h') p L [] hh := by
  intro m
  induction m with
  | zero => intro p iv2 n2 AL2 F2 W2 mu2 hS σ L hh hm; omega
  | succ m ih =>
    intro p iv2 n2 AL2 F2 W2 mu2 hS σ L hh hm hb hL hF hw hfr
    have hr : kd_go ty X (wk_Ml M) (fun pc iv n AL AS F W => bif Ss.any (kd_arr ty (some mu2) pc iv n AL AS F W) then true else Hs.any (kd_arr ty none pc iv n AL AS F W)) call (kd_fin ty ps) fuel p iv2 n2 AL2 [] F2 W2 = true := hrun _ hS
    have hmok : kd_mok n2 mu2 = true := by
      have := hok _ hS
      unfold kd_sok at this
      simp only [Bool.and_eq_true] at this
      exact this.2
    refine kd_go_r (ρ0 := σ) (n0 := n2) hX hcall kd_fin_r (fun pc iv n AL AS F W hc => ?_) fuel _ _ _ _ _ _ _ hr (Nat.le_refl _) σ L [] hh kd_ag_rf hb hL trivial hF hw hfr
    intro hn ρ L' S' h' ha hb' hL' hS' hF' hw' hfr'
    rcases kd_orh hc with hc | hc
    · obtain ⟨S2, s1, s2⟩ := List.any_eq_true.mp hc
      obtain ⟨p3, iv3, n3, AL3, F3, W3, mu3⟩ := S2
      obtain ⟨rfl, rfl, σ3, e1, e2, e3, e4, e5⟩ := kd_arr_r s2 (hok _ s1) hb' hL' hS' hF' hw' hfr'
      refine ih pc iv3 n3 AL3 F3 W3 mu3 s1 σ3 L' h' ?_ e1 e2 e3 hw' e4
      have := e5 mu2 rfl (kd_mok_le hn _ hmok)
      rw [kd_cv_ag ha mu2 hmok] at this
      omega
    · obtain ⟨S2, s1, s2⟩ := List.any_eq_true.mp hc
      obtain ⟨p3, iv3, n3, AL3, F3, W3, mu3⟩ := S2
      obtain ⟨rfl, rfl, σ3, e1, e2, e3, e4, -⟩ := kd_arr_r s2 (hokH _ s1) hb' hL' hS' hF' hw' hfr'
      exact hH _ s1 σ3 L' h' e1 e2 e3 hw' e4
theorem kd_new_h {g : kc_G} {d : Nat} {ty : kd_T} {call : kd_Cl} {id : Nat} {M : wk_M} {X : List (List kd_X)} {T : kd_Tc} {fuel : Nat} {Ss Hs : List kd_St} (hg : kc_ok g) (hm : wk_mt id = some M) (hk : wk_Mk M = 0) (hs : wk_Ms M = 0) (hX : kd_isA2 M X = true) (hcall : ∀ h0, kd_good g d ty h0 call) (hok : Ss.all kd_sok = true) (hokH : Hs.all kd_sok = true) (hH : ∀ h0, ∀ S ∈ Hs, kd_hand g d M ty T.2.2 h0 S) (h0 : kd_run0h ty X (wk_Ml M) call T fuel Ss Hs = true) (hrun : ∀ S ∈ Ss, kd_run1h ty X (wk_Ml M) call T.2.2 fuel Ss Hs S = true) : kd_hold g (d + 1) ty id T := by
  intro xs h hw hv hF
  have hok' : ∀ S ∈ Ss, kd_sok S = true := fun S hS => List.all_eq_true.mp hok S hS
  have hokH' : ∀ S ∈ Hs, kd_sok S = true := fun S hS => List.all_eq_true.mp hokH S hS
  have st := kd_stations_h (h0 := h) hX (hcall h) hok' hokH' (hH h) hrun
  unfold kd_run0h at h0
  have hb0 : kd_bx (fun _ => 0) ([] : kd_I) 0 := ⟨rfl, fun j l u hat => by unfold kd_at at hat; simp [Nat.blt, Nat.ble] at hat⟩
  obtain ⟨ρ, iv, n, al, -, -, b3, b4, h0⟩ := kd_nmL_r T.1 xs [] 0 _ _ h0 hb0 hv
  obtain ⟨AL, k1, k2, k3⟩ := kd_argl_r (n := n) (ρ := ρ) al xs _ _ h0 b4
  refine kc_Con_new hg hm hk hs k2 (kd_go_r (h0 := h) (ρ0 := ρ) (n0 := n) hX (hcall h) kd_fin_r (fun pc iv n AL AS F W hc => ?_) fuel _ _ _ _ _ _ _ k1 (Nat.le_refl _) ρ _ [] h kd_ag_rf b3 (fun i v hi hk => ?_) trivial (fun q hq => kd_g0 (hF q hq)) hw (fun c i _ => rfl))
  · intro hn ρ L' S' h' ha hb' hL' hS' hF' hw' hfr'
    rcases kd_orh hc with hc | hc
    · obtain ⟨S2, s1, s2⟩ := List.any_eq_true.mp hc
      obtain ⟨p3, iv3, n3, AL3, F3, W3, mu3⟩ := S2
      obtain ⟨rfl, rfl, σ3, e1, e2, e3, e4, e5⟩ := kd_arr_r s2 (hok' _ s1) hb' hL' hS' hF' hw' hfr'
      exact st _ pc iv3 n3 AL3 F3 W3 mu3 s1 σ3 L' h' (Nat.lt_succ_self _) e1 e2 e3 hw' e4
    · obtain ⟨S2, s1, s2⟩ := List.any_eq_true.mp hc
      obtain ⟨p3, iv3, n3, AL3, F3, W3, mu3⟩ := S2
      obtain ⟨rfl, rfl, σ3, e1, e2, e3, e4, -⟩ := kd_arr_r s2 (hokH' _ s1) hb' hL' hS' hF' hw' hfr'
      exact hH h _ s1 σ3 L' h' e1 e2 e3 hw' e4
  · obtain ⟨y, e1, e2⟩ := k3 0 i v hi hk
    rw [Nat.zero_add] at e1
    exact ⟨y, e1, e2⟩
