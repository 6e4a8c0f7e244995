/-! ===== the engine's run as a piece of a proof by hand: from a state to marks ===== -/
/-- the run from a state reaches marks only (or ends of the contract) -/
theorem kd_seg {g : kc_G} {d : Nat} {M : wk_M} {Q : Option kc_V → kc_H → Prop} {ty : kd_T} {h0 : kc_H} {X : List (List kd_X)} {call : kd_Cl} {ret : kd_R} {fuel : Nat} {Bs : List kd_St} (hX : kd_isA2 M X = true) (hcall : kd_good g d ty h0 call)
    (hok : ∀ S ∈ Bs, kd_sok S = true)
    (hk : ∀ (p : Nat) (iv2 : kd_I) (n2 : Nat) (AL2 : List kd_V) (F2 : kd_F) (W2 : kd_W) (mu2 : List (Nat × kd_V)), (p, iv2, n2, AL2, F2, W2, mu2) ∈ Bs → ∀ (σ : Nat → Nat) (L : kc_L) (hh : kc_H), kd_bx σ iv2 n2 → kd_gL n2 σ AL2 L → kd_gF n2 σ F2 hh → kd_wt ty hh → kd_fr W2 h0 hh → kc_Ev g d M Q p L [] hh)
    {p : Nat} {iv : kd_I} {n : Nat} {AL : List kd_V} {F : kd_F} {W : kd_W} (hrun : kd_go ty X (wk_Ml M) (fun pc iv n AL AS F W => Bs.any (kd_arr ty none pc iv n AL AS F W)) call ret fuel p iv n AL [] F W = true)
    {σ : Nat → Nat} {L : kc_L} {hh : kc_H} (hret : kd_rgood Q ty h0 σ n ret) (hb : kd_bx σ iv n) (hL : kd_gL n σ AL L) (hF : kd_gF n σ F hh) (hw : kd_wt ty hh) (hfr : kd_fr W h0 hh) : kc_Ev g d M Q p L [] hh := by
  refine kd_go_r (ρ0 := σ) (n0 := n) hX hcall hret (fun pc iv n AL AS F W hc => ?_) fuel _ _ _ _ _ _ _ hrun (Nat.le_refl _) σ L [] hh kd_ag_rf hb hL trivial hF hw hfr
  intro hn ρ L' S' h' ha hb' hL' hS' hF' hw' hfr'
  obtain ⟨S2, s1, s2⟩ := List.any_eq_true.mp hc
  obtain ⟨p3, iv3, n3, AL3, F3, W3, mu3⟩ := S2
  obtain ⟨rfl, rfl, σ3, e1, e2, e3, e4, -⟩ := kd_arr_r s2 (hok _ s1) hb' hL' hS' hF' hw' hfr'
  exact hk pc iv3 n3 AL3 F3 W3 mu3 s1 σ3 L' h' e1 e2 e3 hw' e4
/-- no end is reached -/
theorem kd_rno {Q : Option kc_V → kc_H → Prop} {ty : kd_T} {h0 : kc_H} {ρ0 : Nat → Nat} {n0 : Nat} : kd_rgood Q ty h0 ρ0 n0 (fun _ _ _ _ _ => false) := by
  intro iv n rv F W h
  cases h
