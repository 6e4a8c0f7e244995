/-! ===== the verbs of a day ===== -/
theorem kv_nb {k : Nat} (hk : k < 2147483648) : kd_nb (Int32.ofNat k) = 2147483648 + k := by
  unfold kd_nb
  rw [kx_ti hk]
  omega
theorem kv_gi {n : Nat} {σ : Nat → Nat} {l u : Nat} {a : Int32} (h1 : (l : Int) ≤ a.toInt + 2147483648) (h2 : a.toInt + 2147483648 ≤ (u : Int)) : kd_g n σ (0, l, u) (.inl a) := by
  refine ⟨a, rfl, ?_, ?_⟩ <;> unfold kd_nb <;> omega
theorem kv_gv {k : Nat} (hk : k < 2147483648) : kd_g 1 (fun _ => 2147483648 + k) (1, 0, 2147483648) (.inl (Int32.ofNat k)) := by
  refine ⟨by decide, _, rfl, ?_⟩
  rw [kv_nb hk]
theorem kv_po {x : kc_V} {k : Nat} (hk : k < 1000) (h : kd_g 1 (fun _ => 2147483648 + k) (1, 0, 2147483649) x) : x = .inl (Int32.ofNat (k + 1)) := by
  obtain ⟨-, z, rfl, e⟩ := h
  have e : kd_nb z + 2147483648 = 2147483648 + k + 2147483649 := e
  congr 1
  apply Int32.toInt_inj.mp
  rw [kx_ti (by omega)]
  unfold kd_nb at e
  have := Int32.minValue_le_toInt z
  have hm : Int32.minValue.toInt = -2147483648 := by decide
  omega
theorem kv_p1 {n : Nat} {σ : Nat → Nat} {x : kc_V} (h : kd_g n σ (0, 2147483649, 2147483649) x) : x = .inl (Int32.ofNat 1) := kx_ofs (k := 1) (by decide) h
theorem kv_lo (a : Int32) : -2147483648 ≤ a.toInt := by
  have := Int32.minValue_le_toInt a
  have hm : Int32.minValue.toInt = -2147483648 := by decide
  omega
theorem kv_hi (a : Int32) : a.toInt < 2147483648 := by
  have := Int32.toInt_lt a
  omega
theorem kv_no {g : kc_G} {d id n0 : Nat} {σ : Nat → Nat} {xs : List kc_V} {h : kc_H} (hc : kc_Con g d id xs h (fun xr h' => ∃ p ∈ ([(some (0, 0, 2147483647), [], [])] : List kd_P), kd_rv n0 σ p.1 xr ∧ kd_gF n0 σ p.2.1 h' ∧ kd_wt kd_ty h' ∧ kd_fr p.2.2 h h')) : kc_Con g d id xs h (fun rv h' => ∃ r : Int32, rv = some (.inl r) ∧ r.toInt < 0 ∧ h' = h) := by
  refine kc_Con_mono hc (fun rv h' hq => ?_)
  obtain ⟨p, p1, p2, -, -, p5⟩ := hq
  obtain rfl := List.mem_singleton.mp p1
  cases rv with
  | none => exact p2.elim
  | some y =>
    obtain ⟨z, rfl, z1, z2⟩ := p2
    refine ⟨z, rfl, ?_, ?_⟩
    · unfold kd_nb at z2
      have := kv_lo z
      omega
    · funext c i
      exact p5 c i (fun q hq => by cases hq)
theorem kv_yes {g : kc_G} {d id n0 : Nat} {σ : Nat → Nat} {xs : List kc_V} {h : kc_H} {fs : kd_F} {W : kd_W} (hc : kc_Con g d id xs h (fun xr h' => ∃ p ∈ ([(some (0, 2147483648, 4294967295), fs, W)] : List kd_P), kd_rv n0 σ p.1 xr ∧ kd_gF n0 σ p.2.1 h' ∧ kd_wt kd_ty h' ∧ kd_fr p.2.2 h h')) : kc_Con g d id xs h (fun rv h' => ∃ r : Int32, rv = some (.inl r) ∧ 0 ≤ r.toInt ∧ kd_gF n0 σ fs h' ∧ kd_wt kd_ty h' ∧ kd_fr W h h') := by
  refine kc_Con_mono hc (fun rv h' hq => ?_)
  obtain ⟨p, p1, p2, p3, p4, p5⟩ := hq
  obtain rfl := List.mem_singleton.mp p1
  cases rv with
  | none => exact p2.elim
  | some y =>
    obtain ⟨z, rfl, z1, z2⟩ := p2
    refine ⟨z, rfl, ?_, p3, p4, p5⟩
    unfold kd_nb at z1
    omega
/-- the counts: class, reference -/
def kv_C (h : kc_H) (D M L : Nat) : Prop := D ≤ 5 ∧ M ≤ 3 ∧ L ≤ 10 ∧ h 1 0 = .inl (Int32.ofNat D) ∧ h 1 1 = .inl (Int32.ofNat M) ∧ h 1 2 = .inl (Int32.ofNat L)
def kv_R (h : kc_H) (D M L : Nat) : Prop := D ≤ 5 ∧ M ≤ 3 ∧ L ≤ 10 ∧ h 260 0 = .inl (Int32.ofNat D) ∧ h 260 1 = .inl (Int32.ofNat M) ∧ h 260 2 = .inl (Int32.ofNat L)
def kv_Tcdoor : kd_Tc := ([(3, 1, 1)], [(1, 0, (1, 0, 2147483648))], [(some (1, 0, 2147483649), [(1, 0, (1, 0, 2147483649))], [(1, 1, 0, 0)])])
def kv_Tcdoorn : kd_Tc := ([(3, 1, 1)], [(1, 0, (0, 2147483653, 2147483653))], [(some (0, 2147483644, 2147483644), [], [])])
theorem kv_rcdoor : kd_runv kd_ty kd_x14 1 (kd_call kd_ty kd_xt (kd_ctl []) 600 0) [(2147483648, 2147483652)] 1 kv_Tcdoor 600 = true := by decide +kernel
theorem kv_hcdoor {g : kc_G} (hg : kc_ok g) : kd_holdv g 1 kd_ty 14 [(2147483648, 2147483652)] 1 kv_Tcdoor := kd_newv hg kd_xk14 rfl rfl rfl rfl (fun h0 => kd_call_r (d0 := 0) hg kd_xt_ok (kd_ctl_r [] (fun q hq => by cases hq)) 0) kv_rcdoor
theorem kv_rcdoorn : kd_runv kd_ty kd_x14 1 (kd_call kd_ty kd_xt (kd_ctl []) 600 0) [] 0 kv_Tcdoorn 600 = true := by decide +kernel
theorem kv_hcdoorn {g : kc_G} (hg : kc_ok g) : kd_holdv g 1 kd_ty 14 [] 0 kv_Tcdoorn := kd_newv hg kd_xk14 rfl rfl rfl rfl (fun h0 => kd_call_r (d0 := 0) hg kd_xt_ok (kd_ctl_r [] (fun q hq => by cases hq)) 0) kv_rcdoorn
theorem kv_cdoor {g : kc_G} {h : kc_H} {D M L : Nat} (hg : kc_ok g) (hw : kd_wt kd_ty h) (hC : kv_C h D M L) : kc_Con g 1 14 [.inr (.inr (.inl (some 1)))] h (fun rv h' => ∃ r : Int32, rv = some (.inl r) ∧ kd_wt kd_ty h' ∧ kd_fr [(1, 1, 0, 0)] h h' ∧ ((D < 5 ∧ r = Int32.ofNat (D + 1) ∧ h' 1 0 = .inl (Int32.ofNat (D + 1))) ∨ (¬ D < 5 ∧ r = Int32.ofInt (-4) ∧ h' = h))) := by
  obtain ⟨hD, hM, hL, eD, eM, eL⟩ := hC
  by_cases k : D < 5
  · refine kc_Con_mono (kv_hcdoor hg (fun _ => 2147483648 + D) _ h (kv_bx1 (by omega) (by omega)) hw ⟨⟨1, rfl, by decide, by decide⟩, trivial⟩ (fun q hq => by
      obtain rfl := List.mem_singleton.mp hq
      show kd_g _ _ _ (h 1 0)
      rw [eD]
      exact kv_gv (by omega))) (fun rv h' hq => ?_)
    obtain ⟨p, p1, p2, p3, p4, p5⟩ := hq
    obtain rfl := List.mem_singleton.mp p1
    cases rv with
    | none => exact p2.elim
    | some y =>
      have e0 := kv_po (by omega) p2
      subst e0
      exact ⟨_, rfl, p4, p5, Or.inl ⟨k, rfl, kv_po (by omega) (p3 (1, 0, _) List.mem_cons_self)⟩⟩
  · refine kc_Con_mono (kv_hcdoorn hg (fun _ => 0) _ h kv_bx0 hw ⟨⟨1, rfl, by decide, by decide⟩, trivial⟩ (fun q hq => by
      obtain rfl := List.mem_singleton.mp hq
      show kd_g _ _ _ (h 1 0)
      rw [eD]
      obtain rfl : D = 5 := by omega
      exact kb_ok (k := 5) (by decide))) (fun rv h' hq => ?_)
    obtain ⟨p, p1, p2, p3, p4, p5⟩ := hq
    obtain rfl := List.mem_singleton.mp p1
    cases rv with
    | none => exact p2.elim
    | some y =>
      obtain ⟨z, rfl, z1, z2⟩ := p2
      have ez : z = Int32.ofInt (-4) := by
        apply Int32.toInt_inj.mp
        unfold kd_nb at z1 z2
        have := kv_lo z
        rw [show (Int32.ofInt (-4)).toInt = -4 from by decide]
        omega
      subst ez
      refine ⟨_, rfl, p4, fun c i _ => p5 c i (fun q hq => by cases hq), Or.inr ⟨k, rfl, ?_⟩⟩
      funext c i
      exact p5 c i (fun q hq => by cases hq)
def kv_Ttdoor : kd_Tc := ([(3, 0, 0)], [(1, 0, (1, 0, 2147483648))], [(some (1, 0, 2147483649), [(1, 0, (1, 0, 2147483649))], [(1, 1, 0, 0)])])
def kv_Ttdoorn : kd_Tc := ([(3, 0, 0)], [(1, 0, (0, 2147483653, 2147483653))], [(some (0, 2147483644, 2147483644), [], [])])
theorem kv_rtdoor : kd_runv kd_ty kd_x13 1 (kd_call kd_ty kd_xt (kd_ctl []) 600 1) [(2147483648, 2147483652)] 1 kv_Ttdoor 600 = true := by decide +kernel
theorem kv_htdoor {g : kc_G} (hg : kc_ok g) : kd_holdv g 2 kd_ty 13 [(2147483648, 2147483652)] 1 kv_Ttdoor := kd_newv hg kd_xk13 rfl rfl rfl rfl (fun h0 => kd_call_r (d0 := 0) hg kd_xt_ok (kd_ctl_r [] (fun q hq => by cases hq)) 1) kv_rtdoor
theorem kv_rtdoorn : kd_runv kd_ty kd_x13 1 (kd_call kd_ty kd_xt (kd_ctl []) 600 1) [] 0 kv_Ttdoorn 600 = true := by decide +kernel
theorem kv_htdoorn {g : kc_G} (hg : kc_ok g) : kd_holdv g 2 kd_ty 13 [] 0 kv_Ttdoorn := kd_newv hg kd_xk13 rfl rfl rfl rfl (fun h0 => kd_call_r (d0 := 0) hg kd_xt_ok (kd_ctl_r [] (fun q hq => by cases hq)) 1) kv_rtdoorn
theorem kv_tdoor {g : kc_G} {h : kc_H} {D M L : Nat} (hg : kc_ok g) (hw : kd_wt kd_ty h) (hC : kv_C h D M L) : kc_Con g 2 13 [.inr (.inr (.inl (some 0)))] h (fun rv h' => ∃ r : Int32, rv = some (.inl r) ∧ kd_wt kd_ty h' ∧ kd_fr [(1, 1, 0, 0)] h h' ∧ ((D < 5 ∧ r = Int32.ofNat (D + 1) ∧ h' 1 0 = .inl (Int32.ofNat (D + 1))) ∨ (¬ D < 5 ∧ r = Int32.ofInt (-4) ∧ h' = h))) := by
  obtain ⟨hD, hM, hL, eD, eM, eL⟩ := hC
  by_cases k : D < 5
  · refine kc_Con_mono (kv_htdoor hg (fun _ => 2147483648 + D) _ h (kv_bx1 (by omega) (by omega)) hw ⟨⟨0, rfl, by decide, by decide⟩, trivial⟩ (fun q hq => by
      obtain rfl := List.mem_singleton.mp hq
      show kd_g _ _ _ (h 1 0)
      rw [eD]
      exact kv_gv (by omega))) (fun rv h' hq => ?_)
    obtain ⟨p, p1, p2, p3, p4, p5⟩ := hq
    obtain rfl := List.mem_singleton.mp p1
    cases rv with
    | none => exact p2.elim
    | some y =>
      have e0 := kv_po (by omega) p2
      subst e0
      exact ⟨_, rfl, p4, p5, Or.inl ⟨k, rfl, kv_po (by omega) (p3 (1, 0, _) List.mem_cons_self)⟩⟩
  · refine kc_Con_mono (kv_htdoorn hg (fun _ => 0) _ h kv_bx0 hw ⟨⟨0, rfl, by decide, by decide⟩, trivial⟩ (fun q hq => by
      obtain rfl := List.mem_singleton.mp hq
      show kd_g _ _ _ (h 1 0)
      rw [eD]
      obtain rfl : D = 5 := by omega
      exact kb_ok (k := 5) (by decide))) (fun rv h' hq => ?_)
    obtain ⟨p, p1, p2, p3, p4, p5⟩ := hq
    obtain rfl := List.mem_singleton.mp p1
    cases rv with
    | none => exact p2.elim
    | some y =>
      obtain ⟨z, rfl, z1, z2⟩ := p2
      have ez : z = Int32.ofInt (-4) := by
        apply Int32.toInt_inj.mp
        unfold kd_nb at z1 z2
        have := kv_lo z
        rw [show (Int32.ofInt (-4)).toInt = -4 from by decide]
        omega
      subst ez
      refine ⟨_, rfl, p4, fun c i _ => p5 c i (fun q hq => by cases hq), Or.inr ⟨k, rfl, ?_⟩⟩
      funext c i
      exact p5 c i (fun q hq => by cases hq)
def kv_Trdoor : kd_Tc := ([(3, 259, 259)], [(260, 0, (1, 0, 2147483648))], [(some (1, 0, 2147483649), [(260, 0, (1, 0, 2147483649))], [(260, 260, 0, 0)])])
def kv_Trdoorn : kd_Tc := ([(3, 259, 259)], [(260, 0, (0, 2147483653, 2147483653))], [(some (0, 2147483644, 2147483644), [], [])])
theorem kv_rrdoor : kd_runv kd_ty kd_x15 1 (kd_call kd_ty kd_xt (kd_ctl []) 600 0) [(2147483648, 2147483652)] 1 kv_Trdoor 600 = true := by decide +kernel
theorem kv_hrdoor {g : kc_G} (hg : kc_ok g) : kd_holdv g 1 kd_ty 15 [(2147483648, 2147483652)] 1 kv_Trdoor := kd_newv hg kd_xk15 rfl rfl rfl rfl (fun h0 => kd_call_r (d0 := 0) hg kd_xt_ok (kd_ctl_r [] (fun q hq => by cases hq)) 0) kv_rrdoor
theorem kv_rrdoorn : kd_runv kd_ty kd_x15 1 (kd_call kd_ty kd_xt (kd_ctl []) 600 0) [] 0 kv_Trdoorn 600 = true := by decide +kernel
theorem kv_hrdoorn {g : kc_G} (hg : kc_ok g) : kd_holdv g 1 kd_ty 15 [] 0 kv_Trdoorn := kd_newv hg kd_xk15 rfl rfl rfl rfl (fun h0 => kd_call_r (d0 := 0) hg kd_xt_ok (kd_ctl_r [] (fun q hq => by cases hq)) 0) kv_rrdoorn
theorem kv_rdoor {g : kc_G} {h : kc_H} {D M L : Nat} (hg : kc_ok g) (hw : kd_wt kd_ty h) (hC : kv_R h D M L) : kc_Con g 1 15 [.inr (.inr (.inl (some 259)))] h (fun rv h' => ∃ r : Int32, rv = some (.inl r) ∧ kd_wt kd_ty h' ∧ kd_fr [(260, 260, 0, 0)] h h' ∧ ((D < 5 ∧ r = Int32.ofNat (D + 1) ∧ h' 260 0 = .inl (Int32.ofNat (D + 1))) ∨ (¬ D < 5 ∧ r = Int32.ofInt (-4) ∧ h' = h))) := by
  obtain ⟨hD, hM, hL, eD, eM, eL⟩ := hC
  by_cases k : D < 5
  · refine kc_Con_mono (kv_hrdoor hg (fun _ => 2147483648 + D) _ h (kv_bx1 (by omega) (by omega)) hw ⟨⟨259, rfl, by decide, by decide⟩, trivial⟩ (fun q hq => by
      obtain rfl := List.mem_singleton.mp hq
      show kd_g _ _ _ (h 260 0)
      rw [eD]
      exact kv_gv (by omega))) (fun rv h' hq => ?_)
    obtain ⟨p, p1, p2, p3, p4, p5⟩ := hq
    obtain rfl := List.mem_singleton.mp p1
    cases rv with
    | none => exact p2.elim
    | some y =>
      have e0 := kv_po (by omega) p2
      subst e0
      exact ⟨_, rfl, p4, p5, Or.inl ⟨k, rfl, kv_po (by omega) (p3 (260, 0, _) List.mem_cons_self)⟩⟩
  · refine kc_Con_mono (kv_hrdoorn hg (fun _ => 0) _ h kv_bx0 hw ⟨⟨259, rfl, by decide, by decide⟩, trivial⟩ (fun q hq => by
      obtain rfl := List.mem_singleton.mp hq
      show kd_g _ _ _ (h 260 0)
      rw [eD]
      obtain rfl : D = 5 := by omega
      exact kb_ok (k := 5) (by decide))) (fun rv h' hq => ?_)
    obtain ⟨p, p1, p2, p3, p4, p5⟩ := hq
    obtain rfl := List.mem_singleton.mp p1
    cases rv with
    | none => exact p2.elim
    | some y =>
      obtain ⟨z, rfl, z1, z2⟩ := p2
      have ez : z = Int32.ofInt (-4) := by
        apply Int32.toInt_inj.mp
        unfold kd_nb at z1 z2
        have := kv_lo z
        rw [show (Int32.ofInt (-4)).toInt = -4 from by decide]
        omega
      subst ez
      refine ⟨_, rfl, p4, fun c i _ => p5 c i (fun q hq => by cases hq), Or.inr ⟨k, rfl, ?_⟩⟩
      funext c i
      exact p5 c i (fun q hq => by cases hq)
theorem kv_cmule {g : kc_G} {h : kc_H} {D M L : Nat} {a b c : Int32} (hg : kc_ok g) (hw : kd_wt kd_ty h) (hC : kv_C h D M L) : kc_Con g 2 33 [.inr (.inr (.inl (some 1))), .inl a, .inl b, .inl c] h (fun rv h' => ∃ r : Int32, rv = some (.inl r) ∧ kd_wt kd_ty h' ∧ kd_fr [(1, 1, 1, 1), (12, 14, 0, 4)] h h' ∧ (((1 ≤ a.toInt ∧ a.toInt ≤ 999 ∧ 0 ≤ b.toInt ∧ b.toInt ≤ 99 ∧ 0 ≤ c.toInt ∧ c.toInt ≤ 99 ∧ M < 3) ∧ 0 ≤ r.toInt ∧ h' 1 1 = .inl (Int32.ofNat (M + 1))) ∨ (¬ (1 ≤ a.toInt ∧ a.toInt ≤ 999 ∧ 0 ≤ b.toInt ∧ b.toInt ≤ 99 ∧ 0 ≤ c.toInt ∧ c.toInt ≤ 99 ∧ M < 3) ∧ r.toInt < 0 ∧ h' = h))) := by
  obtain ⟨hD, hM, hL, eD, eM, eL⟩ := hC
  have tD : (Int32.ofNat D).toInt = D := kx_ti (by omega)
  have tM : (Int32.ofNat M).toInt = M := kx_ti (by omega)
  have tL : (Int32.ofNat L).toInt = L := kx_ti (by omega)
  have alo := kv_lo a
  have ahi := kv_hi a
  have blo := kv_lo b
  have bhi := kv_hi b
  have clo := kv_lo c
  have chi := kv_hi c
  rcases (show (1 ≤ a.toInt ∧ a.toInt ≤ 999 ∧ 0 ≤ b.toInt ∧ b.toInt ≤ 99 ∧ 0 ≤ c.toInt ∧ c.toInt ≤ 99 ∧ M < 3) ∨ (1 ≤ a.toInt ∧ a.toInt ≤ 999 ∧ 0 ≤ b.toInt ∧ b.toInt ≤ 99 ∧ 0 ≤ c.toInt ∧ c.toInt ≤ 99 ∧ M = 3) ∨ a.toInt < 1 ∨ 999 < a.toInt ∨ b.toInt < 0 ∨ 99 < b.toInt ∨ c.toInt < 0 ∨ 99 < c.toInt by omega) with k | k | k | k | k | k | k | k
  · refine kc_Con_mono (kc_Con_le (kv_yes (kv_hcmule hg (fun _ => 2147483648 + M) _ h (kv_bx1 (by omega) (by omega)) hw ⟨⟨1, rfl, by decide, by decide⟩, kv_gi (by omega) (by omega), kv_gi (by omega) (by omega), kv_gi (by omega) (by omega), trivial⟩ (fun q hq => by
      rcases List.mem_cons.mp hq with rfl | hq
      · show kd_g _ _ _ (h 1 1)
        rw [eM]
        exact kv_gv (by omega)
      cases hq))) (by decide)) (fun rv h' hq => ?_)
    obtain ⟨r, rfl, r0, hF, hw2, hfr⟩ := hq
    have e1 := kv_po (by omega) (hF (1, 1, _) List.mem_cons_self)
    exact ⟨r, rfl, hw2, hfr, Or.inl ⟨by omega, r0, e1⟩⟩
  · refine kc_Con_mono (kc_Con_le (kv_no (kv_hcmulef hg (fun _ => 0) _ h kv_bx0 hw ⟨⟨1, rfl, by decide, by decide⟩, kv_gi (by omega) (by omega), kv_gi (by omega) (by omega), kv_gi (by omega) (by omega), trivial⟩ (fun q hq => by
      rcases List.mem_cons.mp hq with rfl | hq
      · show kd_g _ _ _ (h 1 1)
        rw [eM]
        exact kv_gi (by omega) (by omega)
      cases hq))) (by decide)) (fun rv h' hq => ?_)
    obtain ⟨r, rfl, r0, rfl⟩ := hq
    exact ⟨r, rfl, hw, fun c i _ => rfl, Or.inr ⟨by omega, r0, rfl⟩⟩
  · refine kc_Con_mono (kc_Con_le (kv_no (kv_hcmule0 hg (fun _ => 0) _ h kv_bx0 hw ⟨⟨1, rfl, by decide, by decide⟩, kv_gi (by omega) (by omega), kv_gi (by omega) (by omega), kv_gi (by omega) (by omega), trivial⟩ (fun q hq => by cases hq))) (by decide)) (fun rv h' hq => ?_)
    obtain ⟨r, rfl, r0, rfl⟩ := hq
    exact ⟨r, rfl, hw, fun c i _ => rfl, Or.inr ⟨by omega, r0, rfl⟩⟩
  · refine kc_Con_mono (kc_Con_le (kv_no (kv_hcmule1 hg (fun _ => 0) _ h kv_bx0 hw ⟨⟨1, rfl, by decide, by decide⟩, kv_gi (by omega) (by omega), kv_gi (by omega) (by omega), kv_gi (by omega) (by omega), trivial⟩ (fun q hq => by cases hq))) (by decide)) (fun rv h' hq => ?_)
    obtain ⟨r, rfl, r0, rfl⟩ := hq
    exact ⟨r, rfl, hw, fun c i _ => rfl, Or.inr ⟨by omega, r0, rfl⟩⟩
  · refine kc_Con_mono (kc_Con_le (kv_no (kv_hcmule2 hg (fun _ => 0) _ h kv_bx0 hw ⟨⟨1, rfl, by decide, by decide⟩, kv_gi (by omega) (by omega), kv_gi (by omega) (by omega), kv_gi (by omega) (by omega), trivial⟩ (fun q hq => by cases hq))) (by decide)) (fun rv h' hq => ?_)
    obtain ⟨r, rfl, r0, rfl⟩ := hq
    exact ⟨r, rfl, hw, fun c i _ => rfl, Or.inr ⟨by omega, r0, rfl⟩⟩
  · refine kc_Con_mono (kc_Con_le (kv_no (kv_hcmule3 hg (fun _ => 0) _ h kv_bx0 hw ⟨⟨1, rfl, by decide, by decide⟩, kv_gi (by omega) (by omega), kv_gi (by omega) (by omega), kv_gi (by omega) (by omega), trivial⟩ (fun q hq => by cases hq))) (by decide)) (fun rv h' hq => ?_)
    obtain ⟨r, rfl, r0, rfl⟩ := hq
    exact ⟨r, rfl, hw, fun c i _ => rfl, Or.inr ⟨by omega, r0, rfl⟩⟩
  · refine kc_Con_mono (kc_Con_le (kv_no (kv_hcmule4 hg (fun _ => 0) _ h kv_bx0 hw ⟨⟨1, rfl, by decide, by decide⟩, kv_gi (by omega) (by omega), kv_gi (by omega) (by omega), kv_gi (by omega) (by omega), trivial⟩ (fun q hq => by cases hq))) (by decide)) (fun rv h' hq => ?_)
    obtain ⟨r, rfl, r0, rfl⟩ := hq
    exact ⟨r, rfl, hw, fun c i _ => rfl, Or.inr ⟨by omega, r0, rfl⟩⟩
  · refine kc_Con_mono (kc_Con_le (kv_no (kv_hcmule5 hg (fun _ => 0) _ h kv_bx0 hw ⟨⟨1, rfl, by decide, by decide⟩, kv_gi (by omega) (by omega), kv_gi (by omega) (by omega), kv_gi (by omega) (by omega), trivial⟩ (fun q hq => by cases hq))) (by decide)) (fun rv h' hq => ?_)
    obtain ⟨r, rfl, r0, rfl⟩ := hq
    exact ⟨r, rfl, hw, fun c i _ => rfl, Or.inr ⟨by omega, r0, rfl⟩⟩
theorem kv_cload {g : kc_G} {h : kc_H} {D M L : Nat} {a b c e : Int32} (hg : kc_ok g) (hw : kd_wt kd_ty h) (hC : kv_C h D M L) : kc_Con g 3 42 [.inr (.inr (.inl (some 1))), .inl a, .inl b, .inl c, .inl e] h (fun rv h' => ∃ r : Int32, rv = some (.inl r) ∧ kd_wt kd_ty h' ∧ kd_fr [(1, 1, 2, 2), (16, 25, 0, 6)] h h' ∧ (((1 ≤ a.toInt ∧ a.toInt ≤ 99 ∧ 0 ≤ b.toInt ∧ b.toInt ≤ 1 ∧ 0 ≤ c.toInt ∧ c.toInt ≤ D ∧ 0 ≤ e.toInt ∧ e.toInt ≤ D ∧ ¬ c.toInt = e.toInt ∧ L < 10) ∧ 0 ≤ r.toInt ∧ h' 1 2 = .inl (Int32.ofNat (L + 1))) ∨ (¬ (1 ≤ a.toInt ∧ a.toInt ≤ 99 ∧ 0 ≤ b.toInt ∧ b.toInt ≤ 1 ∧ 0 ≤ c.toInt ∧ c.toInt ≤ D ∧ 0 ≤ e.toInt ∧ e.toInt ≤ D ∧ ¬ c.toInt = e.toInt ∧ L < 10) ∧ r.toInt < 0 ∧ h' = h))) := by
  obtain ⟨hD, hM, hL, eD, eM, eL⟩ := hC
  have tD : (Int32.ofNat D).toInt = D := kx_ti (by omega)
  have tM : (Int32.ofNat M).toInt = M := kx_ti (by omega)
  have tL : (Int32.ofNat L).toInt = L := kx_ti (by omega)
  have alo := kv_lo a
  have ahi := kv_hi a
  have blo := kv_lo b
  have bhi := kv_hi b
  have clo := kv_lo c
  have chi := kv_hi c
  have elo := kv_lo e
  have ehi := kv_hi e
  rcases (show (1 ≤ a.toInt ∧ a.toInt ≤ 99 ∧ 0 ≤ b.toInt ∧ b.toInt ≤ 1 ∧ 0 ≤ c.toInt ∧ c.toInt ≤ D ∧ 0 ≤ e.toInt ∧ e.toInt ≤ D ∧ e.toInt < c.toInt ∧ L < 10) ∨ (1 ≤ a.toInt ∧ a.toInt ≤ 99 ∧ 0 ≤ b.toInt ∧ b.toInt ≤ 1 ∧ 0 ≤ c.toInt ∧ c.toInt ≤ D ∧ 0 ≤ e.toInt ∧ e.toInt ≤ D ∧ e.toInt < c.toInt ∧ L = 10) ∨ (1 ≤ a.toInt ∧ a.toInt ≤ 99 ∧ 0 ≤ b.toInt ∧ b.toInt ≤ 1 ∧ 0 ≤ c.toInt ∧ c.toInt ≤ D ∧ 0 ≤ e.toInt ∧ e.toInt ≤ D ∧ c.toInt < e.toInt ∧ L < 10) ∨ (1 ≤ a.toInt ∧ a.toInt ≤ 99 ∧ 0 ≤ b.toInt ∧ b.toInt ≤ 1 ∧ 0 ≤ c.toInt ∧ c.toInt ≤ D ∧ 0 ≤ e.toInt ∧ e.toInt ≤ D ∧ c.toInt < e.toInt ∧ L = 10) ∨ a.toInt < 1 ∨ 99 < a.toInt ∨ b.toInt < 0 ∨ 1 < b.toInt ∨ c.toInt < 0 ∨ 5 < c.toInt ∨ e.toInt < 0 ∨ 5 < e.toInt ∨ (D < c.toInt ∧ c.toInt ≤ 5) ∨ (D < e.toInt ∧ e.toInt ≤ 5) ∨ (0 ≤ c.toInt ∧ c.toInt ≤ 5 ∧ c.toInt = e.toInt) by omega) with k | k | k | k | k | k | k | k | k | k | k | k | k | k | k
  · refine kc_Con_mono (kc_Con_le (kv_yes (kv_hcloadA (x := (c.toInt - 1).toNat) hg (by omega) (fun _ => 2147483648 + L) _ h (kv_bx1 (by omega) (by omega)) hw ⟨⟨1, rfl, by decide, by decide⟩, kv_gi (by omega) (by omega), kv_gi (by omega) (by omega), kv_gi (by omega) (by omega), kv_gi (by omega) (by omega), trivial⟩ (fun q hq => by
      rcases List.mem_cons.mp hq with rfl | hq
      · show kd_g _ _ _ (h 1 0)
        rw [eD]
        exact kv_gi (by omega) (by omega)
      rcases List.mem_cons.mp hq with rfl | hq
      · show kd_g _ _ _ (h 1 2)
        rw [eL]
        exact kv_gv (by omega)
      cases hq))) (by decide)) (fun rv h' hq => ?_)
    obtain ⟨r, rfl, r0, hF, hw2, hfr⟩ := hq
    have e1 := kv_po (by omega) (hF (1, 2, _) List.mem_cons_self)
    exact ⟨r, rfl, hw2, hfr, Or.inl ⟨by omega, r0, e1⟩⟩
  · refine kc_Con_mono (kc_Con_le (kv_no (kv_hcloadfA (x := (c.toInt - 1).toNat) hg (by omega) (fun _ => 0) _ h kv_bx0 hw ⟨⟨1, rfl, by decide, by decide⟩, kv_gi (by omega) (by omega), kv_gi (by omega) (by omega), kv_gi (by omega) (by omega), kv_gi (by omega) (by omega), trivial⟩ (fun q hq => by
      rcases List.mem_cons.mp hq with rfl | hq
      · show kd_g _ _ _ (h 1 0)
        rw [eD]
        exact kv_gi (by omega) (by omega)
      rcases List.mem_cons.mp hq with rfl | hq
      · show kd_g _ _ _ (h 1 2)
        rw [eL]
        exact kv_gi (by omega) (by omega)
      cases hq))) (by decide)) (fun rv h' hq => ?_)
    obtain ⟨r, rfl, r0, rfl⟩ := hq
    exact ⟨r, rfl, hw, fun c i _ => rfl, Or.inr ⟨by omega, r0, rfl⟩⟩
  · refine kc_Con_mono (kc_Con_le (kv_yes (kv_hcloadB (x := (e.toInt - 1).toNat) hg (by omega) (fun _ => 2147483648 + L) _ h (kv_bx1 (by omega) (by omega)) hw ⟨⟨1, rfl, by decide, by decide⟩, kv_gi (by omega) (by omega), kv_gi (by omega) (by omega), kv_gi (by omega) (by omega), kv_gi (by omega) (by omega), trivial⟩ (fun q hq => by
      rcases List.mem_cons.mp hq with rfl | hq
      · show kd_g _ _ _ (h 1 0)
        rw [eD]
        exact kv_gi (by omega) (by omega)
      rcases List.mem_cons.mp hq with rfl | hq
      · show kd_g _ _ _ (h 1 2)
        rw [eL]
        exact kv_gv (by omega)
      cases hq))) (by decide)) (fun rv h' hq => ?_)
    obtain ⟨r, rfl, r0, hF, hw2, hfr⟩ := hq
    have e1 := kv_po (by omega) (hF (1, 2, _) List.mem_cons_self)
    exact ⟨r, rfl, hw2, hfr, Or.inl ⟨by omega, r0, e1⟩⟩
  · refine kc_Con_mono (kc_Con_le (kv_no (kv_hcloadfB (x := (e.toInt - 1).toNat) hg (by omega) (fun _ => 0) _ h kv_bx0 hw ⟨⟨1, rfl, by decide, by decide⟩, kv_gi (by omega) (by omega), kv_gi (by omega) (by omega), kv_gi (by omega) (by omega), kv_gi (by omega) (by omega), trivial⟩ (fun q hq => by
      rcases List.mem_cons.mp hq with rfl | hq
      · show kd_g _ _ _ (h 1 0)
        rw [eD]
        exact kv_gi (by omega) (by omega)
      rcases List.mem_cons.mp hq with rfl | hq
      · show kd_g _ _ _ (h 1 2)
        rw [eL]
        exact kv_gi (by omega) (by omega)
      cases hq))) (by decide)) (fun rv h' hq => ?_)
    obtain ⟨r, rfl, r0, rfl⟩ := hq
    exact ⟨r, rfl, hw, fun c i _ => rfl, Or.inr ⟨by omega, r0, rfl⟩⟩
  · refine kc_Con_mono (kc_Con_le (kv_no (kv_hcload0 hg (fun _ => 0) _ h kv_bx0 hw ⟨⟨1, rfl, by decide, by decide⟩, kv_gi (by omega) (by omega), kv_gi (by omega) (by omega), kv_gi (by omega) (by omega), kv_gi (by omega) (by omega), trivial⟩ (fun q hq => by cases hq))) (by decide)) (fun rv h' hq => ?_)
    obtain ⟨r, rfl, r0, rfl⟩ := hq
    exact ⟨r, rfl, hw, fun c i _ => rfl, Or.inr ⟨by omega, r0, rfl⟩⟩
  · refine kc_Con_mono (kc_Con_le (kv_no (kv_hcload1 hg (fun _ => 0) _ h kv_bx0 hw ⟨⟨1, rfl, by decide, by decide⟩, kv_gi (by omega) (by omega), kv_gi (by omega) (by omega), kv_gi (by omega) (by omega), kv_gi (by omega) (by omega), trivial⟩ (fun q hq => by cases hq))) (by decide)) (fun rv h' hq => ?_)
    obtain ⟨r, rfl, r0, rfl⟩ := hq
    exact ⟨r, rfl, hw, fun c i _ => rfl, Or.inr ⟨by omega, r0, rfl⟩⟩
  · refine kc_Con_mono (kc_Con_le (kv_no (kv_hcload2 hg (fun _ => 0) _ h kv_bx0 hw ⟨⟨1, rfl, by decide, by decide⟩, kv_gi (by omega) (by omega), kv_gi (by omega) (by omega), kv_gi (by omega) (by omega), kv_gi (by omega) (by omega), trivial⟩ (fun q hq => by cases hq))) (by decide)) (fun rv h' hq => ?_)
    obtain ⟨r, rfl, r0, rfl⟩ := hq
    exact ⟨r, rfl, hw, fun c i _ => rfl, Or.inr ⟨by omega, r0, rfl⟩⟩
  · refine kc_Con_mono (kc_Con_le (kv_no (kv_hcload3 hg (fun _ => 0) _ h kv_bx0 hw ⟨⟨1, rfl, by decide, by decide⟩, kv_gi (by omega) (by omega), kv_gi (by omega) (by omega), kv_gi (by omega) (by omega), kv_gi (by omega) (by omega), trivial⟩ (fun q hq => by cases hq))) (by decide)) (fun rv h' hq => ?_)
    obtain ⟨r, rfl, r0, rfl⟩ := hq
    exact ⟨r, rfl, hw, fun c i _ => rfl, Or.inr ⟨by omega, r0, rfl⟩⟩
  · refine kc_Con_mono (kc_Con_le (kv_no (kv_hcload4 hg (fun _ => 0) _ h kv_bx0 hw ⟨⟨1, rfl, by decide, by decide⟩, kv_gi (by omega) (by omega), kv_gi (by omega) (by omega), kv_gi (by omega) (by omega), kv_gi (by omega) (by omega), trivial⟩ (fun q hq => by cases hq))) (by decide)) (fun rv h' hq => ?_)
    obtain ⟨r, rfl, r0, rfl⟩ := hq
    exact ⟨r, rfl, hw, fun c i _ => rfl, Or.inr ⟨by omega, r0, rfl⟩⟩
  · refine kc_Con_mono (kc_Con_le (kv_no (kv_hcload5 hg (fun _ => 0) _ h kv_bx0 hw ⟨⟨1, rfl, by decide, by decide⟩, kv_gi (by omega) (by omega), kv_gi (by omega) (by omega), kv_gi (by omega) (by omega), kv_gi (by omega) (by omega), trivial⟩ (fun q hq => by cases hq))) (by decide)) (fun rv h' hq => ?_)
    obtain ⟨r, rfl, r0, rfl⟩ := hq
    exact ⟨r, rfl, hw, fun c i _ => rfl, Or.inr ⟨by omega, r0, rfl⟩⟩
  · refine kc_Con_mono (kc_Con_le (kv_no (kv_hcload6 hg (fun _ => 0) _ h kv_bx0 hw ⟨⟨1, rfl, by decide, by decide⟩, kv_gi (by omega) (by omega), kv_gi (by omega) (by omega), kv_gi (by omega) (by omega), kv_gi (by omega) (by omega), trivial⟩ (fun q hq => by cases hq))) (by decide)) (fun rv h' hq => ?_)
    obtain ⟨r, rfl, r0, rfl⟩ := hq
    exact ⟨r, rfl, hw, fun c i _ => rfl, Or.inr ⟨by omega, r0, rfl⟩⟩
  · refine kc_Con_mono (kc_Con_le (kv_no (kv_hcload7 hg (fun _ => 0) _ h kv_bx0 hw ⟨⟨1, rfl, by decide, by decide⟩, kv_gi (by omega) (by omega), kv_gi (by omega) (by omega), kv_gi (by omega) (by omega), kv_gi (by omega) (by omega), trivial⟩ (fun q hq => by cases hq))) (by decide)) (fun rv h' hq => ?_)
    obtain ⟨r, rfl, r0, rfl⟩ := hq
    exact ⟨r, rfl, hw, fun c i _ => rfl, Or.inr ⟨by omega, r0, rfl⟩⟩
  · refine kc_Con_mono (kc_Con_le (kv_no (kv_hcloadp (x := (c.toInt - 1).toNat) hg (by omega) (fun _ => 0) _ h kv_bx0 hw ⟨⟨1, rfl, by decide, by decide⟩, kv_gi (by omega) (by omega), kv_gi (by omega) (by omega), kv_gi (by omega) (by omega), kv_gi (by omega) (by omega), trivial⟩ (fun q hq => by
      rcases List.mem_cons.mp hq with rfl | hq
      · show kd_g _ _ _ (h 1 0)
        rw [eD]
        exact kv_gi (by omega) (by omega)
      cases hq))) (by decide)) (fun rv h' hq => ?_)
    obtain ⟨r, rfl, r0, rfl⟩ := hq
    exact ⟨r, rfl, hw, fun c i _ => rfl, Or.inr ⟨by omega, r0, rfl⟩⟩
  · refine kc_Con_mono (kc_Con_le (kv_no (kv_hcloadq (x := (e.toInt - 1).toNat) hg (by omega) (fun _ => 0) _ h kv_bx0 hw ⟨⟨1, rfl, by decide, by decide⟩, kv_gi (by omega) (by omega), kv_gi (by omega) (by omega), kv_gi (by omega) (by omega), kv_gi (by omega) (by omega), trivial⟩ (fun q hq => by
      rcases List.mem_cons.mp hq with rfl | hq
      · show kd_g _ _ _ (h 1 0)
        rw [eD]
        exact kv_gi (by omega) (by omega)
      cases hq))) (by decide)) (fun rv h' hq => ?_)
    obtain ⟨r, rfl, r0, rfl⟩ := hq
    exact ⟨r, rfl, hw, fun c i _ => rfl, Or.inr ⟨by omega, r0, rfl⟩⟩
  · refine kc_Con_mono (kc_Con_le (kv_no (kv_hcloade (x := c.toInt.toNat) hg (by omega) (fun _ => 0) _ h kv_bx0 hw ⟨⟨1, rfl, by decide, by decide⟩, kv_gi (by omega) (by omega), kv_gi (by omega) (by omega), kv_gi (by omega) (by omega), kv_gi (by omega) (by omega), trivial⟩ (fun q hq => by cases hq))) (by decide)) (fun rv h' hq => ?_)
    obtain ⟨r, rfl, r0, rfl⟩ := hq
    exact ⟨r, rfl, hw, fun c i _ => rfl, Or.inr ⟨by omega, r0, rfl⟩⟩
theorem kv_cway {g : kc_G} {h : kc_H} {D M L : Nat} {a b c : Int32} (hg : kc_ok g) (hw : kd_wt kd_ty h) (hC : kv_C h D M L) : kc_Con g 3 17 [.inr (.inr (.inl (some 1))), .inl a, .inl b, .inl c] h (fun rv h' => ∃ r : Int32, rv = some (.inl r) ∧ kd_wt kd_ty h' ∧ kd_fr [(3, 8, 0, 5)] h h' ∧ (((0 ≤ a.toInt ∧ a.toInt ≤ D ∧ 0 ≤ b.toInt ∧ b.toInt ≤ D ∧ 1 ≤ c.toInt ∧ c.toInt ≤ 99 ∧ ¬ a.toInt = b.toInt) ∧ 0 ≤ r.toInt) ∨ (¬ (0 ≤ a.toInt ∧ a.toInt ≤ D ∧ 0 ≤ b.toInt ∧ b.toInt ≤ D ∧ 1 ≤ c.toInt ∧ c.toInt ≤ 99 ∧ ¬ a.toInt = b.toInt) ∧ r.toInt < 0 ∧ h' = h))) := by
  obtain ⟨hD, hM, hL, eD, eM, eL⟩ := hC
  have tD : (Int32.ofNat D).toInt = D := kx_ti (by omega)
  have tM : (Int32.ofNat M).toInt = M := kx_ti (by omega)
  have tL : (Int32.ofNat L).toInt = L := kx_ti (by omega)
  have alo := kv_lo a
  have ahi := kv_hi a
  have blo := kv_lo b
  have bhi := kv_hi b
  have clo := kv_lo c
  have chi := kv_hi c
  rcases (show (0 ≤ a.toInt ∧ a.toInt ≤ D ∧ 0 ≤ b.toInt ∧ b.toInt ≤ D ∧ 1 ≤ c.toInt ∧ c.toInt ≤ 99 ∧ b.toInt < a.toInt) ∨ (0 ≤ a.toInt ∧ a.toInt ≤ D ∧ 0 ≤ b.toInt ∧ b.toInt ≤ D ∧ 1 ≤ c.toInt ∧ c.toInt ≤ 99 ∧ a.toInt < b.toInt) ∨ a.toInt < 0 ∨ 5 < a.toInt ∨ b.toInt < 0 ∨ 5 < b.toInt ∨ c.toInt < 1 ∨ 99 < c.toInt ∨ (D < a.toInt ∧ a.toInt ≤ 5) ∨ (D < b.toInt ∧ b.toInt ≤ 5) ∨ (0 ≤ a.toInt ∧ a.toInt ≤ 5 ∧ a.toInt = b.toInt) by omega) with k | k | k | k | k | k | k | k | k | k | k
  · refine kc_Con_mono (kc_Con_le (kv_yes (kv_hcwayA (x := (a.toInt - 1).toNat) hg (by omega) (fun _ => 0) _ h kv_bx0 hw ⟨⟨1, rfl, by decide, by decide⟩, kv_gi (by omega) (by omega), kv_gi (by omega) (by omega), kv_gi (by omega) (by omega), trivial⟩ (fun q hq => by
      rcases List.mem_cons.mp hq with rfl | hq
      · show kd_g _ _ _ (h 1 0)
        rw [eD]
        exact kv_gi (by omega) (by omega)
      cases hq))) (by decide)) (fun rv h' hq => ?_)
    obtain ⟨r, rfl, r0, hF, hw2, hfr⟩ := hq
    exact ⟨r, rfl, hw2, hfr, Or.inl ⟨by omega, r0⟩⟩
  · refine kc_Con_mono (kc_Con_le (kv_yes (kv_hcwayB (x := (b.toInt - 1).toNat) hg (by omega) (fun _ => 0) _ h kv_bx0 hw ⟨⟨1, rfl, by decide, by decide⟩, kv_gi (by omega) (by omega), kv_gi (by omega) (by omega), kv_gi (by omega) (by omega), trivial⟩ (fun q hq => by
      rcases List.mem_cons.mp hq with rfl | hq
      · show kd_g _ _ _ (h 1 0)
        rw [eD]
        exact kv_gi (by omega) (by omega)
      cases hq))) (by decide)) (fun rv h' hq => ?_)
    obtain ⟨r, rfl, r0, hF, hw2, hfr⟩ := hq
    exact ⟨r, rfl, hw2, hfr, Or.inl ⟨by omega, r0⟩⟩
  · refine kc_Con_mono (kc_Con_le (kv_no (kv_hcway0 hg (fun _ => 0) _ h kv_bx0 hw ⟨⟨1, rfl, by decide, by decide⟩, kv_gi (by omega) (by omega), kv_gi (by omega) (by omega), kv_gi (by omega) (by omega), trivial⟩ (fun q hq => by cases hq))) (by decide)) (fun rv h' hq => ?_)
    obtain ⟨r, rfl, r0, rfl⟩ := hq
    exact ⟨r, rfl, hw, fun c i _ => rfl, Or.inr ⟨by omega, r0, rfl⟩⟩
  · refine kc_Con_mono (kc_Con_le (kv_no (kv_hcway1 hg (fun _ => 0) _ h kv_bx0 hw ⟨⟨1, rfl, by decide, by decide⟩, kv_gi (by omega) (by omega), kv_gi (by omega) (by omega), kv_gi (by omega) (by omega), trivial⟩ (fun q hq => by cases hq))) (by decide)) (fun rv h' hq => ?_)
    obtain ⟨r, rfl, r0, rfl⟩ := hq
    exact ⟨r, rfl, hw, fun c i _ => rfl, Or.inr ⟨by omega, r0, rfl⟩⟩
  · refine kc_Con_mono (kc_Con_le (kv_no (kv_hcway2 hg (fun _ => 0) _ h kv_bx0 hw ⟨⟨1, rfl, by decide, by decide⟩, kv_gi (by omega) (by omega), kv_gi (by omega) (by omega), kv_gi (by omega) (by omega), trivial⟩ (fun q hq => by cases hq))) (by decide)) (fun rv h' hq => ?_)
    obtain ⟨r, rfl, r0, rfl⟩ := hq
    exact ⟨r, rfl, hw, fun c i _ => rfl, Or.inr ⟨by omega, r0, rfl⟩⟩
  · refine kc_Con_mono (kc_Con_le (kv_no (kv_hcway3 hg (fun _ => 0) _ h kv_bx0 hw ⟨⟨1, rfl, by decide, by decide⟩, kv_gi (by omega) (by omega), kv_gi (by omega) (by omega), kv_gi (by omega) (by omega), trivial⟩ (fun q hq => by cases hq))) (by decide)) (fun rv h' hq => ?_)
    obtain ⟨r, rfl, r0, rfl⟩ := hq
    exact ⟨r, rfl, hw, fun c i _ => rfl, Or.inr ⟨by omega, r0, rfl⟩⟩
  · refine kc_Con_mono (kc_Con_le (kv_no (kv_hcway4 hg (fun _ => 0) _ h kv_bx0 hw ⟨⟨1, rfl, by decide, by decide⟩, kv_gi (by omega) (by omega), kv_gi (by omega) (by omega), kv_gi (by omega) (by omega), trivial⟩ (fun q hq => by cases hq))) (by decide)) (fun rv h' hq => ?_)
    obtain ⟨r, rfl, r0, rfl⟩ := hq
    exact ⟨r, rfl, hw, fun c i _ => rfl, Or.inr ⟨by omega, r0, rfl⟩⟩
  · refine kc_Con_mono (kc_Con_le (kv_no (kv_hcway5 hg (fun _ => 0) _ h kv_bx0 hw ⟨⟨1, rfl, by decide, by decide⟩, kv_gi (by omega) (by omega), kv_gi (by omega) (by omega), kv_gi (by omega) (by omega), trivial⟩ (fun q hq => by cases hq))) (by decide)) (fun rv h' hq => ?_)
    obtain ⟨r, rfl, r0, rfl⟩ := hq
    exact ⟨r, rfl, hw, fun c i _ => rfl, Or.inr ⟨by omega, r0, rfl⟩⟩
  · refine kc_Con_mono (kc_Con_le (kv_no (kv_hcwayp (x := (a.toInt - 1).toNat) hg (by omega) (fun _ => 0) _ h kv_bx0 hw ⟨⟨1, rfl, by decide, by decide⟩, kv_gi (by omega) (by omega), kv_gi (by omega) (by omega), kv_gi (by omega) (by omega), trivial⟩ (fun q hq => by
      rcases List.mem_cons.mp hq with rfl | hq
      · show kd_g _ _ _ (h 1 0)
        rw [eD]
        exact kv_gi (by omega) (by omega)
      cases hq))) (by decide)) (fun rv h' hq => ?_)
    obtain ⟨r, rfl, r0, rfl⟩ := hq
    exact ⟨r, rfl, hw, fun c i _ => rfl, Or.inr ⟨by omega, r0, rfl⟩⟩
  · refine kc_Con_mono (kc_Con_le (kv_no (kv_hcwayq (x := (b.toInt - 1).toNat) hg (by omega) (fun _ => 0) _ h kv_bx0 hw ⟨⟨1, rfl, by decide, by decide⟩, kv_gi (by omega) (by omega), kv_gi (by omega) (by omega), kv_gi (by omega) (by omega), trivial⟩ (fun q hq => by
      rcases List.mem_cons.mp hq with rfl | hq
      · show kd_g _ _ _ (h 1 0)
        rw [eD]
        exact kv_gi (by omega) (by omega)
      cases hq))) (by decide)) (fun rv h' hq => ?_)
    obtain ⟨r, rfl, r0, rfl⟩ := hq
    exact ⟨r, rfl, hw, fun c i _ => rfl, Or.inr ⟨by omega, r0, rfl⟩⟩
  · refine kc_Con_mono (kc_Con_le (kv_no (kv_hcwaye (x := a.toInt.toNat) hg (by omega) (fun _ => 0) _ h kv_bx0 hw ⟨⟨1, rfl, by decide, by decide⟩, kv_gi (by omega) (by omega), kv_gi (by omega) (by omega), kv_gi (by omega) (by omega), trivial⟩ (fun q hq => by cases hq))) (by decide)) (fun rv h' hq => ?_)
    obtain ⟨r, rfl, r0, rfl⟩ := hq
    exact ⟨r, rfl, hw, fun c i _ => rfl, Or.inr ⟨by omega, r0, rfl⟩⟩
theorem kv_clame {g : kc_G} {h : kc_H} {D M L : Nat} {a b c : Int32} (hg : kc_ok g) (hw : kd_wt kd_ty h) (hC : kv_C h D M L) : kc_Con g 4 36 [.inr (.inr (.inl (some 1))), .inl a, .inl b, .inl c] h (fun rv h' => ∃ r : Int32, rv = some (.inl r) ∧ kd_wt kd_ty h' ∧ kd_fr [(12, 14, 0, 4)] h h' ∧ (((0 ≤ a.toInt ∧ a.toInt < M ∧ 0 ≤ b.toInt ∧ b.toInt ≤ 1 ∧ 0 ≤ c.toInt ∧ c.toInt ≤ 999) ∧ 0 ≤ r.toInt) ∨ (¬ (0 ≤ a.toInt ∧ a.toInt < M ∧ 0 ≤ b.toInt ∧ b.toInt ≤ 1 ∧ 0 ≤ c.toInt ∧ c.toInt ≤ 999) ∧ r.toInt < 0 ∧ h' = h))) := by
  obtain ⟨hD, hM, hL, eD, eM, eL⟩ := hC
  have tD : (Int32.ofNat D).toInt = D := kx_ti (by omega)
  have tM : (Int32.ofNat M).toInt = M := kx_ti (by omega)
  have tL : (Int32.ofNat L).toInt = L := kx_ti (by omega)
  have alo := kv_lo a
  have ahi := kv_hi a
  have blo := kv_lo b
  have bhi := kv_hi b
  have clo := kv_lo c
  have chi := kv_hi c
  rcases (show (0 ≤ a.toInt ∧ a.toInt < M ∧ 0 ≤ b.toInt ∧ b.toInt ≤ 1 ∧ 0 ≤ c.toInt ∧ c.toInt ≤ 999) ∨ a.toInt < 0 ∨ 2 < a.toInt ∨ b.toInt < 0 ∨ 1 < b.toInt ∨ c.toInt < 0 ∨ 999 < c.toInt ∨ (0 ≤ a.toInt ∧ a.toInt ≤ 2 ∧ M ≤ a.toInt) by omega) with k | k | k | k | k | k | k | k
  · refine kc_Con_mono (kc_Con_le (kv_yes (kv_hclame (x := a.toInt.toNat) hg (by omega) (fun _ => 0) _ h kv_bx0 hw ⟨⟨1, rfl, by decide, by decide⟩, kv_gi (by omega) (by omega), kv_gi (by omega) (by omega), kv_gi (by omega) (by omega), trivial⟩ (fun q hq => by
      rcases List.mem_cons.mp hq with rfl | hq
      · show kd_g _ _ _ (h 1 1)
        rw [eM]
        exact kv_gi (by omega) (by omega)
      cases hq))) (by decide)) (fun rv h' hq => ?_)
    obtain ⟨r, rfl, r0, hF, hw2, hfr⟩ := hq
    exact ⟨r, rfl, hw2, hfr, Or.inl ⟨by omega, r0⟩⟩
  · refine kc_Con_mono (kc_Con_le (kv_no (kv_hclame0 hg (fun _ => 0) _ h kv_bx0 hw ⟨⟨1, rfl, by decide, by decide⟩, kv_gi (by omega) (by omega), kv_gi (by omega) (by omega), kv_gi (by omega) (by omega), trivial⟩ (fun q hq => by cases hq))) (by decide)) (fun rv h' hq => ?_)
    obtain ⟨r, rfl, r0, rfl⟩ := hq
    exact ⟨r, rfl, hw, fun c i _ => rfl, Or.inr ⟨by omega, r0, rfl⟩⟩
  · refine kc_Con_mono (kc_Con_le (kv_no (kv_hclame1 hg (fun _ => 0) _ h kv_bx0 hw ⟨⟨1, rfl, by decide, by decide⟩, kv_gi (by omega) (by omega), kv_gi (by omega) (by omega), kv_gi (by omega) (by omega), trivial⟩ (fun q hq => by cases hq))) (by decide)) (fun rv h' hq => ?_)
    obtain ⟨r, rfl, r0, rfl⟩ := hq
    exact ⟨r, rfl, hw, fun c i _ => rfl, Or.inr ⟨by omega, r0, rfl⟩⟩
  · refine kc_Con_mono (kc_Con_le (kv_no (kv_hclame2 hg (fun _ => 0) _ h kv_bx0 hw ⟨⟨1, rfl, by decide, by decide⟩, kv_gi (by omega) (by omega), kv_gi (by omega) (by omega), kv_gi (by omega) (by omega), trivial⟩ (fun q hq => by cases hq))) (by decide)) (fun rv h' hq => ?_)
    obtain ⟨r, rfl, r0, rfl⟩ := hq
    exact ⟨r, rfl, hw, fun c i _ => rfl, Or.inr ⟨by omega, r0, rfl⟩⟩
  · refine kc_Con_mono (kc_Con_le (kv_no (kv_hclame3 hg (fun _ => 0) _ h kv_bx0 hw ⟨⟨1, rfl, by decide, by decide⟩, kv_gi (by omega) (by omega), kv_gi (by omega) (by omega), kv_gi (by omega) (by omega), trivial⟩ (fun q hq => by cases hq))) (by decide)) (fun rv h' hq => ?_)
    obtain ⟨r, rfl, r0, rfl⟩ := hq
    exact ⟨r, rfl, hw, fun c i _ => rfl, Or.inr ⟨by omega, r0, rfl⟩⟩
  · refine kc_Con_mono (kc_Con_le (kv_no (kv_hclame4 hg (fun _ => 0) _ h kv_bx0 hw ⟨⟨1, rfl, by decide, by decide⟩, kv_gi (by omega) (by omega), kv_gi (by omega) (by omega), kv_gi (by omega) (by omega), trivial⟩ (fun q hq => by cases hq))) (by decide)) (fun rv h' hq => ?_)
    obtain ⟨r, rfl, r0, rfl⟩ := hq
    exact ⟨r, rfl, hw, fun c i _ => rfl, Or.inr ⟨by omega, r0, rfl⟩⟩
  · refine kc_Con_mono (kc_Con_le (kv_no (kv_hclame5 hg (fun _ => 0) _ h kv_bx0 hw ⟨⟨1, rfl, by decide, by decide⟩, kv_gi (by omega) (by omega), kv_gi (by omega) (by omega), kv_gi (by omega) (by omega), trivial⟩ (fun q hq => by cases hq))) (by decide)) (fun rv h' hq => ?_)
    obtain ⟨r, rfl, r0, rfl⟩ := hq
    exact ⟨r, rfl, hw, fun c i _ => rfl, Or.inr ⟨by omega, r0, rfl⟩⟩
  · refine kc_Con_mono (kc_Con_le (kv_no (kv_hclamep (x := a.toInt.toNat) hg (by omega) (fun _ => 0) _ h kv_bx0 hw ⟨⟨1, rfl, by decide, by decide⟩, kv_gi (by omega) (by omega), kv_gi (by omega) (by omega), kv_gi (by omega) (by omega), trivial⟩ (fun q hq => by
      rcases List.mem_cons.mp hq with rfl | hq
      · show kd_g _ _ _ (h 1 1)
        rw [eM]
        exact kv_gi (by omega) (by omega)
      cases hq))) (by decide)) (fun rv h' hq => ?_)
    obtain ⟨r, rfl, r0, rfl⟩ := hq
    exact ⟨r, rfl, hw, fun c i _ => rfl, Or.inr ⟨by omega, r0, rfl⟩⟩
theorem kv_cford {g : kc_G} {h : kc_H} {D M L : Nat} {a : Int32} (hg : kc_ok g) (hw : kd_wt kd_ty h) (hC : kv_C h D M L) {f : Nat} (hf : f ≤ 1) (ef : 1 ≤ a.toInt → a.toInt ≤ 5 → h 9 a.toInt.toNat = .inl (Int32.ofNat f)) : kc_Con g 3 24 [.inr (.inr (.inl (some 1))), .inl a] h (fun rv h' => ∃ r : Int32, rv = some (.inl r) ∧ kd_wt kd_ty h' ∧ kd_fr [(9, 9, a.toInt.toNat, a.toInt.toNat)] h h' ∧ (((1 ≤ a.toInt ∧ a.toInt ≤ D ∧ f = 0) ∧ 0 ≤ r.toInt ∧ h' 9 a.toInt.toNat = .inl (Int32.ofNat 1)) ∨ (¬ (1 ≤ a.toInt ∧ a.toInt ≤ D ∧ f = 0) ∧ r.toInt < 0 ∧ h' = h))) := by
  obtain ⟨hD, hM, hL, eD, eM, eL⟩ := hC
  have tD : (Int32.ofNat D).toInt = D := kx_ti (by omega)
  have tM : (Int32.ofNat M).toInt = M := kx_ti (by omega)
  have tL : (Int32.ofNat L).toInt = L := kx_ti (by omega)
  have alo := kv_lo a
  have ahi := kv_hi a
  rcases (show (1 ≤ a.toInt ∧ a.toInt ≤ D ∧ f = 0) ∨ (1 ≤ a.toInt ∧ a.toInt ≤ D ∧ f = 1) ∨ a.toInt < 1 ∨ 5 < a.toInt ∨ (1 ≤ a.toInt ∧ a.toInt ≤ 5 ∧ D < a.toInt) by omega) with k | k | k | k | k
  · refine kc_Con_mono (kc_Con_le (kv_yes (kv_hcford (x := (a.toInt - 1).toNat) hg (by omega) (fun _ => 0) _ h kv_bx0 hw ⟨⟨1, rfl, by decide, by decide⟩, kv_gi (by omega) (by omega), trivial⟩ (fun q hq => by
      rcases List.mem_cons.mp hq with rfl | hq
      · show kd_g _ _ _ (h 1 0)
        rw [eD]
        exact kv_gi (by omega) (by omega)
      rcases List.mem_cons.mp hq with rfl | hq
      · show kd_g _ _ _ (h 9 ((((a.toInt - 1).toNat)+1)))
        rw [show (((a.toInt - 1).toNat)+1) = a.toInt.toNat from by omega, ef (by omega) (by omega)]
        obtain rfl : f = 0 := by omega
        exact kb_ok (k := 0) (by decide)
      cases hq))) (by decide)) (fun rv h' hq => ?_)
    obtain ⟨r, rfl, r0, hF, hw2, hfr⟩ := hq
    have e0 := kv_p1 (hF (9, (a.toInt - 1).toNat + 1, _) List.mem_cons_self)
    have e1 : h' 9 a.toInt.toNat = .inl (Int32.ofNat 1) := by
      rw [show a.toInt.toNat = (a.toInt - 1).toNat + 1 from by omega]
      exact e0
    have hfr2 : kd_fr [(9, 9, a.toInt.toNat, a.toInt.toNat)] h h' := by
      rw [show [(9, 9, a.toInt.toNat, a.toInt.toNat)] = [(9, 9, (a.toInt - 1).toNat + 1, (a.toInt - 1).toNat + 1)] from by rw [show a.toInt.toNat = (a.toInt - 1).toNat + 1 from by omega]]
      exact hfr
    exact ⟨r, rfl, hw2, hfr2, Or.inl ⟨by omega, r0, e1⟩⟩
  · refine kc_Con_mono (kc_Con_le (kv_no (kv_hcfordn (x := (a.toInt - 1).toNat) hg (by omega) (fun _ => 0) _ h kv_bx0 hw ⟨⟨1, rfl, by decide, by decide⟩, kv_gi (by omega) (by omega), trivial⟩ (fun q hq => by
      rcases List.mem_cons.mp hq with rfl | hq
      · show kd_g _ _ _ (h 9 ((((a.toInt - 1).toNat)+1)))
        rw [show (((a.toInt - 1).toNat)+1) = a.toInt.toNat from by omega, ef (by omega) (by omega)]
        obtain rfl : f = 1 := by omega
        exact kb_ok (k := 1) (by decide)
      cases hq))) (by decide)) (fun rv h' hq => ?_)
    obtain ⟨r, rfl, r0, rfl⟩ := hq
    exact ⟨r, rfl, hw, fun c i _ => rfl, Or.inr ⟨by omega, r0, rfl⟩⟩
  · refine kc_Con_mono (kc_Con_le (kv_no (kv_hcford0 hg (fun _ => 0) _ h kv_bx0 hw ⟨⟨1, rfl, by decide, by decide⟩, kv_gi (by omega) (by omega), trivial⟩ (fun q hq => by cases hq))) (by decide)) (fun rv h' hq => ?_)
    obtain ⟨r, rfl, r0, rfl⟩ := hq
    exact ⟨r, rfl, hw, fun c i _ => rfl, Or.inr ⟨by omega, r0, rfl⟩⟩
  · refine kc_Con_mono (kc_Con_le (kv_no (kv_hcford1 hg (fun _ => 0) _ h kv_bx0 hw ⟨⟨1, rfl, by decide, by decide⟩, kv_gi (by omega) (by omega), trivial⟩ (fun q hq => by cases hq))) (by decide)) (fun rv h' hq => ?_)
    obtain ⟨r, rfl, r0, rfl⟩ := hq
    exact ⟨r, rfl, hw, fun c i _ => rfl, Or.inr ⟨by omega, r0, rfl⟩⟩
  · refine kc_Con_mono (kc_Con_le (kv_no (kv_hcfordp (x := (a.toInt - 1).toNat) hg (by omega) (fun _ => 0) _ h kv_bx0 hw ⟨⟨1, rfl, by decide, by decide⟩, kv_gi (by omega) (by omega), trivial⟩ (fun q hq => by
      rcases List.mem_cons.mp hq with rfl | hq
      · show kd_g _ _ _ (h 1 0)
        rw [eD]
        exact kv_gi (by omega) (by omega)
      cases hq))) (by decide)) (fun rv h' hq => ?_)
    obtain ⟨r, rfl, r0, rfl⟩ := hq
    exact ⟨r, rfl, hw, fun c i _ => rfl, Or.inr ⟨by omega, r0, rfl⟩⟩
theorem kv_cask {g : kc_G} {h : kc_H} {D M L : Nat} {a b : Int32} (hg : kc_ok g) (hw : kd_wt kd_ty h) (hC : kv_C h D M L) : kc_Con g 3 45 [.inr (.inr (.inl (some 1))), .inl a, .inl (Int32.ofNat 4), .inl b, .inl (Int32.ofNat 100)] h (fun rv h' => ∃ r : Int32, rv = some (.inl r) ∧ kd_wt kd_ty h' ∧ kd_fr [(16, 25, 0, 6)] h h' ∧ (((0 ≤ a.toInt ∧ a.toInt < L ∧ 0 ≤ b.toInt ∧ b.toInt ≤ 100) ∧ 0 ≤ r.toInt) ∨ (¬ (0 ≤ a.toInt ∧ a.toInt < L ∧ 0 ≤ b.toInt ∧ b.toInt ≤ 100) ∧ r.toInt < 0 ∧ h' = h))) := by
  obtain ⟨hD, hM, hL, eD, eM, eL⟩ := hC
  have tD : (Int32.ofNat D).toInt = D := kx_ti (by omega)
  have tM : (Int32.ofNat M).toInt = M := kx_ti (by omega)
  have tL : (Int32.ofNat L).toInt = L := kx_ti (by omega)
  have alo := kv_lo a
  have ahi := kv_hi a
  have blo := kv_lo b
  have bhi := kv_hi b
  rcases (show (0 ≤ a.toInt ∧ a.toInt < L ∧ 0 ≤ b.toInt ∧ b.toInt ≤ 100) ∨ a.toInt < 0 ∨ 9 < a.toInt ∨ b.toInt < 0 ∨ 100 < b.toInt ∨ (0 ≤ a.toInt ∧ a.toInt ≤ 9 ∧ L ≤ a.toInt) by omega) with k | k | k | k | k | k
  · refine kc_Con_mono (kc_Con_le (kv_yes (kv_hcask (x := a.toInt.toNat) hg (by omega) (fun _ => 0) _ h kv_bx0 hw ⟨⟨1, rfl, by decide, by decide⟩, kv_gi (by omega) (by omega), kb_ok (k := 4) (by decide), kv_gi (by omega) (by omega), kb_ok (k := 100) (by decide), trivial⟩ (fun q hq => by
      rcases List.mem_cons.mp hq with rfl | hq
      · show kd_g _ _ _ (h 1 2)
        rw [eL]
        exact kv_gi (by omega) (by omega)
      cases hq))) (by decide)) (fun rv h' hq => ?_)
    obtain ⟨r, rfl, r0, hF, hw2, hfr⟩ := hq
    exact ⟨r, rfl, hw2, hfr, Or.inl ⟨by omega, r0⟩⟩
  · refine kc_Con_mono (kc_Con_le (kv_no (kv_hcask0 hg (fun _ => 0) _ h kv_bx0 hw ⟨⟨1, rfl, by decide, by decide⟩, kv_gi (by omega) (by omega), kb_ok (k := 4) (by decide), kv_gi (by omega) (by omega), kb_ok (k := 100) (by decide), trivial⟩ (fun q hq => by cases hq))) (by decide)) (fun rv h' hq => ?_)
    obtain ⟨r, rfl, r0, rfl⟩ := hq
    exact ⟨r, rfl, hw, fun c i _ => rfl, Or.inr ⟨by omega, r0, rfl⟩⟩
  · refine kc_Con_mono (kc_Con_le (kv_no (kv_hcask1 hg (fun _ => 0) _ h kv_bx0 hw ⟨⟨1, rfl, by decide, by decide⟩, kv_gi (by omega) (by omega), kb_ok (k := 4) (by decide), kv_gi (by omega) (by omega), kb_ok (k := 100) (by decide), trivial⟩ (fun q hq => by cases hq))) (by decide)) (fun rv h' hq => ?_)
    obtain ⟨r, rfl, r0, rfl⟩ := hq
    exact ⟨r, rfl, hw, fun c i _ => rfl, Or.inr ⟨by omega, r0, rfl⟩⟩
  · refine kc_Con_mono (kc_Con_le (kv_no (kv_hcask2 hg (fun _ => 0) _ h kv_bx0 hw ⟨⟨1, rfl, by decide, by decide⟩, kv_gi (by omega) (by omega), kb_ok (k := 4) (by decide), kv_gi (by omega) (by omega), kb_ok (k := 100) (by decide), trivial⟩ (fun q hq => by cases hq))) (by decide)) (fun rv h' hq => ?_)
    obtain ⟨r, rfl, r0, rfl⟩ := hq
    exact ⟨r, rfl, hw, fun c i _ => rfl, Or.inr ⟨by omega, r0, rfl⟩⟩
  · refine kc_Con_mono (kc_Con_le (kv_no (kv_hcask3 hg (fun _ => 0) _ h kv_bx0 hw ⟨⟨1, rfl, by decide, by decide⟩, kv_gi (by omega) (by omega), kb_ok (k := 4) (by decide), kv_gi (by omega) (by omega), kb_ok (k := 100) (by decide), trivial⟩ (fun q hq => by cases hq))) (by decide)) (fun rv h' hq => ?_)
    obtain ⟨r, rfl, r0, rfl⟩ := hq
    exact ⟨r, rfl, hw, fun c i _ => rfl, Or.inr ⟨by omega, r0, rfl⟩⟩
  · refine kc_Con_mono (kc_Con_le (kv_no (kv_hcaskp (x := a.toInt.toNat) hg (by omega) (fun _ => 0) _ h kv_bx0 hw ⟨⟨1, rfl, by decide, by decide⟩, kv_gi (by omega) (by omega), kb_ok (k := 4) (by decide), kv_gi (by omega) (by omega), kb_ok (k := 100) (by decide), trivial⟩ (fun q hq => by
      rcases List.mem_cons.mp hq with rfl | hq
      · show kd_g _ _ _ (h 1 2)
        rw [eL]
        exact kv_gi (by omega) (by omega)
      cases hq))) (by decide)) (fun rv h' hq => ?_)
    obtain ⟨r, rfl, r0, rfl⟩ := hq
    exact ⟨r, rfl, hw, fun c i _ => rfl, Or.inr ⟨by omega, r0, rfl⟩⟩
theorem kv_cdrain {g : kc_G} {h : kc_H} {D M L : Nat} {a b : Int32} (hg : kc_ok g) (hw : kd_wt kd_ty h) (hC : kv_C h D M L) : kc_Con g 3 45 [.inr (.inr (.inl (some 1))), .inl a, .inl (Int32.ofNat 5), .inl b, .inl (Int32.ofNat 9)] h (fun rv h' => ∃ r : Int32, rv = some (.inl r) ∧ kd_wt kd_ty h' ∧ kd_fr [(16, 25, 0, 6)] h h' ∧ (((0 ≤ a.toInt ∧ a.toInt < L ∧ 0 ≤ b.toInt ∧ b.toInt ≤ 9) ∧ 0 ≤ r.toInt) ∨ (¬ (0 ≤ a.toInt ∧ a.toInt < L ∧ 0 ≤ b.toInt ∧ b.toInt ≤ 9) ∧ r.toInt < 0 ∧ h' = h))) := by
  obtain ⟨hD, hM, hL, eD, eM, eL⟩ := hC
  have tD : (Int32.ofNat D).toInt = D := kx_ti (by omega)
  have tM : (Int32.ofNat M).toInt = M := kx_ti (by omega)
  have tL : (Int32.ofNat L).toInt = L := kx_ti (by omega)
  have alo := kv_lo a
  have ahi := kv_hi a
  have blo := kv_lo b
  have bhi := kv_hi b
  rcases (show (0 ≤ a.toInt ∧ a.toInt < L ∧ 0 ≤ b.toInt ∧ b.toInt ≤ 9) ∨ a.toInt < 0 ∨ 9 < a.toInt ∨ b.toInt < 0 ∨ 9 < b.toInt ∨ (0 ≤ a.toInt ∧ a.toInt ≤ 9 ∧ L ≤ a.toInt) by omega) with k | k | k | k | k | k
  · refine kc_Con_mono (kc_Con_le (kv_yes (kv_hcdrain (x := a.toInt.toNat) hg (by omega) (fun _ => 0) _ h kv_bx0 hw ⟨⟨1, rfl, by decide, by decide⟩, kv_gi (by omega) (by omega), kb_ok (k := 5) (by decide), kv_gi (by omega) (by omega), kb_ok (k := 9) (by decide), trivial⟩ (fun q hq => by
      rcases List.mem_cons.mp hq with rfl | hq
      · show kd_g _ _ _ (h 1 2)
        rw [eL]
        exact kv_gi (by omega) (by omega)
      cases hq))) (by decide)) (fun rv h' hq => ?_)
    obtain ⟨r, rfl, r0, hF, hw2, hfr⟩ := hq
    exact ⟨r, rfl, hw2, hfr, Or.inl ⟨by omega, r0⟩⟩
  · refine kc_Con_mono (kc_Con_le (kv_no (kv_hcdrain0 hg (fun _ => 0) _ h kv_bx0 hw ⟨⟨1, rfl, by decide, by decide⟩, kv_gi (by omega) (by omega), kb_ok (k := 5) (by decide), kv_gi (by omega) (by omega), kb_ok (k := 9) (by decide), trivial⟩ (fun q hq => by cases hq))) (by decide)) (fun rv h' hq => ?_)
    obtain ⟨r, rfl, r0, rfl⟩ := hq
    exact ⟨r, rfl, hw, fun c i _ => rfl, Or.inr ⟨by omega, r0, rfl⟩⟩
  · refine kc_Con_mono (kc_Con_le (kv_no (kv_hcdrain1 hg (fun _ => 0) _ h kv_bx0 hw ⟨⟨1, rfl, by decide, by decide⟩, kv_gi (by omega) (by omega), kb_ok (k := 5) (by decide), kv_gi (by omega) (by omega), kb_ok (k := 9) (by decide), trivial⟩ (fun q hq => by cases hq))) (by decide)) (fun rv h' hq => ?_)
    obtain ⟨r, rfl, r0, rfl⟩ := hq
    exact ⟨r, rfl, hw, fun c i _ => rfl, Or.inr ⟨by omega, r0, rfl⟩⟩
  · refine kc_Con_mono (kc_Con_le (kv_no (kv_hcdrain2 hg (fun _ => 0) _ h kv_bx0 hw ⟨⟨1, rfl, by decide, by decide⟩, kv_gi (by omega) (by omega), kb_ok (k := 5) (by decide), kv_gi (by omega) (by omega), kb_ok (k := 9) (by decide), trivial⟩ (fun q hq => by cases hq))) (by decide)) (fun rv h' hq => ?_)
    obtain ⟨r, rfl, r0, rfl⟩ := hq
    exact ⟨r, rfl, hw, fun c i _ => rfl, Or.inr ⟨by omega, r0, rfl⟩⟩
  · refine kc_Con_mono (kc_Con_le (kv_no (kv_hcdrain3 hg (fun _ => 0) _ h kv_bx0 hw ⟨⟨1, rfl, by decide, by decide⟩, kv_gi (by omega) (by omega), kb_ok (k := 5) (by decide), kv_gi (by omega) (by omega), kb_ok (k := 9) (by decide), trivial⟩ (fun q hq => by cases hq))) (by decide)) (fun rv h' hq => ?_)
    obtain ⟨r, rfl, r0, rfl⟩ := hq
    exact ⟨r, rfl, hw, fun c i _ => rfl, Or.inr ⟨by omega, r0, rfl⟩⟩
  · refine kc_Con_mono (kc_Con_le (kv_no (kv_hcdrainp (x := a.toInt.toNat) hg (by omega) (fun _ => 0) _ h kv_bx0 hw ⟨⟨1, rfl, by decide, by decide⟩, kv_gi (by omega) (by omega), kb_ok (k := 5) (by decide), kv_gi (by omega) (by omega), kb_ok (k := 9) (by decide), trivial⟩ (fun q hq => by
      rcases List.mem_cons.mp hq with rfl | hq
      · show kd_g _ _ _ (h 1 2)
        rw [eL]
        exact kv_gi (by omega) (by omega)
      cases hq))) (by decide)) (fun rv h' hq => ?_)
    obtain ⟨r, rfl, r0, rfl⟩ := hq
    exact ⟨r, rfl, hw, fun c i _ => rfl, Or.inr ⟨by omega, r0, rfl⟩⟩
theorem kv_cstones {g : kc_G} {h : kc_H} {D M L : Nat} {a b : Int32} (hg : kc_ok g) (hw : kd_wt kd_ty h) (hC : kv_C h D M L) : kc_Con g 3 29 [.inr (.inr (.inl (some 1))), .inl a, .inl b] h (fun rv h' => ∃ r : Int32, rv = some (.inl r) ∧ kd_wt kd_ty h' ∧ kd_fr [(10, 10, 0, 5)] h h' ∧ (((0 ≤ a.toInt ∧ a.toInt ≤ D ∧ 0 ≤ b.toInt ∧ b.toInt ≤ 9) ∧ 0 ≤ r.toInt) ∨ (¬ (0 ≤ a.toInt ∧ a.toInt ≤ D ∧ 0 ≤ b.toInt ∧ b.toInt ≤ 9) ∧ r.toInt < 0 ∧ h' = h))) := by
  obtain ⟨hD, hM, hL, eD, eM, eL⟩ := hC
  have tD : (Int32.ofNat D).toInt = D := kx_ti (by omega)
  have tM : (Int32.ofNat M).toInt = M := kx_ti (by omega)
  have tL : (Int32.ofNat L).toInt = L := kx_ti (by omega)
  have alo := kv_lo a
  have ahi := kv_hi a
  have blo := kv_lo b
  have bhi := kv_hi b
  rcases (show (0 ≤ a.toInt ∧ a.toInt ≤ D ∧ 0 ≤ b.toInt ∧ b.toInt ≤ 9) ∨ a.toInt < 0 ∨ 5 < a.toInt ∨ b.toInt < 0 ∨ 9 < b.toInt ∨ (D < a.toInt ∧ a.toInt ≤ 5) by omega) with k | k | k | k | k | k
  · refine kc_Con_mono (kc_Con_le (kv_yes (kv_hcstones (x := a.toInt.toNat) hg (by omega) (fun _ => 0) _ h kv_bx0 hw ⟨⟨1, rfl, by decide, by decide⟩, kv_gi (by omega) (by omega), kv_gi (by omega) (by omega), trivial⟩ (fun q hq => by
      rcases List.mem_cons.mp hq with rfl | hq
      · show kd_g _ _ _ (h 1 0)
        rw [eD]
        exact kv_gi (by omega) (by omega)
      cases hq))) (by decide)) (fun rv h' hq => ?_)
    obtain ⟨r, rfl, r0, hF, hw2, hfr⟩ := hq
    exact ⟨r, rfl, hw2, hfr, Or.inl ⟨by omega, r0⟩⟩
  · refine kc_Con_mono (kc_Con_le (kv_no (kv_hcstones0 hg (fun _ => 0) _ h kv_bx0 hw ⟨⟨1, rfl, by decide, by decide⟩, kv_gi (by omega) (by omega), kv_gi (by omega) (by omega), trivial⟩ (fun q hq => by cases hq))) (by decide)) (fun rv h' hq => ?_)
    obtain ⟨r, rfl, r0, rfl⟩ := hq
    exact ⟨r, rfl, hw, fun c i _ => rfl, Or.inr ⟨by omega, r0, rfl⟩⟩
  · refine kc_Con_mono (kc_Con_le (kv_no (kv_hcstones1 hg (fun _ => 0) _ h kv_bx0 hw ⟨⟨1, rfl, by decide, by decide⟩, kv_gi (by omega) (by omega), kv_gi (by omega) (by omega), trivial⟩ (fun q hq => by cases hq))) (by decide)) (fun rv h' hq => ?_)
    obtain ⟨r, rfl, r0, rfl⟩ := hq
    exact ⟨r, rfl, hw, fun c i _ => rfl, Or.inr ⟨by omega, r0, rfl⟩⟩
  · refine kc_Con_mono (kc_Con_le (kv_no (kv_hcstones2 hg (fun _ => 0) _ h kv_bx0 hw ⟨⟨1, rfl, by decide, by decide⟩, kv_gi (by omega) (by omega), kv_gi (by omega) (by omega), trivial⟩ (fun q hq => by cases hq))) (by decide)) (fun rv h' hq => ?_)
    obtain ⟨r, rfl, r0, rfl⟩ := hq
    exact ⟨r, rfl, hw, fun c i _ => rfl, Or.inr ⟨by omega, r0, rfl⟩⟩
  · refine kc_Con_mono (kc_Con_le (kv_no (kv_hcstones3 hg (fun _ => 0) _ h kv_bx0 hw ⟨⟨1, rfl, by decide, by decide⟩, kv_gi (by omega) (by omega), kv_gi (by omega) (by omega), trivial⟩ (fun q hq => by cases hq))) (by decide)) (fun rv h' hq => ?_)
    obtain ⟨r, rfl, r0, rfl⟩ := hq
    exact ⟨r, rfl, hw, fun c i _ => rfl, Or.inr ⟨by omega, r0, rfl⟩⟩
  · refine kc_Con_mono (kc_Con_le (kv_no (kv_hcstonesp (x := (a.toInt - 1).toNat) hg (by omega) (fun _ => 0) _ h kv_bx0 hw ⟨⟨1, rfl, by decide, by decide⟩, kv_gi (by omega) (by omega), kv_gi (by omega) (by omega), trivial⟩ (fun q hq => by
      rcases List.mem_cons.mp hq with rfl | hq
      · show kd_g _ _ _ (h 1 0)
        rw [eD]
        exact kv_gi (by omega) (by omega)
      cases hq))) (by decide)) (fun rv h' hq => ?_)
    obtain ⟨r, rfl, r0, rfl⟩ := hq
    exact ⟨r, rfl, hw, fun c i _ => rfl, Or.inr ⟨by omega, r0, rfl⟩⟩
theorem kv_tmule {g : kc_G} {h : kc_H} {D M L : Nat} {a b c : Int32} (hg : kc_ok g) (hw : kd_wt kd_ty h) (hC : kv_C h D M L) : kc_Con g 3 32 [.inr (.inr (.inl (some 0))), .inl a, .inl b, .inl c] h (fun rv h' => ∃ r : Int32, rv = some (.inl r) ∧ kd_wt kd_ty h' ∧ kd_fr [(1, 1, 1, 1), (12, 14, 0, 4)] h h' ∧ (((1 ≤ a.toInt ∧ a.toInt ≤ 999 ∧ 0 ≤ b.toInt ∧ b.toInt ≤ 99 ∧ 0 ≤ c.toInt ∧ c.toInt ≤ 99 ∧ M < 3) ∧ 0 ≤ r.toInt ∧ h' 1 1 = .inl (Int32.ofNat (M + 1))) ∨ (¬ (1 ≤ a.toInt ∧ a.toInt ≤ 999 ∧ 0 ≤ b.toInt ∧ b.toInt ≤ 99 ∧ 0 ≤ c.toInt ∧ c.toInt ≤ 99 ∧ M < 3) ∧ r.toInt < 0 ∧ h' = h))) := by
  obtain ⟨hD, hM, hL, eD, eM, eL⟩ := hC
  have tD : (Int32.ofNat D).toInt = D := kx_ti (by omega)
  have tM : (Int32.ofNat M).toInt = M := kx_ti (by omega)
  have tL : (Int32.ofNat L).toInt = L := kx_ti (by omega)
  have alo := kv_lo a
  have ahi := kv_hi a
  have blo := kv_lo b
  have bhi := kv_hi b
  have clo := kv_lo c
  have chi := kv_hi c
  rcases (show (1 ≤ a.toInt ∧ a.toInt ≤ 999 ∧ 0 ≤ b.toInt ∧ b.toInt ≤ 99 ∧ 0 ≤ c.toInt ∧ c.toInt ≤ 99 ∧ M < 3) ∨ (1 ≤ a.toInt ∧ a.toInt ≤ 999 ∧ 0 ≤ b.toInt ∧ b.toInt ≤ 99 ∧ 0 ≤ c.toInt ∧ c.toInt ≤ 99 ∧ M = 3) ∨ a.toInt < 1 ∨ 999 < a.toInt ∨ b.toInt < 0 ∨ 99 < b.toInt ∨ c.toInt < 0 ∨ 99 < c.toInt by omega) with k | k | k | k | k | k | k | k
  · refine kc_Con_mono (kc_Con_le (kv_yes (kv_htmule hg (fun _ => 2147483648 + M) _ h (kv_bx1 (by omega) (by omega)) hw ⟨⟨0, rfl, by decide, by decide⟩, kv_gi (by omega) (by omega), kv_gi (by omega) (by omega), kv_gi (by omega) (by omega), trivial⟩ (fun q hq => by
      rcases List.mem_cons.mp hq with rfl | hq
      · show kd_g _ _ _ (h 1 1)
        rw [eM]
        exact kv_gv (by omega)
      cases hq))) (by decide)) (fun rv h' hq => ?_)
    obtain ⟨r, rfl, r0, hF, hw2, hfr⟩ := hq
    have e1 := kv_po (by omega) (hF (1, 1, _) List.mem_cons_self)
    exact ⟨r, rfl, hw2, hfr, Or.inl ⟨by omega, r0, e1⟩⟩
  · refine kc_Con_mono (kc_Con_le (kv_no (kv_htmulef hg (fun _ => 0) _ h kv_bx0 hw ⟨⟨0, rfl, by decide, by decide⟩, kv_gi (by omega) (by omega), kv_gi (by omega) (by omega), kv_gi (by omega) (by omega), trivial⟩ (fun q hq => by
      rcases List.mem_cons.mp hq with rfl | hq
      · show kd_g _ _ _ (h 1 1)
        rw [eM]
        exact kv_gi (by omega) (by omega)
      cases hq))) (by decide)) (fun rv h' hq => ?_)
    obtain ⟨r, rfl, r0, rfl⟩ := hq
    exact ⟨r, rfl, hw, fun c i _ => rfl, Or.inr ⟨by omega, r0, rfl⟩⟩
  · refine kc_Con_mono (kc_Con_le (kv_no (kv_htmule0 hg (fun _ => 0) _ h kv_bx0 hw ⟨⟨0, rfl, by decide, by decide⟩, kv_gi (by omega) (by omega), kv_gi (by omega) (by omega), kv_gi (by omega) (by omega), trivial⟩ (fun q hq => by cases hq))) (by decide)) (fun rv h' hq => ?_)
    obtain ⟨r, rfl, r0, rfl⟩ := hq
    exact ⟨r, rfl, hw, fun c i _ => rfl, Or.inr ⟨by omega, r0, rfl⟩⟩
  · refine kc_Con_mono (kc_Con_le (kv_no (kv_htmule1 hg (fun _ => 0) _ h kv_bx0 hw ⟨⟨0, rfl, by decide, by decide⟩, kv_gi (by omega) (by omega), kv_gi (by omega) (by omega), kv_gi (by omega) (by omega), trivial⟩ (fun q hq => by cases hq))) (by decide)) (fun rv h' hq => ?_)
    obtain ⟨r, rfl, r0, rfl⟩ := hq
    exact ⟨r, rfl, hw, fun c i _ => rfl, Or.inr ⟨by omega, r0, rfl⟩⟩
  · refine kc_Con_mono (kc_Con_le (kv_no (kv_htmule2 hg (fun _ => 0) _ h kv_bx0 hw ⟨⟨0, rfl, by decide, by decide⟩, kv_gi (by omega) (by omega), kv_gi (by omega) (by omega), kv_gi (by omega) (by omega), trivial⟩ (fun q hq => by cases hq))) (by decide)) (fun rv h' hq => ?_)
    obtain ⟨r, rfl, r0, rfl⟩ := hq
    exact ⟨r, rfl, hw, fun c i _ => rfl, Or.inr ⟨by omega, r0, rfl⟩⟩
  · refine kc_Con_mono (kc_Con_le (kv_no (kv_htmule3 hg (fun _ => 0) _ h kv_bx0 hw ⟨⟨0, rfl, by decide, by decide⟩, kv_gi (by omega) (by omega), kv_gi (by omega) (by omega), kv_gi (by omega) (by omega), trivial⟩ (fun q hq => by cases hq))) (by decide)) (fun rv h' hq => ?_)
    obtain ⟨r, rfl, r0, rfl⟩ := hq
    exact ⟨r, rfl, hw, fun c i _ => rfl, Or.inr ⟨by omega, r0, rfl⟩⟩
  · refine kc_Con_mono (kc_Con_le (kv_no (kv_htmule4 hg (fun _ => 0) _ h kv_bx0 hw ⟨⟨0, rfl, by decide, by decide⟩, kv_gi (by omega) (by omega), kv_gi (by omega) (by omega), kv_gi (by omega) (by omega), trivial⟩ (fun q hq => by cases hq))) (by decide)) (fun rv h' hq => ?_)
    obtain ⟨r, rfl, r0, rfl⟩ := hq
    exact ⟨r, rfl, hw, fun c i _ => rfl, Or.inr ⟨by omega, r0, rfl⟩⟩
  · refine kc_Con_mono (kc_Con_le (kv_no (kv_htmule5 hg (fun _ => 0) _ h kv_bx0 hw ⟨⟨0, rfl, by decide, by decide⟩, kv_gi (by omega) (by omega), kv_gi (by omega) (by omega), kv_gi (by omega) (by omega), trivial⟩ (fun q hq => by cases hq))) (by decide)) (fun rv h' hq => ?_)
    obtain ⟨r, rfl, r0, rfl⟩ := hq
    exact ⟨r, rfl, hw, fun c i _ => rfl, Or.inr ⟨by omega, r0, rfl⟩⟩
theorem kv_tload {g : kc_G} {h : kc_H} {D M L : Nat} {a b c e : Int32} (hg : kc_ok g) (hw : kd_wt kd_ty h) (hC : kv_C h D M L) : kc_Con g 4 41 [.inr (.inr (.inl (some 0))), .inl a, .inl b, .inl c, .inl e] h (fun rv h' => ∃ r : Int32, rv = some (.inl r) ∧ kd_wt kd_ty h' ∧ kd_fr [(1, 1, 2, 2), (16, 25, 0, 6)] h h' ∧ (((1 ≤ a.toInt ∧ a.toInt ≤ 99 ∧ 0 ≤ b.toInt ∧ b.toInt ≤ 1 ∧ 0 ≤ c.toInt ∧ c.toInt ≤ D ∧ 0 ≤ e.toInt ∧ e.toInt ≤ D ∧ ¬ c.toInt = e.toInt ∧ L < 10) ∧ 0 ≤ r.toInt ∧ h' 1 2 = .inl (Int32.ofNat (L + 1))) ∨ (¬ (1 ≤ a.toInt ∧ a.toInt ≤ 99 ∧ 0 ≤ b.toInt ∧ b.toInt ≤ 1 ∧ 0 ≤ c.toInt ∧ c.toInt ≤ D ∧ 0 ≤ e.toInt ∧ e.toInt ≤ D ∧ ¬ c.toInt = e.toInt ∧ L < 10) ∧ r.toInt < 0 ∧ h' = h))) := by
  obtain ⟨hD, hM, hL, eD, eM, eL⟩ := hC
  have tD : (Int32.ofNat D).toInt = D := kx_ti (by omega)
  have tM : (Int32.ofNat M).toInt = M := kx_ti (by omega)
  have tL : (Int32.ofNat L).toInt = L := kx_ti (by omega)
  have alo := kv_lo a
  have ahi := kv_hi a
  have blo := kv_lo b
  have bhi := kv_hi b
  have clo := kv_lo c
  have chi := kv_hi c
  have elo := kv_lo e
  have ehi := kv_hi e
  rcases (show (1 ≤ a.toInt ∧ a.toInt ≤ 99 ∧ 0 ≤ b.toInt ∧ b.toInt ≤ 1 ∧ 0 ≤ c.toInt ∧ c.toInt ≤ D ∧ 0 ≤ e.toInt ∧ e.toInt ≤ D ∧ e.toInt < c.toInt ∧ L < 10) ∨ (1 ≤ a.toInt ∧ a.toInt ≤ 99 ∧ 0 ≤ b.toInt ∧ b.toInt ≤ 1 ∧ 0 ≤ c.toInt ∧ c.toInt ≤ D ∧ 0 ≤ e.toInt ∧ e.toInt ≤ D ∧ e.toInt < c.toInt ∧ L = 10) ∨ (1 ≤ a.toInt ∧ a.toInt ≤ 99 ∧ 0 ≤ b.toInt ∧ b.toInt ≤ 1 ∧ 0 ≤ c.toInt ∧ c.toInt ≤ D ∧ 0 ≤ e.toInt ∧ e.toInt ≤ D ∧ c.toInt < e.toInt ∧ L < 10) ∨ (1 ≤ a.toInt ∧ a.toInt ≤ 99 ∧ 0 ≤ b.toInt ∧ b.toInt ≤ 1 ∧ 0 ≤ c.toInt ∧ c.toInt ≤ D ∧ 0 ≤ e.toInt ∧ e.toInt ≤ D ∧ c.toInt < e.toInt ∧ L = 10) ∨ a.toInt < 1 ∨ 99 < a.toInt ∨ b.toInt < 0 ∨ 1 < b.toInt ∨ c.toInt < 0 ∨ 5 < c.toInt ∨ e.toInt < 0 ∨ 5 < e.toInt ∨ (D < c.toInt ∧ c.toInt ≤ 5) ∨ (D < e.toInt ∧ e.toInt ≤ 5) ∨ (0 ≤ c.toInt ∧ c.toInt ≤ 5 ∧ c.toInt = e.toInt) by omega) with k | k | k | k | k | k | k | k | k | k | k | k | k | k | k
  · refine kc_Con_mono (kc_Con_le (kv_yes (kv_htloadA (x := (c.toInt - 1).toNat) hg (by omega) (fun _ => 2147483648 + L) _ h (kv_bx1 (by omega) (by omega)) hw ⟨⟨0, rfl, by decide, by decide⟩, kv_gi (by omega) (by omega), kv_gi (by omega) (by omega), kv_gi (by omega) (by omega), kv_gi (by omega) (by omega), trivial⟩ (fun q hq => by
      rcases List.mem_cons.mp hq with rfl | hq
      · show kd_g _ _ _ (h 1 0)
        rw [eD]
        exact kv_gi (by omega) (by omega)
      rcases List.mem_cons.mp hq with rfl | hq
      · show kd_g _ _ _ (h 1 2)
        rw [eL]
        exact kv_gv (by omega)
      cases hq))) (by decide)) (fun rv h' hq => ?_)
    obtain ⟨r, rfl, r0, hF, hw2, hfr⟩ := hq
    have e1 := kv_po (by omega) (hF (1, 2, _) List.mem_cons_self)
    exact ⟨r, rfl, hw2, hfr, Or.inl ⟨by omega, r0, e1⟩⟩
  · refine kc_Con_mono (kc_Con_le (kv_no (kv_htloadfA (x := (c.toInt - 1).toNat) hg (by omega) (fun _ => 0) _ h kv_bx0 hw ⟨⟨0, rfl, by decide, by decide⟩, kv_gi (by omega) (by omega), kv_gi (by omega) (by omega), kv_gi (by omega) (by omega), kv_gi (by omega) (by omega), trivial⟩ (fun q hq => by
      rcases List.mem_cons.mp hq with rfl | hq
      · show kd_g _ _ _ (h 1 0)
        rw [eD]
        exact kv_gi (by omega) (by omega)
      rcases List.mem_cons.mp hq with rfl | hq
      · show kd_g _ _ _ (h 1 2)
        rw [eL]
        exact kv_gi (by omega) (by omega)
      cases hq))) (by decide)) (fun rv h' hq => ?_)
    obtain ⟨r, rfl, r0, rfl⟩ := hq
    exact ⟨r, rfl, hw, fun c i _ => rfl, Or.inr ⟨by omega, r0, rfl⟩⟩
  · refine kc_Con_mono (kc_Con_le (kv_yes (kv_htloadB (x := (e.toInt - 1).toNat) hg (by omega) (fun _ => 2147483648 + L) _ h (kv_bx1 (by omega) (by omega)) hw ⟨⟨0, rfl, by decide, by decide⟩, kv_gi (by omega) (by omega), kv_gi (by omega) (by omega), kv_gi (by omega) (by omega), kv_gi (by omega) (by omega), trivial⟩ (fun q hq => by
      rcases List.mem_cons.mp hq with rfl | hq
      · show kd_g _ _ _ (h 1 0)
        rw [eD]
        exact kv_gi (by omega) (by omega)
      rcases List.mem_cons.mp hq with rfl | hq
      · show kd_g _ _ _ (h 1 2)
        rw [eL]
        exact kv_gv (by omega)
      cases hq))) (by decide)) (fun rv h' hq => ?_)
    obtain ⟨r, rfl, r0, hF, hw2, hfr⟩ := hq
    have e1 := kv_po (by omega) (hF (1, 2, _) List.mem_cons_self)
    exact ⟨r, rfl, hw2, hfr, Or.inl ⟨by omega, r0, e1⟩⟩
  · refine kc_Con_mono (kc_Con_le (kv_no (kv_htloadfB (x := (e.toInt - 1).toNat) hg (by omega) (fun _ => 0) _ h kv_bx0 hw ⟨⟨0, rfl, by decide, by decide⟩, kv_gi (by omega) (by omega), kv_gi (by omega) (by omega), kv_gi (by omega) (by omega), kv_gi (by omega) (by omega), trivial⟩ (fun q hq => by
      rcases List.mem_cons.mp hq with rfl | hq
      · show kd_g _ _ _ (h 1 0)
        rw [eD]
        exact kv_gi (by omega) (by omega)
      rcases List.mem_cons.mp hq with rfl | hq
      · show kd_g _ _ _ (h 1 2)
        rw [eL]
        exact kv_gi (by omega) (by omega)
      cases hq))) (by decide)) (fun rv h' hq => ?_)
    obtain ⟨r, rfl, r0, rfl⟩ := hq
    exact ⟨r, rfl, hw, fun c i _ => rfl, Or.inr ⟨by omega, r0, rfl⟩⟩
  · refine kc_Con_mono (kc_Con_le (kv_no (kv_htload0 hg (fun _ => 0) _ h kv_bx0 hw ⟨⟨0, rfl, by decide, by decide⟩, kv_gi (by omega) (by omega), kv_gi (by omega) (by omega), kv_gi (by omega) (by omega), kv_gi (by omega) (by omega), trivial⟩ (fun q hq => by cases hq))) (by decide)) (fun rv h' hq => ?_)
    obtain ⟨r, rfl, r0, rfl⟩ := hq
    exact ⟨r, rfl, hw, fun c i _ => rfl, Or.inr ⟨by omega, r0, rfl⟩⟩
  · refine kc_Con_mono (kc_Con_le (kv_no (kv_htload1 hg (fun _ => 0) _ h kv_bx0 hw ⟨⟨0, rfl, by decide, by decide⟩, kv_gi (by omega) (by omega), kv_gi (by omega) (by omega), kv_gi (by omega) (by omega), kv_gi (by omega) (by omega), trivial⟩ (fun q hq => by cases hq))) (by decide)) (fun rv h' hq => ?_)
    obtain ⟨r, rfl, r0, rfl⟩ := hq
    exact ⟨r, rfl, hw, fun c i _ => rfl, Or.inr ⟨by omega, r0, rfl⟩⟩
  · refine kc_Con_mono (kc_Con_le (kv_no (kv_htload2 hg (fun _ => 0) _ h kv_bx0 hw ⟨⟨0, rfl, by decide, by decide⟩, kv_gi (by omega) (by omega), kv_gi (by omega) (by omega), kv_gi (by omega) (by omega), kv_gi (by omega) (by omega), trivial⟩ (fun q hq => by cases hq))) (by decide)) (fun rv h' hq => ?_)
    obtain ⟨r, rfl, r0, rfl⟩ := hq
    exact ⟨r, rfl, hw, fun c i _ => rfl, Or.inr ⟨by omega, r0, rfl⟩⟩
  · refine kc_Con_mono (kc_Con_le (kv_no (kv_htload3 hg (fun _ => 0) _ h kv_bx0 hw ⟨⟨0, rfl, by decide, by decide⟩, kv_gi (by omega) (by omega), kv_gi (by omega) (by omega), kv_gi (by omega) (by omega), kv_gi (by omega) (by omega), trivial⟩ (fun q hq => by cases hq))) (by decide)) (fun rv h' hq => ?_)
    obtain ⟨r, rfl, r0, rfl⟩ := hq
    exact ⟨r, rfl, hw, fun c i _ => rfl, Or.inr ⟨by omega, r0, rfl⟩⟩
  · refine kc_Con_mono (kc_Con_le (kv_no (kv_htload4 hg (fun _ => 0) _ h kv_bx0 hw ⟨⟨0, rfl, by decide, by decide⟩, kv_gi (by omega) (by omega), kv_gi (by omega) (by omega), kv_gi (by omega) (by omega), kv_gi (by omega) (by omega), trivial⟩ (fun q hq => by cases hq))) (by decide)) (fun rv h' hq => ?_)
    obtain ⟨r, rfl, r0, rfl⟩ := hq
    exact ⟨r, rfl, hw, fun c i _ => rfl, Or.inr ⟨by omega, r0, rfl⟩⟩
  · refine kc_Con_mono (kc_Con_le (kv_no (kv_htload5 hg (fun _ => 0) _ h kv_bx0 hw ⟨⟨0, rfl, by decide, by decide⟩, kv_gi (by omega) (by omega), kv_gi (by omega) (by omega), kv_gi (by omega) (by omega), kv_gi (by omega) (by omega), trivial⟩ (fun q hq => by cases hq))) (by decide)) (fun rv h' hq => ?_)
    obtain ⟨r, rfl, r0, rfl⟩ := hq
    exact ⟨r, rfl, hw, fun c i _ => rfl, Or.inr ⟨by omega, r0, rfl⟩⟩
  · refine kc_Con_mono (kc_Con_le (kv_no (kv_htload6 hg (fun _ => 0) _ h kv_bx0 hw ⟨⟨0, rfl, by decide, by decide⟩, kv_gi (by omega) (by omega), kv_gi (by omega) (by omega), kv_gi (by omega) (by omega), kv_gi (by omega) (by omega), trivial⟩ (fun q hq => by cases hq))) (by decide)) (fun rv h' hq => ?_)
    obtain ⟨r, rfl, r0, rfl⟩ := hq
    exact ⟨r, rfl, hw, fun c i _ => rfl, Or.inr ⟨by omega, r0, rfl⟩⟩
  · refine kc_Con_mono (kc_Con_le (kv_no (kv_htload7 hg (fun _ => 0) _ h kv_bx0 hw ⟨⟨0, rfl, by decide, by decide⟩, kv_gi (by omega) (by omega), kv_gi (by omega) (by omega), kv_gi (by omega) (by omega), kv_gi (by omega) (by omega), trivial⟩ (fun q hq => by cases hq))) (by decide)) (fun rv h' hq => ?_)
    obtain ⟨r, rfl, r0, rfl⟩ := hq
    exact ⟨r, rfl, hw, fun c i _ => rfl, Or.inr ⟨by omega, r0, rfl⟩⟩
  · refine kc_Con_mono (kc_Con_le (kv_no (kv_htloadp (x := (c.toInt - 1).toNat) hg (by omega) (fun _ => 0) _ h kv_bx0 hw ⟨⟨0, rfl, by decide, by decide⟩, kv_gi (by omega) (by omega), kv_gi (by omega) (by omega), kv_gi (by omega) (by omega), kv_gi (by omega) (by omega), trivial⟩ (fun q hq => by
      rcases List.mem_cons.mp hq with rfl | hq
      · show kd_g _ _ _ (h 1 0)
        rw [eD]
        exact kv_gi (by omega) (by omega)
      cases hq))) (by decide)) (fun rv h' hq => ?_)
    obtain ⟨r, rfl, r0, rfl⟩ := hq
    exact ⟨r, rfl, hw, fun c i _ => rfl, Or.inr ⟨by omega, r0, rfl⟩⟩
  · refine kc_Con_mono (kc_Con_le (kv_no (kv_htloadq (x := (e.toInt - 1).toNat) hg (by omega) (fun _ => 0) _ h kv_bx0 hw ⟨⟨0, rfl, by decide, by decide⟩, kv_gi (by omega) (by omega), kv_gi (by omega) (by omega), kv_gi (by omega) (by omega), kv_gi (by omega) (by omega), trivial⟩ (fun q hq => by
      rcases List.mem_cons.mp hq with rfl | hq
      · show kd_g _ _ _ (h 1 0)
        rw [eD]
        exact kv_gi (by omega) (by omega)
      cases hq))) (by decide)) (fun rv h' hq => ?_)
    obtain ⟨r, rfl, r0, rfl⟩ := hq
    exact ⟨r, rfl, hw, fun c i _ => rfl, Or.inr ⟨by omega, r0, rfl⟩⟩
  · refine kc_Con_mono (kc_Con_le (kv_no (kv_htloade (x := c.toInt.toNat) hg (by omega) (fun _ => 0) _ h kv_bx0 hw ⟨⟨0, rfl, by decide, by decide⟩, kv_gi (by omega) (by omega), kv_gi (by omega) (by omega), kv_gi (by omega) (by omega), kv_gi (by omega) (by omega), trivial⟩ (fun q hq => by cases hq))) (by decide)) (fun rv h' hq => ?_)
    obtain ⟨r, rfl, r0, rfl⟩ := hq
    exact ⟨r, rfl, hw, fun c i _ => rfl, Or.inr ⟨by omega, r0, rfl⟩⟩
theorem kv_rmule {g : kc_G} {h : kc_H} {D M L : Nat} {a b c : Int32} (hg : kc_ok g) (hw : kd_wt kd_ty h) (hC : kv_R h D M L) : kc_Con g 2 34 [.inr (.inr (.inl (some 259))), .inl a, .inl b, .inl c] h (fun rv h' => ∃ r : Int32, rv = some (.inl r) ∧ kd_wt kd_ty h' ∧ kd_fr [(260, 260, 1, 1), (260, 260, 60, 74)] h h' ∧ (((1 ≤ a.toInt ∧ a.toInt ≤ 999 ∧ 0 ≤ b.toInt ∧ b.toInt ≤ 99 ∧ 0 ≤ c.toInt ∧ c.toInt ≤ 99 ∧ M < 3) ∧ 0 ≤ r.toInt ∧ h' 260 1 = .inl (Int32.ofNat (M + 1))) ∨ (¬ (1 ≤ a.toInt ∧ a.toInt ≤ 999 ∧ 0 ≤ b.toInt ∧ b.toInt ≤ 99 ∧ 0 ≤ c.toInt ∧ c.toInt ≤ 99 ∧ M < 3) ∧ r.toInt < 0 ∧ h' = h))) := by
  obtain ⟨hD, hM, hL, eD, eM, eL⟩ := hC
  have tD : (Int32.ofNat D).toInt = D := kx_ti (by omega)
  have tM : (Int32.ofNat M).toInt = M := kx_ti (by omega)
  have tL : (Int32.ofNat L).toInt = L := kx_ti (by omega)
  have alo := kv_lo a
  have ahi := kv_hi a
  have blo := kv_lo b
  have bhi := kv_hi b
  have clo := kv_lo c
  have chi := kv_hi c
  rcases (show (1 ≤ a.toInt ∧ a.toInt ≤ 999 ∧ 0 ≤ b.toInt ∧ b.toInt ≤ 99 ∧ 0 ≤ c.toInt ∧ c.toInt ≤ 99 ∧ M < 3) ∨ (1 ≤ a.toInt ∧ a.toInt ≤ 999 ∧ 0 ≤ b.toInt ∧ b.toInt ≤ 99 ∧ 0 ≤ c.toInt ∧ c.toInt ≤ 99 ∧ M = 3) ∨ a.toInt < 1 ∨ 999 < a.toInt ∨ b.toInt < 0 ∨ 99 < b.toInt ∨ c.toInt < 0 ∨ 99 < c.toInt by omega) with k | k | k | k | k | k | k | k
  · refine kc_Con_mono (kc_Con_le (kv_yes (kv_hrmule hg (fun _ => 2147483648 + M) _ h (kv_bx1 (by omega) (by omega)) hw ⟨⟨259, rfl, by decide, by decide⟩, kv_gi (by omega) (by omega), kv_gi (by omega) (by omega), kv_gi (by omega) (by omega), trivial⟩ (fun q hq => by
      rcases List.mem_cons.mp hq with rfl | hq
      · show kd_g _ _ _ (h 260 1)
        rw [eM]
        exact kv_gv (by omega)
      cases hq))) (by decide)) (fun rv h' hq => ?_)
    obtain ⟨r, rfl, r0, hF, hw2, hfr⟩ := hq
    have e1 := kv_po (by omega) (hF (260, 1, _) List.mem_cons_self)
    exact ⟨r, rfl, hw2, hfr, Or.inl ⟨by omega, r0, e1⟩⟩
  · refine kc_Con_mono (kc_Con_le (kv_no (kv_hrmulef hg (fun _ => 0) _ h kv_bx0 hw ⟨⟨259, rfl, by decide, by decide⟩, kv_gi (by omega) (by omega), kv_gi (by omega) (by omega), kv_gi (by omega) (by omega), trivial⟩ (fun q hq => by
      rcases List.mem_cons.mp hq with rfl | hq
      · show kd_g _ _ _ (h 260 1)
        rw [eM]
        exact kv_gi (by omega) (by omega)
      cases hq))) (by decide)) (fun rv h' hq => ?_)
    obtain ⟨r, rfl, r0, rfl⟩ := hq
    exact ⟨r, rfl, hw, fun c i _ => rfl, Or.inr ⟨by omega, r0, rfl⟩⟩
  · refine kc_Con_mono (kc_Con_le (kv_no (kv_hrmule0 hg (fun _ => 0) _ h kv_bx0 hw ⟨⟨259, rfl, by decide, by decide⟩, kv_gi (by omega) (by omega), kv_gi (by omega) (by omega), kv_gi (by omega) (by omega), trivial⟩ (fun q hq => by cases hq))) (by decide)) (fun rv h' hq => ?_)
    obtain ⟨r, rfl, r0, rfl⟩ := hq
    exact ⟨r, rfl, hw, fun c i _ => rfl, Or.inr ⟨by omega, r0, rfl⟩⟩
  · refine kc_Con_mono (kc_Con_le (kv_no (kv_hrmule1 hg (fun _ => 0) _ h kv_bx0 hw ⟨⟨259, rfl, by decide, by decide⟩, kv_gi (by omega) (by omega), kv_gi (by omega) (by omega), kv_gi (by omega) (by omega), trivial⟩ (fun q hq => by cases hq))) (by decide)) (fun rv h' hq => ?_)
    obtain ⟨r, rfl, r0, rfl⟩ := hq
    exact ⟨r, rfl, hw, fun c i _ => rfl, Or.inr ⟨by omega, r0, rfl⟩⟩
  · refine kc_Con_mono (kc_Con_le (kv_no (kv_hrmule2 hg (fun _ => 0) _ h kv_bx0 hw ⟨⟨259, rfl, by decide, by decide⟩, kv_gi (by omega) (by omega), kv_gi (by omega) (by omega), kv_gi (by omega) (by omega), trivial⟩ (fun q hq => by cases hq))) (by decide)) (fun rv h' hq => ?_)
    obtain ⟨r, rfl, r0, rfl⟩ := hq
    exact ⟨r, rfl, hw, fun c i _ => rfl, Or.inr ⟨by omega, r0, rfl⟩⟩
  · refine kc_Con_mono (kc_Con_le (kv_no (kv_hrmule3 hg (fun _ => 0) _ h kv_bx0 hw ⟨⟨259, rfl, by decide, by decide⟩, kv_gi (by omega) (by omega), kv_gi (by omega) (by omega), kv_gi (by omega) (by omega), trivial⟩ (fun q hq => by cases hq))) (by decide)) (fun rv h' hq => ?_)
    obtain ⟨r, rfl, r0, rfl⟩ := hq
    exact ⟨r, rfl, hw, fun c i _ => rfl, Or.inr ⟨by omega, r0, rfl⟩⟩
  · refine kc_Con_mono (kc_Con_le (kv_no (kv_hrmule4 hg (fun _ => 0) _ h kv_bx0 hw ⟨⟨259, rfl, by decide, by decide⟩, kv_gi (by omega) (by omega), kv_gi (by omega) (by omega), kv_gi (by omega) (by omega), trivial⟩ (fun q hq => by cases hq))) (by decide)) (fun rv h' hq => ?_)
    obtain ⟨r, rfl, r0, rfl⟩ := hq
    exact ⟨r, rfl, hw, fun c i _ => rfl, Or.inr ⟨by omega, r0, rfl⟩⟩
  · refine kc_Con_mono (kc_Con_le (kv_no (kv_hrmule5 hg (fun _ => 0) _ h kv_bx0 hw ⟨⟨259, rfl, by decide, by decide⟩, kv_gi (by omega) (by omega), kv_gi (by omega) (by omega), kv_gi (by omega) (by omega), trivial⟩ (fun q hq => by cases hq))) (by decide)) (fun rv h' hq => ?_)
    obtain ⟨r, rfl, r0, rfl⟩ := hq
    exact ⟨r, rfl, hw, fun c i _ => rfl, Or.inr ⟨by omega, r0, rfl⟩⟩
theorem kv_rload {g : kc_G} {h : kc_H} {D M L : Nat} {a b c e : Int32} (hg : kc_ok g) (hw : kd_wt kd_ty h) (hC : kv_R h D M L) : kc_Con g 3 43 [.inr (.inr (.inl (some 259))), .inl a, .inl b, .inl c, .inl e] h (fun rv h' => ∃ r : Int32, rv = some (.inl r) ∧ kd_wt kd_ty h' ∧ kd_fr [(260, 260, 2, 2), (260, 260, 80, 149)] h h' ∧ (((1 ≤ a.toInt ∧ a.toInt ≤ 99 ∧ 0 ≤ b.toInt ∧ b.toInt ≤ 1 ∧ 0 ≤ c.toInt ∧ c.toInt ≤ D ∧ 0 ≤ e.toInt ∧ e.toInt ≤ D ∧ ¬ c.toInt = e.toInt ∧ L < 10) ∧ 0 ≤ r.toInt ∧ h' 260 2 = .inl (Int32.ofNat (L + 1))) ∨ (¬ (1 ≤ a.toInt ∧ a.toInt ≤ 99 ∧ 0 ≤ b.toInt ∧ b.toInt ≤ 1 ∧ 0 ≤ c.toInt ∧ c.toInt ≤ D ∧ 0 ≤ e.toInt ∧ e.toInt ≤ D ∧ ¬ c.toInt = e.toInt ∧ L < 10) ∧ r.toInt < 0 ∧ h' = h))) := by
  obtain ⟨hD, hM, hL, eD, eM, eL⟩ := hC
  have tD : (Int32.ofNat D).toInt = D := kx_ti (by omega)
  have tM : (Int32.ofNat M).toInt = M := kx_ti (by omega)
  have tL : (Int32.ofNat L).toInt = L := kx_ti (by omega)
  have alo := kv_lo a
  have ahi := kv_hi a
  have blo := kv_lo b
  have bhi := kv_hi b
  have clo := kv_lo c
  have chi := kv_hi c
  have elo := kv_lo e
  have ehi := kv_hi e
  rcases (show (1 ≤ a.toInt ∧ a.toInt ≤ 99 ∧ 0 ≤ b.toInt ∧ b.toInt ≤ 1 ∧ 0 ≤ c.toInt ∧ c.toInt ≤ D ∧ 0 ≤ e.toInt ∧ e.toInt ≤ D ∧ e.toInt < c.toInt ∧ L < 10) ∨ (1 ≤ a.toInt ∧ a.toInt ≤ 99 ∧ 0 ≤ b.toInt ∧ b.toInt ≤ 1 ∧ 0 ≤ c.toInt ∧ c.toInt ≤ D ∧ 0 ≤ e.toInt ∧ e.toInt ≤ D ∧ e.toInt < c.toInt ∧ L = 10) ∨ (1 ≤ a.toInt ∧ a.toInt ≤ 99 ∧ 0 ≤ b.toInt ∧ b.toInt ≤ 1 ∧ 0 ≤ c.toInt ∧ c.toInt ≤ D ∧ 0 ≤ e.toInt ∧ e.toInt ≤ D ∧ c.toInt < e.toInt ∧ L < 10) ∨ (1 ≤ a.toInt ∧ a.toInt ≤ 99 ∧ 0 ≤ b.toInt ∧ b.toInt ≤ 1 ∧ 0 ≤ c.toInt ∧ c.toInt ≤ D ∧ 0 ≤ e.toInt ∧ e.toInt ≤ D ∧ c.toInt < e.toInt ∧ L = 10) ∨ a.toInt < 1 ∨ 99 < a.toInt ∨ b.toInt < 0 ∨ 1 < b.toInt ∨ c.toInt < 0 ∨ 5 < c.toInt ∨ e.toInt < 0 ∨ 5 < e.toInt ∨ (D < c.toInt ∧ c.toInt ≤ 5) ∨ (D < e.toInt ∧ e.toInt ≤ 5) ∨ (0 ≤ c.toInt ∧ c.toInt ≤ 5 ∧ c.toInt = e.toInt) by omega) with k | k | k | k | k | k | k | k | k | k | k | k | k | k | k
  · refine kc_Con_mono (kc_Con_le (kv_yes (kv_hrloadA (x := (c.toInt - 1).toNat) hg (by omega) (fun _ => 2147483648 + L) _ h (kv_bx1 (by omega) (by omega)) hw ⟨⟨259, rfl, by decide, by decide⟩, kv_gi (by omega) (by omega), kv_gi (by omega) (by omega), kv_gi (by omega) (by omega), kv_gi (by omega) (by omega), trivial⟩ (fun q hq => by
      rcases List.mem_cons.mp hq with rfl | hq
      · show kd_g _ _ _ (h 260 0)
        rw [eD]
        exact kv_gi (by omega) (by omega)
      rcases List.mem_cons.mp hq with rfl | hq
      · show kd_g _ _ _ (h 260 2)
        rw [eL]
        exact kv_gv (by omega)
      cases hq))) (by decide)) (fun rv h' hq => ?_)
    obtain ⟨r, rfl, r0, hF, hw2, hfr⟩ := hq
    have e1 := kv_po (by omega) (hF (260, 2, _) List.mem_cons_self)
    exact ⟨r, rfl, hw2, hfr, Or.inl ⟨by omega, r0, e1⟩⟩
  · refine kc_Con_mono (kc_Con_le (kv_no (kv_hrloadfA (x := (c.toInt - 1).toNat) hg (by omega) (fun _ => 0) _ h kv_bx0 hw ⟨⟨259, rfl, by decide, by decide⟩, kv_gi (by omega) (by omega), kv_gi (by omega) (by omega), kv_gi (by omega) (by omega), kv_gi (by omega) (by omega), trivial⟩ (fun q hq => by
      rcases List.mem_cons.mp hq with rfl | hq
      · show kd_g _ _ _ (h 260 0)
        rw [eD]
        exact kv_gi (by omega) (by omega)
      rcases List.mem_cons.mp hq with rfl | hq
      · show kd_g _ _ _ (h 260 2)
        rw [eL]
        exact kv_gi (by omega) (by omega)
      cases hq))) (by decide)) (fun rv h' hq => ?_)
    obtain ⟨r, rfl, r0, rfl⟩ := hq
    exact ⟨r, rfl, hw, fun c i _ => rfl, Or.inr ⟨by omega, r0, rfl⟩⟩
  · refine kc_Con_mono (kc_Con_le (kv_yes (kv_hrloadB (x := (e.toInt - 1).toNat) hg (by omega) (fun _ => 2147483648 + L) _ h (kv_bx1 (by omega) (by omega)) hw ⟨⟨259, rfl, by decide, by decide⟩, kv_gi (by omega) (by omega), kv_gi (by omega) (by omega), kv_gi (by omega) (by omega), kv_gi (by omega) (by omega), trivial⟩ (fun q hq => by
      rcases List.mem_cons.mp hq with rfl | hq
      · show kd_g _ _ _ (h 260 0)
        rw [eD]
        exact kv_gi (by omega) (by omega)
      rcases List.mem_cons.mp hq with rfl | hq
      · show kd_g _ _ _ (h 260 2)
        rw [eL]
        exact kv_gv (by omega)
      cases hq))) (by decide)) (fun rv h' hq => ?_)
    obtain ⟨r, rfl, r0, hF, hw2, hfr⟩ := hq
    have e1 := kv_po (by omega) (hF (260, 2, _) List.mem_cons_self)
    exact ⟨r, rfl, hw2, hfr, Or.inl ⟨by omega, r0, e1⟩⟩
  · refine kc_Con_mono (kc_Con_le (kv_no (kv_hrloadfB (x := (e.toInt - 1).toNat) hg (by omega) (fun _ => 0) _ h kv_bx0 hw ⟨⟨259, rfl, by decide, by decide⟩, kv_gi (by omega) (by omega), kv_gi (by omega) (by omega), kv_gi (by omega) (by omega), kv_gi (by omega) (by omega), trivial⟩ (fun q hq => by
      rcases List.mem_cons.mp hq with rfl | hq
      · show kd_g _ _ _ (h 260 0)
        rw [eD]
        exact kv_gi (by omega) (by omega)
      rcases List.mem_cons.mp hq with rfl | hq
      · show kd_g _ _ _ (h 260 2)
        rw [eL]
        exact kv_gi (by omega) (by omega)
      cases hq))) (by decide)) (fun rv h' hq => ?_)
    obtain ⟨r, rfl, r0, rfl⟩ := hq
    exact ⟨r, rfl, hw, fun c i _ => rfl, Or.inr ⟨by omega, r0, rfl⟩⟩
  · refine kc_Con_mono (kc_Con_le (kv_no (kv_hrload0 hg (fun _ => 0) _ h kv_bx0 hw ⟨⟨259, rfl, by decide, by decide⟩, kv_gi (by omega) (by omega), kv_gi (by omega) (by omega), kv_gi (by omega) (by omega), kv_gi (by omega) (by omega), trivial⟩ (fun q hq => by cases hq))) (by decide)) (fun rv h' hq => ?_)
    obtain ⟨r, rfl, r0, rfl⟩ := hq
    exact ⟨r, rfl, hw, fun c i _ => rfl, Or.inr ⟨by omega, r0, rfl⟩⟩
  · refine kc_Con_mono (kc_Con_le (kv_no (kv_hrload1 hg (fun _ => 0) _ h kv_bx0 hw ⟨⟨259, rfl, by decide, by decide⟩, kv_gi (by omega) (by omega), kv_gi (by omega) (by omega), kv_gi (by omega) (by omega), kv_gi (by omega) (by omega), trivial⟩ (fun q hq => by cases hq))) (by decide)) (fun rv h' hq => ?_)
    obtain ⟨r, rfl, r0, rfl⟩ := hq
    exact ⟨r, rfl, hw, fun c i _ => rfl, Or.inr ⟨by omega, r0, rfl⟩⟩
  · refine kc_Con_mono (kc_Con_le (kv_no (kv_hrload2 hg (fun _ => 0) _ h kv_bx0 hw ⟨⟨259, rfl, by decide, by decide⟩, kv_gi (by omega) (by omega), kv_gi (by omega) (by omega), kv_gi (by omega) (by omega), kv_gi (by omega) (by omega), trivial⟩ (fun q hq => by cases hq))) (by decide)) (fun rv h' hq => ?_)
    obtain ⟨r, rfl, r0, rfl⟩ := hq
    exact ⟨r, rfl, hw, fun c i _ => rfl, Or.inr ⟨by omega, r0, rfl⟩⟩
  · refine kc_Con_mono (kc_Con_le (kv_no (kv_hrload3 hg (fun _ => 0) _ h kv_bx0 hw ⟨⟨259, rfl, by decide, by decide⟩, kv_gi (by omega) (by omega), kv_gi (by omega) (by omega), kv_gi (by omega) (by omega), kv_gi (by omega) (by omega), trivial⟩ (fun q hq => by cases hq))) (by decide)) (fun rv h' hq => ?_)
    obtain ⟨r, rfl, r0, rfl⟩ := hq
    exact ⟨r, rfl, hw, fun c i _ => rfl, Or.inr ⟨by omega, r0, rfl⟩⟩
  · refine kc_Con_mono (kc_Con_le (kv_no (kv_hrload4 hg (fun _ => 0) _ h kv_bx0 hw ⟨⟨259, rfl, by decide, by decide⟩, kv_gi (by omega) (by omega), kv_gi (by omega) (by omega), kv_gi (by omega) (by omega), kv_gi (by omega) (by omega), trivial⟩ (fun q hq => by cases hq))) (by decide)) (fun rv h' hq => ?_)
    obtain ⟨r, rfl, r0, rfl⟩ := hq
    exact ⟨r, rfl, hw, fun c i _ => rfl, Or.inr ⟨by omega, r0, rfl⟩⟩
  · refine kc_Con_mono (kc_Con_le (kv_no (kv_hrload5 hg (fun _ => 0) _ h kv_bx0 hw ⟨⟨259, rfl, by decide, by decide⟩, kv_gi (by omega) (by omega), kv_gi (by omega) (by omega), kv_gi (by omega) (by omega), kv_gi (by omega) (by omega), trivial⟩ (fun q hq => by cases hq))) (by decide)) (fun rv h' hq => ?_)
    obtain ⟨r, rfl, r0, rfl⟩ := hq
    exact ⟨r, rfl, hw, fun c i _ => rfl, Or.inr ⟨by omega, r0, rfl⟩⟩
  · refine kc_Con_mono (kc_Con_le (kv_no (kv_hrload6 hg (fun _ => 0) _ h kv_bx0 hw ⟨⟨259, rfl, by decide, by decide⟩, kv_gi (by omega) (by omega), kv_gi (by omega) (by omega), kv_gi (by omega) (by omega), kv_gi (by omega) (by omega), trivial⟩ (fun q hq => by cases hq))) (by decide)) (fun rv h' hq => ?_)
    obtain ⟨r, rfl, r0, rfl⟩ := hq
    exact ⟨r, rfl, hw, fun c i _ => rfl, Or.inr ⟨by omega, r0, rfl⟩⟩
  · refine kc_Con_mono (kc_Con_le (kv_no (kv_hrload7 hg (fun _ => 0) _ h kv_bx0 hw ⟨⟨259, rfl, by decide, by decide⟩, kv_gi (by omega) (by omega), kv_gi (by omega) (by omega), kv_gi (by omega) (by omega), kv_gi (by omega) (by omega), trivial⟩ (fun q hq => by cases hq))) (by decide)) (fun rv h' hq => ?_)
    obtain ⟨r, rfl, r0, rfl⟩ := hq
    exact ⟨r, rfl, hw, fun c i _ => rfl, Or.inr ⟨by omega, r0, rfl⟩⟩
  · refine kc_Con_mono (kc_Con_le (kv_no (kv_hrloadp (x := (c.toInt - 1).toNat) hg (by omega) (fun _ => 0) _ h kv_bx0 hw ⟨⟨259, rfl, by decide, by decide⟩, kv_gi (by omega) (by omega), kv_gi (by omega) (by omega), kv_gi (by omega) (by omega), kv_gi (by omega) (by omega), trivial⟩ (fun q hq => by
      rcases List.mem_cons.mp hq with rfl | hq
      · show kd_g _ _ _ (h 260 0)
        rw [eD]
        exact kv_gi (by omega) (by omega)
      cases hq))) (by decide)) (fun rv h' hq => ?_)
    obtain ⟨r, rfl, r0, rfl⟩ := hq
    exact ⟨r, rfl, hw, fun c i _ => rfl, Or.inr ⟨by omega, r0, rfl⟩⟩
  · refine kc_Con_mono (kc_Con_le (kv_no (kv_hrloadq (x := (e.toInt - 1).toNat) hg (by omega) (fun _ => 0) _ h kv_bx0 hw ⟨⟨259, rfl, by decide, by decide⟩, kv_gi (by omega) (by omega), kv_gi (by omega) (by omega), kv_gi (by omega) (by omega), kv_gi (by omega) (by omega), trivial⟩ (fun q hq => by
      rcases List.mem_cons.mp hq with rfl | hq
      · show kd_g _ _ _ (h 260 0)
        rw [eD]
        exact kv_gi (by omega) (by omega)
      cases hq))) (by decide)) (fun rv h' hq => ?_)
    obtain ⟨r, rfl, r0, rfl⟩ := hq
    exact ⟨r, rfl, hw, fun c i _ => rfl, Or.inr ⟨by omega, r0, rfl⟩⟩
  · refine kc_Con_mono (kc_Con_le (kv_no (kv_hrloade (x := c.toInt.toNat) hg (by omega) (fun _ => 0) _ h kv_bx0 hw ⟨⟨259, rfl, by decide, by decide⟩, kv_gi (by omega) (by omega), kv_gi (by omega) (by omega), kv_gi (by omega) (by omega), kv_gi (by omega) (by omega), trivial⟩ (fun q hq => by cases hq))) (by decide)) (fun rv h' hq => ?_)
    obtain ⟨r, rfl, r0, rfl⟩ := hq
    exact ⟨r, rfl, hw, fun c i _ => rfl, Or.inr ⟨by omega, r0, rfl⟩⟩
theorem kv_rway {g : kc_G} {h : kc_H} {D M L : Nat} {a b c : Int32} (hg : kc_ok g) (hw : kd_wt kd_ty h) (hC : kv_R h D M L) : kc_Con g 3 20 [.inr (.inr (.inl (some 259))), .inl a, .inl b, .inl c] h (fun rv h' => ∃ r : Int32, rv = some (.inl r) ∧ kd_wt kd_ty h' ∧ kd_fr [(260, 260, 10, 45)] h h' ∧ (((0 ≤ a.toInt ∧ a.toInt ≤ D ∧ 0 ≤ b.toInt ∧ b.toInt ≤ D ∧ 1 ≤ c.toInt ∧ c.toInt ≤ 99 ∧ ¬ a.toInt = b.toInt) ∧ 0 ≤ r.toInt) ∨ (¬ (0 ≤ a.toInt ∧ a.toInt ≤ D ∧ 0 ≤ b.toInt ∧ b.toInt ≤ D ∧ 1 ≤ c.toInt ∧ c.toInt ≤ 99 ∧ ¬ a.toInt = b.toInt) ∧ r.toInt < 0 ∧ h' = h))) := by
  obtain ⟨hD, hM, hL, eD, eM, eL⟩ := hC
  have tD : (Int32.ofNat D).toInt = D := kx_ti (by omega)
  have tM : (Int32.ofNat M).toInt = M := kx_ti (by omega)
  have tL : (Int32.ofNat L).toInt = L := kx_ti (by omega)
  have alo := kv_lo a
  have ahi := kv_hi a
  have blo := kv_lo b
  have bhi := kv_hi b
  have clo := kv_lo c
  have chi := kv_hi c
  rcases (show (0 ≤ a.toInt ∧ a.toInt ≤ D ∧ 0 ≤ b.toInt ∧ b.toInt ≤ D ∧ 1 ≤ c.toInt ∧ c.toInt ≤ 99 ∧ b.toInt < a.toInt) ∨ (0 ≤ a.toInt ∧ a.toInt ≤ D ∧ 0 ≤ b.toInt ∧ b.toInt ≤ D ∧ 1 ≤ c.toInt ∧ c.toInt ≤ 99 ∧ a.toInt < b.toInt) ∨ a.toInt < 0 ∨ 5 < a.toInt ∨ b.toInt < 0 ∨ 5 < b.toInt ∨ c.toInt < 1 ∨ 99 < c.toInt ∨ (D < a.toInt ∧ a.toInt ≤ 5) ∨ (D < b.toInt ∧ b.toInt ≤ 5) ∨ (0 ≤ a.toInt ∧ a.toInt ≤ 5 ∧ a.toInt = b.toInt) by omega) with k | k | k | k | k | k | k | k | k | k | k
  · refine kc_Con_mono (kc_Con_le (kv_yes (kv_hrwayA (x := (a.toInt - 1).toNat) hg (by omega) (fun _ => 0) _ h kv_bx0 hw ⟨⟨259, rfl, by decide, by decide⟩, kv_gi (by omega) (by omega), kv_gi (by omega) (by omega), kv_gi (by omega) (by omega), trivial⟩ (fun q hq => by
      rcases List.mem_cons.mp hq with rfl | hq
      · show kd_g _ _ _ (h 260 0)
        rw [eD]
        exact kv_gi (by omega) (by omega)
      cases hq))) (by decide)) (fun rv h' hq => ?_)
    obtain ⟨r, rfl, r0, hF, hw2, hfr⟩ := hq
    exact ⟨r, rfl, hw2, hfr, Or.inl ⟨by omega, r0⟩⟩
  · refine kc_Con_mono (kc_Con_le (kv_yes (kv_hrwayB (x := (b.toInt - 1).toNat) hg (by omega) (fun _ => 0) _ h kv_bx0 hw ⟨⟨259, rfl, by decide, by decide⟩, kv_gi (by omega) (by omega), kv_gi (by omega) (by omega), kv_gi (by omega) (by omega), trivial⟩ (fun q hq => by
      rcases List.mem_cons.mp hq with rfl | hq
      · show kd_g _ _ _ (h 260 0)
        rw [eD]
        exact kv_gi (by omega) (by omega)
      cases hq))) (by decide)) (fun rv h' hq => ?_)
    obtain ⟨r, rfl, r0, hF, hw2, hfr⟩ := hq
    exact ⟨r, rfl, hw2, hfr, Or.inl ⟨by omega, r0⟩⟩
  · refine kc_Con_mono (kc_Con_le (kv_no (kv_hrway0 hg (fun _ => 0) _ h kv_bx0 hw ⟨⟨259, rfl, by decide, by decide⟩, kv_gi (by omega) (by omega), kv_gi (by omega) (by omega), kv_gi (by omega) (by omega), trivial⟩ (fun q hq => by cases hq))) (by decide)) (fun rv h' hq => ?_)
    obtain ⟨r, rfl, r0, rfl⟩ := hq
    exact ⟨r, rfl, hw, fun c i _ => rfl, Or.inr ⟨by omega, r0, rfl⟩⟩
  · refine kc_Con_mono (kc_Con_le (kv_no (kv_hrway1 hg (fun _ => 0) _ h kv_bx0 hw ⟨⟨259, rfl, by decide, by decide⟩, kv_gi (by omega) (by omega), kv_gi (by omega) (by omega), kv_gi (by omega) (by omega), trivial⟩ (fun q hq => by cases hq))) (by decide)) (fun rv h' hq => ?_)
    obtain ⟨r, rfl, r0, rfl⟩ := hq
    exact ⟨r, rfl, hw, fun c i _ => rfl, Or.inr ⟨by omega, r0, rfl⟩⟩
  · refine kc_Con_mono (kc_Con_le (kv_no (kv_hrway2 hg (fun _ => 0) _ h kv_bx0 hw ⟨⟨259, rfl, by decide, by decide⟩, kv_gi (by omega) (by omega), kv_gi (by omega) (by omega), kv_gi (by omega) (by omega), trivial⟩ (fun q hq => by cases hq))) (by decide)) (fun rv h' hq => ?_)
    obtain ⟨r, rfl, r0, rfl⟩ := hq
    exact ⟨r, rfl, hw, fun c i _ => rfl, Or.inr ⟨by omega, r0, rfl⟩⟩
  · refine kc_Con_mono (kc_Con_le (kv_no (kv_hrway3 hg (fun _ => 0) _ h kv_bx0 hw ⟨⟨259, rfl, by decide, by decide⟩, kv_gi (by omega) (by omega), kv_gi (by omega) (by omega), kv_gi (by omega) (by omega), trivial⟩ (fun q hq => by cases hq))) (by decide)) (fun rv h' hq => ?_)
    obtain ⟨r, rfl, r0, rfl⟩ := hq
    exact ⟨r, rfl, hw, fun c i _ => rfl, Or.inr ⟨by omega, r0, rfl⟩⟩
  · refine kc_Con_mono (kc_Con_le (kv_no (kv_hrway4 hg (fun _ => 0) _ h kv_bx0 hw ⟨⟨259, rfl, by decide, by decide⟩, kv_gi (by omega) (by omega), kv_gi (by omega) (by omega), kv_gi (by omega) (by omega), trivial⟩ (fun q hq => by cases hq))) (by decide)) (fun rv h' hq => ?_)
    obtain ⟨r, rfl, r0, rfl⟩ := hq
    exact ⟨r, rfl, hw, fun c i _ => rfl, Or.inr ⟨by omega, r0, rfl⟩⟩
  · refine kc_Con_mono (kc_Con_le (kv_no (kv_hrway5 hg (fun _ => 0) _ h kv_bx0 hw ⟨⟨259, rfl, by decide, by decide⟩, kv_gi (by omega) (by omega), kv_gi (by omega) (by omega), kv_gi (by omega) (by omega), trivial⟩ (fun q hq => by cases hq))) (by decide)) (fun rv h' hq => ?_)
    obtain ⟨r, rfl, r0, rfl⟩ := hq
    exact ⟨r, rfl, hw, fun c i _ => rfl, Or.inr ⟨by omega, r0, rfl⟩⟩
  · refine kc_Con_mono (kc_Con_le (kv_no (kv_hrwayp (x := (a.toInt - 1).toNat) hg (by omega) (fun _ => 0) _ h kv_bx0 hw ⟨⟨259, rfl, by decide, by decide⟩, kv_gi (by omega) (by omega), kv_gi (by omega) (by omega), kv_gi (by omega) (by omega), trivial⟩ (fun q hq => by
      rcases List.mem_cons.mp hq with rfl | hq
      · show kd_g _ _ _ (h 260 0)
        rw [eD]
        exact kv_gi (by omega) (by omega)
      cases hq))) (by decide)) (fun rv h' hq => ?_)
    obtain ⟨r, rfl, r0, rfl⟩ := hq
    exact ⟨r, rfl, hw, fun c i _ => rfl, Or.inr ⟨by omega, r0, rfl⟩⟩
  · refine kc_Con_mono (kc_Con_le (kv_no (kv_hrwayq (x := (b.toInt - 1).toNat) hg (by omega) (fun _ => 0) _ h kv_bx0 hw ⟨⟨259, rfl, by decide, by decide⟩, kv_gi (by omega) (by omega), kv_gi (by omega) (by omega), kv_gi (by omega) (by omega), trivial⟩ (fun q hq => by
      rcases List.mem_cons.mp hq with rfl | hq
      · show kd_g _ _ _ (h 260 0)
        rw [eD]
        exact kv_gi (by omega) (by omega)
      cases hq))) (by decide)) (fun rv h' hq => ?_)
    obtain ⟨r, rfl, r0, rfl⟩ := hq
    exact ⟨r, rfl, hw, fun c i _ => rfl, Or.inr ⟨by omega, r0, rfl⟩⟩
  · refine kc_Con_mono (kc_Con_le (kv_no (kv_hrwaye (x := a.toInt.toNat) hg (by omega) (fun _ => 0) _ h kv_bx0 hw ⟨⟨259, rfl, by decide, by decide⟩, kv_gi (by omega) (by omega), kv_gi (by omega) (by omega), kv_gi (by omega) (by omega), trivial⟩ (fun q hq => by cases hq))) (by decide)) (fun rv h' hq => ?_)
    obtain ⟨r, rfl, r0, rfl⟩ := hq
    exact ⟨r, rfl, hw, fun c i _ => rfl, Or.inr ⟨by omega, r0, rfl⟩⟩
theorem kv_rlame {g : kc_G} {h : kc_H} {D M L : Nat} {a b c : Int32} (hg : kc_ok g) (hw : kd_wt kd_ty h) (hC : kv_R h D M L) : kc_Con g 3 39 [.inr (.inr (.inl (some 259))), .inl a, .inl b, .inl c] h (fun rv h' => ∃ r : Int32, rv = some (.inl r) ∧ kd_wt kd_ty h' ∧ kd_fr [(260, 260, 60, 74)] h h' ∧ (((0 ≤ a.toInt ∧ a.toInt < M ∧ 0 ≤ b.toInt ∧ b.toInt ≤ 1 ∧ 0 ≤ c.toInt ∧ c.toInt ≤ 999) ∧ 0 ≤ r.toInt) ∨ (¬ (0 ≤ a.toInt ∧ a.toInt < M ∧ 0 ≤ b.toInt ∧ b.toInt ≤ 1 ∧ 0 ≤ c.toInt ∧ c.toInt ≤ 999) ∧ r.toInt < 0 ∧ h' = h))) := by
  obtain ⟨hD, hM, hL, eD, eM, eL⟩ := hC
  have tD : (Int32.ofNat D).toInt = D := kx_ti (by omega)
  have tM : (Int32.ofNat M).toInt = M := kx_ti (by omega)
  have tL : (Int32.ofNat L).toInt = L := kx_ti (by omega)
  have alo := kv_lo a
  have ahi := kv_hi a
  have blo := kv_lo b
  have bhi := kv_hi b
  have clo := kv_lo c
  have chi := kv_hi c
  rcases (show (0 ≤ a.toInt ∧ a.toInt < M ∧ 0 ≤ b.toInt ∧ b.toInt ≤ 1 ∧ 0 ≤ c.toInt ∧ c.toInt ≤ 999) ∨ a.toInt < 0 ∨ 2 < a.toInt ∨ b.toInt < 0 ∨ 1 < b.toInt ∨ c.toInt < 0 ∨ 999 < c.toInt ∨ (0 ≤ a.toInt ∧ a.toInt ≤ 2 ∧ M ≤ a.toInt) by omega) with k | k | k | k | k | k | k | k
  · refine kc_Con_mono (kc_Con_le (kv_yes (kv_hrlame (x := a.toInt.toNat) hg (by omega) (fun _ => 0) _ h kv_bx0 hw ⟨⟨259, rfl, by decide, by decide⟩, kv_gi (by omega) (by omega), kv_gi (by omega) (by omega), kv_gi (by omega) (by omega), trivial⟩ (fun q hq => by
      rcases List.mem_cons.mp hq with rfl | hq
      · show kd_g _ _ _ (h 260 1)
        rw [eM]
        exact kv_gi (by omega) (by omega)
      cases hq))) (by decide)) (fun rv h' hq => ?_)
    obtain ⟨r, rfl, r0, hF, hw2, hfr⟩ := hq
    exact ⟨r, rfl, hw2, hfr, Or.inl ⟨by omega, r0⟩⟩
  · refine kc_Con_mono (kc_Con_le (kv_no (kv_hrlame0 hg (fun _ => 0) _ h kv_bx0 hw ⟨⟨259, rfl, by decide, by decide⟩, kv_gi (by omega) (by omega), kv_gi (by omega) (by omega), kv_gi (by omega) (by omega), trivial⟩ (fun q hq => by cases hq))) (by decide)) (fun rv h' hq => ?_)
    obtain ⟨r, rfl, r0, rfl⟩ := hq
    exact ⟨r, rfl, hw, fun c i _ => rfl, Or.inr ⟨by omega, r0, rfl⟩⟩
  · refine kc_Con_mono (kc_Con_le (kv_no (kv_hrlame1 hg (fun _ => 0) _ h kv_bx0 hw ⟨⟨259, rfl, by decide, by decide⟩, kv_gi (by omega) (by omega), kv_gi (by omega) (by omega), kv_gi (by omega) (by omega), trivial⟩ (fun q hq => by cases hq))) (by decide)) (fun rv h' hq => ?_)
    obtain ⟨r, rfl, r0, rfl⟩ := hq
    exact ⟨r, rfl, hw, fun c i _ => rfl, Or.inr ⟨by omega, r0, rfl⟩⟩
  · refine kc_Con_mono (kc_Con_le (kv_no (kv_hrlame2 hg (fun _ => 0) _ h kv_bx0 hw ⟨⟨259, rfl, by decide, by decide⟩, kv_gi (by omega) (by omega), kv_gi (by omega) (by omega), kv_gi (by omega) (by omega), trivial⟩ (fun q hq => by cases hq))) (by decide)) (fun rv h' hq => ?_)
    obtain ⟨r, rfl, r0, rfl⟩ := hq
    exact ⟨r, rfl, hw, fun c i _ => rfl, Or.inr ⟨by omega, r0, rfl⟩⟩
  · refine kc_Con_mono (kc_Con_le (kv_no (kv_hrlame3 hg (fun _ => 0) _ h kv_bx0 hw ⟨⟨259, rfl, by decide, by decide⟩, kv_gi (by omega) (by omega), kv_gi (by omega) (by omega), kv_gi (by omega) (by omega), trivial⟩ (fun q hq => by cases hq))) (by decide)) (fun rv h' hq => ?_)
    obtain ⟨r, rfl, r0, rfl⟩ := hq
    exact ⟨r, rfl, hw, fun c i _ => rfl, Or.inr ⟨by omega, r0, rfl⟩⟩
  · refine kc_Con_mono (kc_Con_le (kv_no (kv_hrlame4 hg (fun _ => 0) _ h kv_bx0 hw ⟨⟨259, rfl, by decide, by decide⟩, kv_gi (by omega) (by omega), kv_gi (by omega) (by omega), kv_gi (by omega) (by omega), trivial⟩ (fun q hq => by cases hq))) (by decide)) (fun rv h' hq => ?_)
    obtain ⟨r, rfl, r0, rfl⟩ := hq
    exact ⟨r, rfl, hw, fun c i _ => rfl, Or.inr ⟨by omega, r0, rfl⟩⟩
  · refine kc_Con_mono (kc_Con_le (kv_no (kv_hrlame5 hg (fun _ => 0) _ h kv_bx0 hw ⟨⟨259, rfl, by decide, by decide⟩, kv_gi (by omega) (by omega), kv_gi (by omega) (by omega), kv_gi (by omega) (by omega), trivial⟩ (fun q hq => by cases hq))) (by decide)) (fun rv h' hq => ?_)
    obtain ⟨r, rfl, r0, rfl⟩ := hq
    exact ⟨r, rfl, hw, fun c i _ => rfl, Or.inr ⟨by omega, r0, rfl⟩⟩
  · refine kc_Con_mono (kc_Con_le (kv_no (kv_hrlamep (x := a.toInt.toNat) hg (by omega) (fun _ => 0) _ h kv_bx0 hw ⟨⟨259, rfl, by decide, by decide⟩, kv_gi (by omega) (by omega), kv_gi (by omega) (by omega), kv_gi (by omega) (by omega), trivial⟩ (fun q hq => by
      rcases List.mem_cons.mp hq with rfl | hq
      · show kd_g _ _ _ (h 260 1)
        rw [eM]
        exact kv_gi (by omega) (by omega)
      cases hq))) (by decide)) (fun rv h' hq => ?_)
    obtain ⟨r, rfl, r0, rfl⟩ := hq
    exact ⟨r, rfl, hw, fun c i _ => rfl, Or.inr ⟨by omega, r0, rfl⟩⟩
theorem kv_rford {g : kc_G} {h : kc_H} {D M L : Nat} {a : Int32} (hg : kc_ok g) (hw : kd_wt kd_ty h) (hC : kv_R h D M L) {f : Nat} (hf : f ≤ 1) (ef : 1 ≤ a.toInt → a.toInt ≤ 5 → h 260 (46 + a.toInt.toNat) = .inl (Int32.ofNat f)) : kc_Con g 3 26 [.inr (.inr (.inl (some 259))), .inl a] h (fun rv h' => ∃ r : Int32, rv = some (.inl r) ∧ kd_wt kd_ty h' ∧ kd_fr [(260, 260, 46 + a.toInt.toNat, 46 + a.toInt.toNat)] h h' ∧ (((1 ≤ a.toInt ∧ a.toInt ≤ D ∧ f = 0) ∧ 0 ≤ r.toInt ∧ h' 260 (46 + a.toInt.toNat) = .inl (Int32.ofNat 1)) ∨ (¬ (1 ≤ a.toInt ∧ a.toInt ≤ D ∧ f = 0) ∧ r.toInt < 0 ∧ h' = h))) := by
  obtain ⟨hD, hM, hL, eD, eM, eL⟩ := hC
  have tD : (Int32.ofNat D).toInt = D := kx_ti (by omega)
  have tM : (Int32.ofNat M).toInt = M := kx_ti (by omega)
  have tL : (Int32.ofNat L).toInt = L := kx_ti (by omega)
  have alo := kv_lo a
  have ahi := kv_hi a
  rcases (show (1 ≤ a.toInt ∧ a.toInt ≤ D ∧ f = 0) ∨ (1 ≤ a.toInt ∧ a.toInt ≤ D ∧ f = 1) ∨ a.toInt < 1 ∨ 5 < a.toInt ∨ (1 ≤ a.toInt ∧ a.toInt ≤ 5 ∧ D < a.toInt) by omega) with k | k | k | k | k
  · refine kc_Con_mono (kc_Con_le (kv_yes (kv_hrford (x := (a.toInt - 1).toNat) hg (by omega) (fun _ => 0) _ h kv_bx0 hw ⟨⟨259, rfl, by decide, by decide⟩, kv_gi (by omega) (by omega), trivial⟩ (fun q hq => by
      rcases List.mem_cons.mp hq with rfl | hq
      · show kd_g _ _ _ (h 260 0)
        rw [eD]
        exact kv_gi (by omega) (by omega)
      rcases List.mem_cons.mp hq with rfl | hq
      · show kd_g _ _ _ (h 260 (46 + (((a.toInt - 1).toNat)+1)))
        rw [show 46 + (((a.toInt - 1).toNat)+1) = 46 + a.toInt.toNat from by omega, ef (by omega) (by omega)]
        obtain rfl : f = 0 := by omega
        exact kb_ok (k := 0) (by decide)
      cases hq))) (by decide)) (fun rv h' hq => ?_)
    obtain ⟨r, rfl, r0, hF, hw2, hfr⟩ := hq
    have e0 := kv_p1 (hF (260, 46 + ((a.toInt - 1).toNat + 1), _) List.mem_cons_self)
    have e1 : h' 260 (46 + a.toInt.toNat) = .inl (Int32.ofNat 1) := by
      rw [show (46 + a.toInt.toNat) = 46 + ((a.toInt - 1).toNat + 1) from by omega]
      exact e0
    have hfr2 : kd_fr [(260, 260, 46 + a.toInt.toNat, 46 + a.toInt.toNat)] h h' := by
      rw [show [(260, 260, 46 + a.toInt.toNat, 46 + a.toInt.toNat)] = [(260, 260, 47 + (a.toInt - 1).toNat, 47 + (a.toInt - 1).toNat)] from by rw [show 46 + a.toInt.toNat = 47 + (a.toInt - 1).toNat from by omega]]
      exact hfr
    exact ⟨r, rfl, hw2, hfr2, Or.inl ⟨by omega, r0, e1⟩⟩
  · refine kc_Con_mono (kc_Con_le (kv_no (kv_hrfordn (x := (a.toInt - 1).toNat) hg (by omega) (fun _ => 0) _ h kv_bx0 hw ⟨⟨259, rfl, by decide, by decide⟩, kv_gi (by omega) (by omega), trivial⟩ (fun q hq => by
      rcases List.mem_cons.mp hq with rfl | hq
      · show kd_g _ _ _ (h 260 (46 + (((a.toInt - 1).toNat)+1)))
        rw [show 46 + (((a.toInt - 1).toNat)+1) = 46 + a.toInt.toNat from by omega, ef (by omega) (by omega)]
        obtain rfl : f = 1 := by omega
        exact kb_ok (k := 1) (by decide)
      cases hq))) (by decide)) (fun rv h' hq => ?_)
    obtain ⟨r, rfl, r0, rfl⟩ := hq
    exact ⟨r, rfl, hw, fun c i _ => rfl, Or.inr ⟨by omega, r0, rfl⟩⟩
  · refine kc_Con_mono (kc_Con_le (kv_no (kv_hrford0 hg (fun _ => 0) _ h kv_bx0 hw ⟨⟨259, rfl, by decide, by decide⟩, kv_gi (by omega) (by omega), trivial⟩ (fun q hq => by cases hq))) (by decide)) (fun rv h' hq => ?_)
    obtain ⟨r, rfl, r0, rfl⟩ := hq
    exact ⟨r, rfl, hw, fun c i _ => rfl, Or.inr ⟨by omega, r0, rfl⟩⟩
  · refine kc_Con_mono (kc_Con_le (kv_no (kv_hrford1 hg (fun _ => 0) _ h kv_bx0 hw ⟨⟨259, rfl, by decide, by decide⟩, kv_gi (by omega) (by omega), trivial⟩ (fun q hq => by cases hq))) (by decide)) (fun rv h' hq => ?_)
    obtain ⟨r, rfl, r0, rfl⟩ := hq
    exact ⟨r, rfl, hw, fun c i _ => rfl, Or.inr ⟨by omega, r0, rfl⟩⟩
  · refine kc_Con_mono (kc_Con_le (kv_no (kv_hrfordp (x := (a.toInt - 1).toNat) hg (by omega) (fun _ => 0) _ h kv_bx0 hw ⟨⟨259, rfl, by decide, by decide⟩, kv_gi (by omega) (by omega), trivial⟩ (fun q hq => by
      rcases List.mem_cons.mp hq with rfl | hq
      · show kd_g _ _ _ (h 260 0)
        rw [eD]
        exact kv_gi (by omega) (by omega)
      cases hq))) (by decide)) (fun rv h' hq => ?_)
    obtain ⟨r, rfl, r0, rfl⟩ := hq
    exact ⟨r, rfl, hw, fun c i _ => rfl, Or.inr ⟨by omega, r0, rfl⟩⟩
theorem kv_rask {g : kc_G} {h : kc_H} {D M L : Nat} {a b : Int32} (hg : kc_ok g) (hw : kd_wt kd_ty h) (hC : kv_R h D M L) : kc_Con g 3 47 [.inr (.inr (.inl (some 259))), .inl a, .inl b] h (fun rv h' => ∃ r : Int32, rv = some (.inl r) ∧ kd_wt kd_ty h' ∧ kd_fr [(260, 260, 80, 149)] h h' ∧ (((0 ≤ a.toInt ∧ a.toInt < L ∧ 0 ≤ b.toInt ∧ b.toInt ≤ 100) ∧ 0 ≤ r.toInt) ∨ (¬ (0 ≤ a.toInt ∧ a.toInt < L ∧ 0 ≤ b.toInt ∧ b.toInt ≤ 100) ∧ r.toInt < 0 ∧ h' = h))) := by
  obtain ⟨hD, hM, hL, eD, eM, eL⟩ := hC
  have tD : (Int32.ofNat D).toInt = D := kx_ti (by omega)
  have tM : (Int32.ofNat M).toInt = M := kx_ti (by omega)
  have tL : (Int32.ofNat L).toInt = L := kx_ti (by omega)
  have alo := kv_lo a
  have ahi := kv_hi a
  have blo := kv_lo b
  have bhi := kv_hi b
  rcases (show (0 ≤ a.toInt ∧ a.toInt < L ∧ 0 ≤ b.toInt ∧ b.toInt ≤ 100) ∨ a.toInt < 0 ∨ 9 < a.toInt ∨ b.toInt < 0 ∨ 100 < b.toInt ∨ (0 ≤ a.toInt ∧ a.toInt ≤ 9 ∧ L ≤ a.toInt) by omega) with k | k | k | k | k | k
  · refine kc_Con_mono (kc_Con_le (kv_yes (kv_hrask (x := a.toInt.toNat) hg (by omega) (fun _ => 0) _ h kv_bx0 hw ⟨⟨259, rfl, by decide, by decide⟩, kv_gi (by omega) (by omega), kv_gi (by omega) (by omega), trivial⟩ (fun q hq => by
      rcases List.mem_cons.mp hq with rfl | hq
      · show kd_g _ _ _ (h 260 2)
        rw [eL]
        exact kv_gi (by omega) (by omega)
      cases hq))) (by decide)) (fun rv h' hq => ?_)
    obtain ⟨r, rfl, r0, hF, hw2, hfr⟩ := hq
    exact ⟨r, rfl, hw2, hfr, Or.inl ⟨by omega, r0⟩⟩
  · refine kc_Con_mono (kc_Con_le (kv_no (kv_hrask0 hg (fun _ => 0) _ h kv_bx0 hw ⟨⟨259, rfl, by decide, by decide⟩, kv_gi (by omega) (by omega), kv_gi (by omega) (by omega), trivial⟩ (fun q hq => by cases hq))) (by decide)) (fun rv h' hq => ?_)
    obtain ⟨r, rfl, r0, rfl⟩ := hq
    exact ⟨r, rfl, hw, fun c i _ => rfl, Or.inr ⟨by omega, r0, rfl⟩⟩
  · refine kc_Con_mono (kc_Con_le (kv_no (kv_hrask1 hg (fun _ => 0) _ h kv_bx0 hw ⟨⟨259, rfl, by decide, by decide⟩, kv_gi (by omega) (by omega), kv_gi (by omega) (by omega), trivial⟩ (fun q hq => by cases hq))) (by decide)) (fun rv h' hq => ?_)
    obtain ⟨r, rfl, r0, rfl⟩ := hq
    exact ⟨r, rfl, hw, fun c i _ => rfl, Or.inr ⟨by omega, r0, rfl⟩⟩
  · refine kc_Con_mono (kc_Con_le (kv_no (kv_hrask2 hg (fun _ => 0) _ h kv_bx0 hw ⟨⟨259, rfl, by decide, by decide⟩, kv_gi (by omega) (by omega), kv_gi (by omega) (by omega), trivial⟩ (fun q hq => by cases hq))) (by decide)) (fun rv h' hq => ?_)
    obtain ⟨r, rfl, r0, rfl⟩ := hq
    exact ⟨r, rfl, hw, fun c i _ => rfl, Or.inr ⟨by omega, r0, rfl⟩⟩
  · refine kc_Con_mono (kc_Con_le (kv_no (kv_hrask3 hg (fun _ => 0) _ h kv_bx0 hw ⟨⟨259, rfl, by decide, by decide⟩, kv_gi (by omega) (by omega), kv_gi (by omega) (by omega), trivial⟩ (fun q hq => by cases hq))) (by decide)) (fun rv h' hq => ?_)
    obtain ⟨r, rfl, r0, rfl⟩ := hq
    exact ⟨r, rfl, hw, fun c i _ => rfl, Or.inr ⟨by omega, r0, rfl⟩⟩
  · refine kc_Con_mono (kc_Con_le (kv_no (kv_hraskp (x := a.toInt.toNat) hg (by omega) (fun _ => 0) _ h kv_bx0 hw ⟨⟨259, rfl, by decide, by decide⟩, kv_gi (by omega) (by omega), kv_gi (by omega) (by omega), trivial⟩ (fun q hq => by
      rcases List.mem_cons.mp hq with rfl | hq
      · show kd_g _ _ _ (h 260 2)
        rw [eL]
        exact kv_gi (by omega) (by omega)
      cases hq))) (by decide)) (fun rv h' hq => ?_)
    obtain ⟨r, rfl, r0, rfl⟩ := hq
    exact ⟨r, rfl, hw, fun c i _ => rfl, Or.inr ⟨by omega, r0, rfl⟩⟩
theorem kv_rdrain {g : kc_G} {h : kc_H} {D M L : Nat} {a b : Int32} (hg : kc_ok g) (hw : kd_wt kd_ty h) (hC : kv_R h D M L) : kc_Con g 3 50 [.inr (.inr (.inl (some 259))), .inl a, .inl b] h (fun rv h' => ∃ r : Int32, rv = some (.inl r) ∧ kd_wt kd_ty h' ∧ kd_fr [(260, 260, 80, 149)] h h' ∧ (((0 ≤ a.toInt ∧ a.toInt < L ∧ 0 ≤ b.toInt ∧ b.toInt ≤ 9) ∧ 0 ≤ r.toInt) ∨ (¬ (0 ≤ a.toInt ∧ a.toInt < L ∧ 0 ≤ b.toInt ∧ b.toInt ≤ 9) ∧ r.toInt < 0 ∧ h' = h))) := by
  obtain ⟨hD, hM, hL, eD, eM, eL⟩ := hC
  have tD : (Int32.ofNat D).toInt = D := kx_ti (by omega)
  have tM : (Int32.ofNat M).toInt = M := kx_ti (by omega)
  have tL : (Int32.ofNat L).toInt = L := kx_ti (by omega)
  have alo := kv_lo a
  have ahi := kv_hi a
  have blo := kv_lo b
  have bhi := kv_hi b
  rcases (show (0 ≤ a.toInt ∧ a.toInt < L ∧ 0 ≤ b.toInt ∧ b.toInt ≤ 9) ∨ a.toInt < 0 ∨ 9 < a.toInt ∨ b.toInt < 0 ∨ 9 < b.toInt ∨ (0 ≤ a.toInt ∧ a.toInt ≤ 9 ∧ L ≤ a.toInt) by omega) with k | k | k | k | k | k
  · refine kc_Con_mono (kc_Con_le (kv_yes (kv_hrdrain (x := a.toInt.toNat) hg (by omega) (fun _ => 0) _ h kv_bx0 hw ⟨⟨259, rfl, by decide, by decide⟩, kv_gi (by omega) (by omega), kv_gi (by omega) (by omega), trivial⟩ (fun q hq => by
      rcases List.mem_cons.mp hq with rfl | hq
      · show kd_g _ _ _ (h 260 2)
        rw [eL]
        exact kv_gi (by omega) (by omega)
      cases hq))) (by decide)) (fun rv h' hq => ?_)
    obtain ⟨r, rfl, r0, hF, hw2, hfr⟩ := hq
    exact ⟨r, rfl, hw2, hfr, Or.inl ⟨by omega, r0⟩⟩
  · refine kc_Con_mono (kc_Con_le (kv_no (kv_hrdrain0 hg (fun _ => 0) _ h kv_bx0 hw ⟨⟨259, rfl, by decide, by decide⟩, kv_gi (by omega) (by omega), kv_gi (by omega) (by omega), trivial⟩ (fun q hq => by cases hq))) (by decide)) (fun rv h' hq => ?_)
    obtain ⟨r, rfl, r0, rfl⟩ := hq
    exact ⟨r, rfl, hw, fun c i _ => rfl, Or.inr ⟨by omega, r0, rfl⟩⟩
  · refine kc_Con_mono (kc_Con_le (kv_no (kv_hrdrain1 hg (fun _ => 0) _ h kv_bx0 hw ⟨⟨259, rfl, by decide, by decide⟩, kv_gi (by omega) (by omega), kv_gi (by omega) (by omega), trivial⟩ (fun q hq => by cases hq))) (by decide)) (fun rv h' hq => ?_)
    obtain ⟨r, rfl, r0, rfl⟩ := hq
    exact ⟨r, rfl, hw, fun c i _ => rfl, Or.inr ⟨by omega, r0, rfl⟩⟩
  · refine kc_Con_mono (kc_Con_le (kv_no (kv_hrdrain2 hg (fun _ => 0) _ h kv_bx0 hw ⟨⟨259, rfl, by decide, by decide⟩, kv_gi (by omega) (by omega), kv_gi (by omega) (by omega), trivial⟩ (fun q hq => by cases hq))) (by decide)) (fun rv h' hq => ?_)
    obtain ⟨r, rfl, r0, rfl⟩ := hq
    exact ⟨r, rfl, hw, fun c i _ => rfl, Or.inr ⟨by omega, r0, rfl⟩⟩
  · refine kc_Con_mono (kc_Con_le (kv_no (kv_hrdrain3 hg (fun _ => 0) _ h kv_bx0 hw ⟨⟨259, rfl, by decide, by decide⟩, kv_gi (by omega) (by omega), kv_gi (by omega) (by omega), trivial⟩ (fun q hq => by cases hq))) (by decide)) (fun rv h' hq => ?_)
    obtain ⟨r, rfl, r0, rfl⟩ := hq
    exact ⟨r, rfl, hw, fun c i _ => rfl, Or.inr ⟨by omega, r0, rfl⟩⟩
  · refine kc_Con_mono (kc_Con_le (kv_no (kv_hrdrainp (x := a.toInt.toNat) hg (by omega) (fun _ => 0) _ h kv_bx0 hw ⟨⟨259, rfl, by decide, by decide⟩, kv_gi (by omega) (by omega), kv_gi (by omega) (by omega), trivial⟩ (fun q hq => by
      rcases List.mem_cons.mp hq with rfl | hq
      · show kd_g _ _ _ (h 260 2)
        rw [eL]
        exact kv_gi (by omega) (by omega)
      cases hq))) (by decide)) (fun rv h' hq => ?_)
    obtain ⟨r, rfl, r0, rfl⟩ := hq
    exact ⟨r, rfl, hw, fun c i _ => rfl, Or.inr ⟨by omega, r0, rfl⟩⟩
theorem kv_rstones {g : kc_G} {h : kc_H} {D M L : Nat} {a b : Int32} (hg : kc_ok g) (hw : kd_wt kd_ty h) (hC : kv_R h D M L) : kc_Con g 3 30 [.inr (.inr (.inl (some 259))), .inl a, .inl b] h (fun rv h' => ∃ r : Int32, rv = some (.inl r) ∧ kd_wt kd_ty h' ∧ kd_fr [(260, 260, 52, 57)] h h' ∧ (((0 ≤ a.toInt ∧ a.toInt ≤ D ∧ 0 ≤ b.toInt ∧ b.toInt ≤ 9) ∧ 0 ≤ r.toInt) ∨ (¬ (0 ≤ a.toInt ∧ a.toInt ≤ D ∧ 0 ≤ b.toInt ∧ b.toInt ≤ 9) ∧ r.toInt < 0 ∧ h' = h))) := by
  obtain ⟨hD, hM, hL, eD, eM, eL⟩ := hC
  have tD : (Int32.ofNat D).toInt = D := kx_ti (by omega)
  have tM : (Int32.ofNat M).toInt = M := kx_ti (by omega)
  have tL : (Int32.ofNat L).toInt = L := kx_ti (by omega)
  have alo := kv_lo a
  have ahi := kv_hi a
  have blo := kv_lo b
  have bhi := kv_hi b
  rcases (show (0 ≤ a.toInt ∧ a.toInt ≤ D ∧ 0 ≤ b.toInt ∧ b.toInt ≤ 9) ∨ a.toInt < 0 ∨ 5 < a.toInt ∨ b.toInt < 0 ∨ 9 < b.toInt ∨ (D < a.toInt ∧ a.toInt ≤ 5) by omega) with k | k | k | k | k | k
  · refine kc_Con_mono (kc_Con_le (kv_yes (kv_hrstones (x := a.toInt.toNat) hg (by omega) (fun _ => 0) _ h kv_bx0 hw ⟨⟨259, rfl, by decide, by decide⟩, kv_gi (by omega) (by omega), kv_gi (by omega) (by omega), trivial⟩ (fun q hq => by
      rcases List.mem_cons.mp hq with rfl | hq
      · show kd_g _ _ _ (h 260 0)
        rw [eD]
        exact kv_gi (by omega) (by omega)
      cases hq))) (by decide)) (fun rv h' hq => ?_)
    obtain ⟨r, rfl, r0, hF, hw2, hfr⟩ := hq
    exact ⟨r, rfl, hw2, hfr, Or.inl ⟨by omega, r0⟩⟩
  · refine kc_Con_mono (kc_Con_le (kv_no (kv_hrstones0 hg (fun _ => 0) _ h kv_bx0 hw ⟨⟨259, rfl, by decide, by decide⟩, kv_gi (by omega) (by omega), kv_gi (by omega) (by omega), trivial⟩ (fun q hq => by cases hq))) (by decide)) (fun rv h' hq => ?_)
    obtain ⟨r, rfl, r0, rfl⟩ := hq
    exact ⟨r, rfl, hw, fun c i _ => rfl, Or.inr ⟨by omega, r0, rfl⟩⟩
  · refine kc_Con_mono (kc_Con_le (kv_no (kv_hrstones1 hg (fun _ => 0) _ h kv_bx0 hw ⟨⟨259, rfl, by decide, by decide⟩, kv_gi (by omega) (by omega), kv_gi (by omega) (by omega), trivial⟩ (fun q hq => by cases hq))) (by decide)) (fun rv h' hq => ?_)
    obtain ⟨r, rfl, r0, rfl⟩ := hq
    exact ⟨r, rfl, hw, fun c i _ => rfl, Or.inr ⟨by omega, r0, rfl⟩⟩
  · refine kc_Con_mono (kc_Con_le (kv_no (kv_hrstones2 hg (fun _ => 0) _ h kv_bx0 hw ⟨⟨259, rfl, by decide, by decide⟩, kv_gi (by omega) (by omega), kv_gi (by omega) (by omega), trivial⟩ (fun q hq => by cases hq))) (by decide)) (fun rv h' hq => ?_)
    obtain ⟨r, rfl, r0, rfl⟩ := hq
    exact ⟨r, rfl, hw, fun c i _ => rfl, Or.inr ⟨by omega, r0, rfl⟩⟩
  · refine kc_Con_mono (kc_Con_le (kv_no (kv_hrstones3 hg (fun _ => 0) _ h kv_bx0 hw ⟨⟨259, rfl, by decide, by decide⟩, kv_gi (by omega) (by omega), kv_gi (by omega) (by omega), trivial⟩ (fun q hq => by cases hq))) (by decide)) (fun rv h' hq => ?_)
    obtain ⟨r, rfl, r0, rfl⟩ := hq
    exact ⟨r, rfl, hw, fun c i _ => rfl, Or.inr ⟨by omega, r0, rfl⟩⟩
  · refine kc_Con_mono (kc_Con_le (kv_no (kv_hrstonesp (x := (a.toInt - 1).toNat) hg (by omega) (fun _ => 0) _ h kv_bx0 hw ⟨⟨259, rfl, by decide, by decide⟩, kv_gi (by omega) (by omega), kv_gi (by omega) (by omega), trivial⟩ (fun q hq => by
      rcases List.mem_cons.mp hq with rfl | hq
      · show kd_g _ _ _ (h 260 0)
        rw [eD]
        exact kv_gi (by omega) (by omega)
      cases hq))) (by decide)) (fun rv h' hq => ?_)
    obtain ⟨r, rfl, r0, rfl⟩ := hq
    exact ⟨r, rfl, hw, fun c i _ => rfl, Or.inr ⟨by omega, r0, rfl⟩⟩
