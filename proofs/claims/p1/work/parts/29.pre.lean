/-! ===== runs: both constructors ===== -/
def wk_FI : Int × Int := (-2147483648, 2147483647)
def wk_bx0 (a b : Int) : wk_I := [wk_FI, wk_FI, wk_FI, wk_FI, wk_FI, (a, b)]
noncomputable def wk_preB (Lz : Nat) : Bool := match wk_go wk_mt Lz wk_mL (fun _ pc AL AS AH nc ns => wk_isS1 pc AL AS AH nc ns) (wk_run wk_mt Lz 100000 10) 100000 (wk_bx0 0 63) 0 [(0, .inr (.inr (.inr (2, 0))))] [] wk_AH0 0 0 with
  | some [] => true
  | _ => false
theorem wk_preB_r {Lz : Nat} (h : wk_preB Lz = true) : wk_go wk_mt Lz wk_mL (fun _ pc AL AS AH nc ns => wk_isS1 pc AL AS AH nc ns) (wk_run wk_mt Lz 100000 10) 100000 (wk_bx0 0 63) 0 [(0, .inr (.inr (.inr (2, 0))))] [] wk_AH0 0 0 = some [] := by
  unfold wk_preB at h
  split at h
  · rename_i hq
    exact hq
  · cases h
noncomputable def wk_caseB (Lz : Nat) (a b : Int) : Bool := match wk_go wk_mt Lz wk_mL (fun _ _ _ _ _ _ _ => false) (wk_run wk_mt Lz 100000 10) 100000 (wk_bx0 a b) 18 wk_AL1 [] wk_AH1 289 10466 with
  | some fs => wk_all1 fs
  | none => false
theorem wk_caseB_r {Lz : Nat} {a b : Int} (h : wk_caseB Lz a b = true) : ∃ fs, wk_go wk_mt Lz wk_mL (fun _ _ _ _ _ _ _ => false) (wk_run wk_mt Lz 100000 10) 100000 (wk_bx0 a b) 18 wk_AL1 [] wk_AH1 289 10466 = some fs ∧ wk_all1 fs = true := by
  unfold wk_caseB at h
  split at h
  · rename_i fs hfs
    exact ⟨fs, hfs, h⟩
  · cases h
set_option maxRecDepth 100000 in
theorem wk_pre0 : wk_preB 0 = true := by decide +kernel
set_option maxRecDepth 100000 in
theorem wk_pre1 : wk_preB 1 = true := by decide +kernel
set_option maxRecDepth 100000 in
theorem wk_pre2 : wk_preB 2 = true := by decide +kernel
set_option maxRecDepth 100000 in
theorem wk_pre3 : wk_preB 3 = true := by decide +kernel
set_option maxRecDepth 100000 in
theorem wk_pre4 : wk_preB 4 = true := by decide +kernel
set_option maxRecDepth 100000 in
theorem wk_pre5 : wk_preB 5 = true := by decide +kernel
