/-! ===== runs: the call 33, by its argument ===== -/
def wk_bx1 (p q : Int × Int) : wk_I := [wk_FI, p, wk_FI, wk_FI, wk_FI, q]
noncomputable def wk_caseV (iv : wk_I) : Bool := match wk_go wk_mt 5 wk_mL (fun _ _ _ _ _ _ _ => false) (wk_run wk_mt 5 100000 10) 100000 iv 18 wk_AL1 [] wk_AH1 289 10466 with
  | some fs => wk_all1 fs
  | none => false
theorem wk_caseV_r {iv : wk_I} (h : wk_caseV iv = true) : ∃ fs, wk_go wk_mt 5 wk_mL (fun _ _ _ _ _ _ _ => false) (wk_run wk_mt 5 100000 10) 100000 iv 18 wk_AL1 [] wk_AH1 289 10466 = some fs ∧ wk_all1 fs = true := by
  unfold wk_caseV at h
  split at h
  · rename_i fs hfs
    exact ⟨fs, hfs, h⟩
  · cases h
set_option maxRecDepth 100000 in
theorem wk_k33a : wk_caseV (wk_bx1 (-2147483648, -1) (33, 33)) = true := by decide +kernel
set_option maxRecDepth 100000 in
theorem wk_k33b : wk_caseV (wk_bx1 (0, 0) (33, 33)) = true := by decide +kernel
set_option maxRecDepth 100000 in
theorem wk_k33c : wk_caseV (wk_bx1 (1, 1) (33, 33)) = true := by decide +kernel
set_option maxRecDepth 100000 in
theorem wk_k33d : wk_caseV (wk_bx1 (2, 2147483647) (33, 33)) = true := by decide +kernel
