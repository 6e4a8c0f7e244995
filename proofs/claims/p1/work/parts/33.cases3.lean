/-! ===== runs: the calls 33 to 33 ===== -/
set_option maxRecDepth 100000 in
theorem wk_k33 : wk_caseB 5 33 33 = true := by decide +kernel
