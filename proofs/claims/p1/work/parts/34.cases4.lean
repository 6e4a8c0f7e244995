/-! ===== runs: the calls 34 to 37 ===== -/
set_option maxRecDepth 100000 in
theorem wk_k34 : wk_caseB 5 34 34 = true := by decide +kernel
set_option maxRecDepth 100000 in
theorem wk_k35 : wk_caseB 5 35 35 = true := by decide +kernel
set_option maxRecDepth 100000 in
theorem wk_k36 : wk_caseB 5 36 36 = true := by decide +kernel
set_option maxRecDepth 100000 in
theorem wk_k37 : wk_caseB 5 37 63 = true := by decide +kernel
set_option maxRecDepth 100000 in
theorem wk_kL0 : wk_caseB 0 0 63 = true := by decide +kernel
set_option maxRecDepth 100000 in
theorem wk_kL1 : wk_caseB 1 0 63 = true := by decide +kernel
set_option maxRecDepth 100000 in
theorem wk_kL2 : wk_caseB 2 0 63 = true := by decide +kernel
set_option maxRecDepth 100000 in
theorem wk_kL3 : wk_caseB 3 0 63 = true := by decide +kernel
set_option maxRecDepth 100000 in
theorem wk_kL4 : wk_caseB 4 0 63 = true := by decide +kernel
