/-! ===== runs: the calls 0 to 9 ===== -/
set_option maxRecDepth 100000 in
theorem wk_k0 : wk_caseB 5 0 0 = true := by decide +kernel
set_option maxRecDepth 100000 in
theorem wk_k1 : wk_caseB 5 1 1 = true := by decide +kernel
set_option maxRecDepth 100000 in
theorem wk_k2 : wk_caseB 5 2 2 = true := by decide +kernel
set_option maxRecDepth 100000 in
theorem wk_k3 : wk_caseB 5 3 3 = true := by decide +kernel
set_option maxRecDepth 100000 in
theorem wk_k4 : wk_caseB 5 4 4 = true := by decide +kernel
set_option maxRecDepth 100000 in
theorem wk_k5 : wk_caseB 5 5 5 = true := by decide +kernel
set_option maxRecDepth 100000 in
theorem wk_k6 : wk_caseB 5 6 6 = true := by decide +kernel
set_option maxRecDepth 100000 in
theorem wk_k7 : wk_caseB 5 7 7 = true := by decide +kernel
set_option maxRecDepth 100000 in
theorem wk_k8 : wk_caseB 5 8 8 = true := by decide +kernel
set_option maxRecDepth 100000 in
theorem wk_k9 : wk_caseB 5 9 9 = true := by decide +kernel
