/-! ===== runs: the calls 20 to 32 ===== -/
set_option maxRecDepth 100000 in
theorem wk_k20 : wk_caseB 5 20 20 = true := by decide +kernel
set_option maxRecDepth 100000 in
theorem wk_k21 : wk_caseB 5 21 21 = true := by decide +kernel
set_option maxRecDepth 100000 in
theorem wk_k22 : wk_caseB 5 22 22 = true := by decide +kernel
set_option maxRecDepth 100000 in
theorem wk_k23 : wk_caseB 5 23 23 = true := by decide +kernel
set_option maxRecDepth 100000 in
theorem wk_k24 : wk_caseB 5 24 24 = true := by decide +kernel
set_option maxRecDepth 100000 in
theorem wk_k25 : wk_caseB 5 25 25 = true := by decide +kernel
set_option maxRecDepth 100000 in
theorem wk_k26 : wk_caseB 5 26 26 = true := by decide +kernel
set_option maxRecDepth 100000 in
theorem wk_k27 : wk_caseB 5 27 27 = true := by decide +kernel
set_option maxRecDepth 100000 in
theorem wk_k28 : wk_caseB 5 28 28 = true := by decide +kernel
set_option maxRecDepth 100000 in
theorem wk_k29 : wk_caseB 5 29 29 = true := by decide +kernel
set_option maxRecDepth 100000 in
theorem wk_k30 : wk_caseB 5 30 30 = true := by decide +kernel
set_option maxRecDepth 100000 in
theorem wk_k31 : wk_caseB 5 31 31 = true := by decide +kernel
set_option maxRecDepth 100000 in
theorem wk_k32 : wk_caseB 5 32 32 = true := by decide +kernel
