/-! ===== runs: the calls 10 to 19 ===== -/
set_option maxRecDepth 100000 in
theorem wk_k10 : wk_caseB 5 10 10 = true := by decide +kernel
set_option maxRecDepth 100000 in
theorem wk_k11 : wk_caseB 5 11 11 = true := by decide +kernel
set_option maxRecDepth 100000 in
theorem wk_k12 : wk_caseB 5 12 12 = true := by decide +kernel
set_option maxRecDepth 100000 in
theorem wk_k13 : wk_caseB 5 13 13 = true := by decide +kernel
set_option maxRecDepth 100000 in
theorem wk_k14 : wk_caseB 5 14 14 = true := by decide +kernel
set_option maxRecDepth 100000 in
theorem wk_k15 : wk_caseB 5 15 15 = true := by decide +kernel
set_option maxRecDepth 100000 in
theorem wk_k16 : wk_caseB 5 16 16 = true := by decide +kernel
set_option maxRecDepth 100000 in
theorem wk_k17 : wk_caseB 5 17 17 = true := by decide +kernel
set_option maxRecDepth 100000 in
theorem wk_k18 : wk_caseB 5 18 18 = true := by decide +kernel
set_option maxRecDepth 100000 in
theorem wk_k19 : wk_caseB 5 19 19 = true := by decide +kernel
