/-! ===== the rows hold: methods 270 to 275 ===== -/
set_option maxRecDepth 100000 in
theorem wk_ok270 : wk_okm wk_mt wk_mw 270 wk_m270 = true := wk_okm_q [] "EvenSidesModel" rfl (wk_qall wk_q_Model_ok) (wk_alls_r wk_h_Model 110 rfl) (by decide +kernel)
set_option maxRecDepth 100000 in
theorem wk_ok271 : wk_okm wk_mt wk_mw 271 wk_m271 = true := wk_okm_q [185, 191, 185, 185] "EvenSidesModel" rfl (wk_qall wk_q_Model_ok) (wk_alls_r wk_h_Model 111 rfl) (by decide +kernel)
set_option maxRecDepth 100000 in
theorem wk_ok272 : wk_okm wk_mt wk_mw 272 wk_m272 = true := wk_okm_q [186, 189, 175, 189, 175] "EvenSidesModel" rfl (wk_qall wk_q_Model_ok) (wk_alls_r wk_h_Model 112 rfl) (by decide +kernel)
set_option maxRecDepth 100000 in
theorem wk_ok273 : wk_okm wk_mt wk_mw 273 wk_m273 = true := wk_okm_q [186, 189] "EvenSidesModel" rfl (wk_qall wk_q_Model_ok) (wk_alls_r wk_h_Model 113 rfl) (by decide +kernel)
set_option maxRecDepth 100000 in
theorem wk_ok274 : wk_okm wk_mt wk_mw 274 wk_m274 = true := wk_okm_q [192, 71, 0, 82, 83, 83, 193, 71, 0, 182, 182, 3, 192, 193, 193, 193, 192, 193, 71, 192, 192] "EvenSidesModel" rfl (wk_qall wk_q_Model_ok) (wk_alls_r wk_h_Model 114 rfl) (by decide +kernel)
set_option maxRecDepth 100000 in
theorem wk_ok275 : wk_okm wk_mt wk_mw 275 wk_m275 = true := wk_okm_q [129, 109, 78, 53, 53, 3, 175, 175] "EvenSidesModel" rfl (wk_qall wk_q_Model_ok) (wk_alls_r wk_h_Model 115 rfl) (by decide +kernel)
