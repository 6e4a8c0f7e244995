/-! ===== the rows hold: methods 270 to 275 ===== -/
set_option maxRecDepth 100000 in
theorem wk_ok270 : wk_okm wk_mt wk_mw 270 wk_m270 = true := by decide +kernel
set_option maxRecDepth 100000 in
theorem wk_ok271 : wk_okm wk_mt wk_mw 271 wk_m271 = true := by decide +kernel
set_option maxRecDepth 100000 in
theorem wk_ok272 : wk_okm wk_mt wk_mw 272 wk_m272 = true := by decide +kernel
set_option maxRecDepth 100000 in
theorem wk_ok273 : wk_okm wk_mt wk_mw 273 wk_m273 = true := by decide +kernel
set_option maxRecDepth 100000 in
theorem wk_ok274 : wk_okm wk_mt wk_mw 274 wk_m274 = true := by decide +kernel
set_option maxRecDepth 100000 in
theorem wk_ok275 : wk_okm wk_mt wk_mw 275 wk_m275 = true := by decide +kernel
