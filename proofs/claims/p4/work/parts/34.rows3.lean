/-! ===== the rows hold: methods 90 to 119 ===== -/
set_option maxRecDepth 100000 in
theorem wk_ok90 : wk_okm wk_mt wk_mw 90 wk_m90 = true := by decide +kernel
set_option maxRecDepth 100000 in
theorem wk_ok91 : wk_okm wk_mt wk_mw 91 wk_m91 = true := by decide +kernel
set_option maxRecDepth 100000 in
theorem wk_ok92 : wk_okm wk_mt wk_mw 92 wk_m92 = true := by decide +kernel
set_option maxRecDepth 100000 in
theorem wk_ok93 : wk_okm wk_mt wk_mw 93 wk_m93 = true := by decide +kernel
set_option maxRecDepth 100000 in
theorem wk_ok94 : wk_okm wk_mt wk_mw 94 wk_m94 = true := by decide +kernel
set_option maxRecDepth 100000 in
theorem wk_ok95 : wk_okm wk_mt wk_mw 95 wk_m95 = true := by decide +kernel
set_option maxRecDepth 100000 in
theorem wk_ok96 : wk_okm wk_mt wk_mw 96 wk_m96 = true := by decide +kernel
set_option maxRecDepth 100000 in
theorem wk_ok97 : wk_okm wk_mt wk_mw 97 wk_m97 = true := by decide +kernel
set_option maxRecDepth 100000 in
theorem wk_ok98 : wk_okm wk_mt wk_mw 98 wk_m98 = true := by decide +kernel
set_option maxRecDepth 100000 in
theorem wk_ok99 : wk_okm wk_mt wk_mw 99 wk_m99 = true := by decide +kernel
set_option maxRecDepth 100000 in
theorem wk_ok100 : wk_okm wk_mt wk_mw 100 wk_m100 = true := by decide +kernel
set_option maxRecDepth 100000 in
theorem wk_ok101 : wk_okm wk_mt wk_mw 101 wk_m101 = true := by decide +kernel
set_option maxRecDepth 100000 in
theorem wk_ok102 : wk_okm wk_mt wk_mw 102 wk_m102 = true := by decide +kernel
set_option maxRecDepth 100000 in
theorem wk_ok103 : wk_okm wk_mt wk_mw 103 wk_m103 = true := by decide +kernel
set_option maxRecDepth 100000 in
theorem wk_ok104 : wk_okm wk_mt wk_mw 104 wk_m104 = true := by decide +kernel
set_option maxRecDepth 100000 in
theorem wk_ok105 : wk_okm wk_mt wk_mw 105 wk_m105 = true := by decide +kernel
set_option maxRecDepth 100000 in
theorem wk_ok106 : wk_okm wk_mt wk_mw 106 wk_m106 = true := by decide +kernel
set_option maxRecDepth 100000 in
theorem wk_ok107 : wk_okm wk_mt wk_mw 107 wk_m107 = true := by decide +kernel
set_option maxRecDepth 100000 in
theorem wk_ok108 : wk_okm wk_mt wk_mw 108 wk_m108 = true := by decide +kernel
set_option maxRecDepth 100000 in
theorem wk_ok109 : wk_okm wk_mt wk_mw 109 wk_m109 = true := by decide +kernel
set_option maxRecDepth 100000 in
theorem wk_ok110 : wk_okm wk_mt wk_mw 110 wk_m110 = true := by decide +kernel
set_option maxRecDepth 100000 in
theorem wk_ok111 : wk_okm wk_mt wk_mw 111 wk_m111 = true := by decide +kernel
set_option maxRecDepth 100000 in
theorem wk_ok112 : wk_okm wk_mt wk_mw 112 wk_m112 = true := by decide +kernel
set_option maxRecDepth 100000 in
theorem wk_ok113 : wk_okm wk_mt wk_mw 113 wk_m113 = true := by decide +kernel
set_option maxRecDepth 100000 in
theorem wk_ok114 : wk_okm wk_mt wk_mw 114 wk_m114 = true := by decide +kernel
set_option maxRecDepth 100000 in
theorem wk_ok115 : wk_okm wk_mt wk_mw 115 wk_m115 = true := by decide +kernel
set_option maxRecDepth 100000 in
theorem wk_ok116 : wk_okm wk_mt wk_mw 116 wk_m116 = true := by decide +kernel
set_option maxRecDepth 100000 in
theorem wk_ok117 : wk_okm wk_mt wk_mw 117 wk_m117 = true := by decide +kernel
set_option maxRecDepth 100000 in
theorem wk_ok118 : wk_okm wk_mt wk_mw 118 wk_m118 = true := by decide +kernel
set_option maxRecDepth 100000 in
theorem wk_ok119 : wk_okm wk_mt wk_mw 119 wk_m119 = true := by decide +kernel
