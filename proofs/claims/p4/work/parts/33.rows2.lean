/-! ===== the rows hold: methods 60 to 89 ===== -/
set_option maxRecDepth 100000 in
theorem wk_ok60 : wk_okm wk_mt wk_mw 60 wk_m60 = true := by decide +kernel
set_option maxRecDepth 100000 in
theorem wk_ok61 : wk_okm wk_mt wk_mw 61 wk_m61 = true := by decide +kernel
set_option maxRecDepth 100000 in
theorem wk_ok62 : wk_okm wk_mt wk_mw 62 wk_m62 = true := by decide +kernel
set_option maxRecDepth 100000 in
theorem wk_ok63 : wk_okm wk_mt wk_mw 63 wk_m63 = true := by decide +kernel
set_option maxRecDepth 100000 in
theorem wk_ok64 : wk_okm wk_mt wk_mw 64 wk_m64 = true := by decide +kernel
set_option maxRecDepth 100000 in
theorem wk_ok65 : wk_okm wk_mt wk_mw 65 wk_m65 = true := by decide +kernel
set_option maxRecDepth 100000 in
theorem wk_ok66 : wk_okm wk_mt wk_mw 66 wk_m66 = true := by decide +kernel
set_option maxRecDepth 100000 in
theorem wk_ok67 : wk_okm wk_mt wk_mw 67 wk_m67 = true := by decide +kernel
set_option maxRecDepth 100000 in
theorem wk_ok68 : wk_okm wk_mt wk_mw 68 wk_m68 = true := by decide +kernel
set_option maxRecDepth 100000 in
theorem wk_ok69 : wk_okm wk_mt wk_mw 69 wk_m69 = true := by decide +kernel
set_option maxRecDepth 100000 in
theorem wk_ok70 : wk_okm wk_mt wk_mw 70 wk_m70 = true := by decide +kernel
set_option maxRecDepth 100000 in
theorem wk_ok71 : wk_okm wk_mt wk_mw 71 wk_m71 = true := by decide +kernel
set_option maxRecDepth 100000 in
theorem wk_ok72 : wk_okm wk_mt wk_mw 72 wk_m72 = true := by decide +kernel
set_option maxRecDepth 100000 in
theorem wk_ok73 : wk_okm wk_mt wk_mw 73 wk_m73 = true := by decide +kernel
set_option maxRecDepth 100000 in
theorem wk_ok74 : wk_okm wk_mt wk_mw 74 wk_m74 = true := by decide +kernel
set_option maxRecDepth 100000 in
theorem wk_ok75 : wk_okm wk_mt wk_mw 75 wk_m75 = true := by decide +kernel
set_option maxRecDepth 100000 in
theorem wk_ok76 : wk_okm wk_mt wk_mw 76 wk_m76 = true := by decide +kernel
set_option maxRecDepth 100000 in
theorem wk_ok77 : wk_okm wk_mt wk_mw 77 wk_m77 = true := by decide +kernel
set_option maxRecDepth 100000 in
theorem wk_ok78 : wk_okm wk_mt wk_mw 78 wk_m78 = true := by decide +kernel
set_option maxRecDepth 100000 in
theorem wk_ok79 : wk_okm wk_mt wk_mw 79 wk_m79 = true := by decide +kernel
set_option maxRecDepth 100000 in
theorem wk_ok80 : wk_okm wk_mt wk_mw 80 wk_m80 = true := by decide +kernel
set_option maxRecDepth 100000 in
theorem wk_ok81 : wk_okm wk_mt wk_mw 81 wk_m81 = true := by decide +kernel
set_option maxRecDepth 100000 in
theorem wk_ok82 : wk_okm wk_mt wk_mw 82 wk_m82 = true := by decide +kernel
set_option maxRecDepth 100000 in
theorem wk_ok83 : wk_okm wk_mt wk_mw 83 wk_m83 = true := by decide +kernel
set_option maxRecDepth 100000 in
theorem wk_ok84 : wk_okm wk_mt wk_mw 84 wk_m84 = true := by decide +kernel
set_option maxRecDepth 100000 in
theorem wk_ok85 : wk_okm wk_mt wk_mw 85 wk_m85 = true := by decide +kernel
set_option maxRecDepth 100000 in
theorem wk_ok86 : wk_okm wk_mt wk_mw 86 wk_m86 = true := by decide +kernel
set_option maxRecDepth 100000 in
theorem wk_ok87 : wk_okm wk_mt wk_mw 87 wk_m87 = true := by decide +kernel
set_option maxRecDepth 100000 in
theorem wk_ok88 : wk_okm wk_mt wk_mw 88 wk_m88 = true := by decide +kernel
set_option maxRecDepth 100000 in
theorem wk_ok89 : wk_okm wk_mt wk_mw 89 wk_m89 = true := by decide +kernel
