/-! ===== the rows hold: methods 0 to 29 ===== -/
set_option maxRecDepth 100000 in
theorem wk_ok0 : wk_okm wk_mt wk_mw 0 wk_m0 = true := by decide +kernel
set_option maxRecDepth 100000 in
theorem wk_ok1 : wk_okm wk_mt wk_mw 1 wk_m1 = true := by decide +kernel
set_option maxRecDepth 100000 in
theorem wk_ok2 : wk_okm wk_mt wk_mw 2 wk_m2 = true := by decide +kernel
set_option maxRecDepth 100000 in
theorem wk_ok3 : wk_okm wk_mt wk_mw 3 wk_m3 = true := by decide +kernel
set_option maxRecDepth 100000 in
theorem wk_ok4 : wk_okm wk_mt wk_mw 4 wk_m4 = true := by decide +kernel
set_option maxRecDepth 100000 in
theorem wk_ok5 : wk_okm wk_mt wk_mw 5 wk_m5 = true := by decide +kernel
set_option maxRecDepth 100000 in
theorem wk_ok6 : wk_okm wk_mt wk_mw 6 wk_m6 = true := by decide +kernel
set_option maxRecDepth 100000 in
theorem wk_ok7 : wk_okm wk_mt wk_mw 7 wk_m7 = true := by decide +kernel
set_option maxRecDepth 100000 in
theorem wk_ok8 : wk_okm wk_mt wk_mw 8 wk_m8 = true := by decide +kernel
set_option maxRecDepth 100000 in
theorem wk_ok9 : wk_okm wk_mt wk_mw 9 wk_m9 = true := by decide +kernel
set_option maxRecDepth 100000 in
theorem wk_ok10 : wk_okm wk_mt wk_mw 10 wk_m10 = true := by decide +kernel
set_option maxRecDepth 100000 in
theorem wk_ok11 : wk_okm wk_mt wk_mw 11 wk_m11 = true := by decide +kernel
set_option maxRecDepth 100000 in
theorem wk_ok12 : wk_okm wk_mt wk_mw 12 wk_m12 = true := by decide +kernel
set_option maxRecDepth 100000 in
theorem wk_ok13 : wk_okm wk_mt wk_mw 13 wk_m13 = true := by decide +kernel
set_option maxRecDepth 100000 in
theorem wk_ok14 : wk_okm wk_mt wk_mw 14 wk_m14 = true := by decide +kernel
set_option maxRecDepth 100000 in
theorem wk_ok15 : wk_okm wk_mt wk_mw 15 wk_m15 = true := by decide +kernel
set_option maxRecDepth 100000 in
theorem wk_ok16 : wk_okm wk_mt wk_mw 16 wk_m16 = true := by decide +kernel
set_option maxRecDepth 100000 in
theorem wk_ok17 : wk_okm wk_mt wk_mw 17 wk_m17 = true := by decide +kernel
set_option maxRecDepth 100000 in
theorem wk_ok18 : wk_okm wk_mt wk_mw 18 wk_m18 = true := by decide +kernel
set_option maxRecDepth 100000 in
theorem wk_ok19 : wk_okm wk_mt wk_mw 19 wk_m19 = true := by decide +kernel
set_option maxRecDepth 100000 in
theorem wk_ok20 : wk_okm wk_mt wk_mw 20 wk_m20 = true := by decide +kernel
set_option maxRecDepth 100000 in
theorem wk_ok21 : wk_okm wk_mt wk_mw 21 wk_m21 = true := by decide +kernel
set_option maxRecDepth 100000 in
theorem wk_ok22 : wk_okm wk_mt wk_mw 22 wk_m22 = true := by decide +kernel
set_option maxRecDepth 100000 in
theorem wk_ok23 : wk_okm wk_mt wk_mw 23 wk_m23 = true := by decide +kernel
set_option maxRecDepth 100000 in
theorem wk_ok24 : wk_okm wk_mt wk_mw 24 wk_m24 = true := by decide +kernel
set_option maxRecDepth 100000 in
theorem wk_ok25 : wk_okm wk_mt wk_mw 25 wk_m25 = true := by decide +kernel
set_option maxRecDepth 100000 in
theorem wk_ok26 : wk_okm wk_mt wk_mw 26 wk_m26 = true := by decide +kernel
set_option maxRecDepth 100000 in
theorem wk_ok27 : wk_okm wk_mt wk_mw 27 wk_m27 = true := by decide +kernel
set_option maxRecDepth 100000 in
theorem wk_ok28 : wk_okm wk_mt wk_mw 28 wk_m28 = true := by decide +kernel
set_option maxRecDepth 100000 in
theorem wk_ok29 : wk_okm wk_mt wk_mw 29 wk_m29 = true := by decide +kernel
