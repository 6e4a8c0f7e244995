/-! ===== the rows hold: methods 30 to 59 ===== -/
set_option maxRecDepth 100000 in
theorem wk_ok30 : wk_okm wk_mt wk_mw 30 wk_m30 = true := by decide +kernel
set_option maxRecDepth 100000 in
theorem wk_ok31 : wk_okm wk_mt wk_mw 31 wk_m31 = true := by decide +kernel
set_option maxRecDepth 100000 in
theorem wk_ok32 : wk_okm wk_mt wk_mw 32 wk_m32 = true := by decide +kernel
set_option maxRecDepth 100000 in
theorem wk_ok33 : wk_okm wk_mt wk_mw 33 wk_m33 = true := by decide +kernel
set_option maxRecDepth 100000 in
theorem wk_ok34 : wk_okm wk_mt wk_mw 34 wk_m34 = true := by decide +kernel
set_option maxRecDepth 100000 in
theorem wk_ok35 : wk_okm wk_mt wk_mw 35 wk_m35 = true := by decide +kernel
set_option maxRecDepth 100000 in
theorem wk_ok36 : wk_okm wk_mt wk_mw 36 wk_m36 = true := by decide +kernel
set_option maxRecDepth 100000 in
theorem wk_ok37 : wk_okm wk_mt wk_mw 37 wk_m37 = true := by decide +kernel
set_option maxRecDepth 100000 in
theorem wk_ok38 : wk_okm wk_mt wk_mw 38 wk_m38 = true := by decide +kernel
set_option maxRecDepth 100000 in
theorem wk_ok39 : wk_okm wk_mt wk_mw 39 wk_m39 = true := by decide +kernel
set_option maxRecDepth 100000 in
theorem wk_ok40 : wk_okm wk_mt wk_mw 40 wk_m40 = true := by decide +kernel
set_option maxRecDepth 100000 in
theorem wk_ok41 : wk_okm wk_mt wk_mw 41 wk_m41 = true := by decide +kernel
set_option maxRecDepth 100000 in
theorem wk_ok42 : wk_okm wk_mt wk_mw 42 wk_m42 = true := by decide +kernel
set_option maxRecDepth 100000 in
theorem wk_ok43 : wk_okm wk_mt wk_mw 43 wk_m43 = true := by decide +kernel
set_option maxRecDepth 100000 in
theorem wk_ok44 : wk_okm wk_mt wk_mw 44 wk_m44 = true := by decide +kernel
set_option maxRecDepth 100000 in
theorem wk_ok45 : wk_okm wk_mt wk_mw 45 wk_m45 = true := by decide +kernel
set_option maxRecDepth 100000 in
theorem wk_ok46 : wk_okm wk_mt wk_mw 46 wk_m46 = true := by decide +kernel
set_option maxRecDepth 100000 in
theorem wk_ok47 : wk_okm wk_mt wk_mw 47 wk_m47 = true := by decide +kernel
set_option maxRecDepth 100000 in
theorem wk_ok48 : wk_okm wk_mt wk_mw 48 wk_m48 = true := by decide +kernel
set_option maxRecDepth 100000 in
theorem wk_ok49 : wk_okm wk_mt wk_mw 49 wk_m49 = true := by decide +kernel
set_option maxRecDepth 100000 in
theorem wk_ok50 : wk_okm wk_mt wk_mw 50 wk_m50 = true := by decide +kernel
set_option maxRecDepth 100000 in
theorem wk_ok51 : wk_okm wk_mt wk_mw 51 wk_m51 = true := by decide +kernel
set_option maxRecDepth 100000 in
theorem wk_ok52 : wk_okm wk_mt wk_mw 52 wk_m52 = true := by decide +kernel
set_option maxRecDepth 100000 in
theorem wk_ok53 : wk_okm wk_mt wk_mw 53 wk_m53 = true := by decide +kernel
set_option maxRecDepth 100000 in
theorem wk_ok54 : wk_okm wk_mt wk_mw 54 wk_m54 = true := by decide +kernel
set_option maxRecDepth 100000 in
theorem wk_ok55 : wk_okm wk_mt wk_mw 55 wk_m55 = true := by decide +kernel
set_option maxRecDepth 100000 in
theorem wk_ok56 : wk_okm wk_mt wk_mw 56 wk_m56 = true := by decide +kernel
set_option maxRecDepth 100000 in
theorem wk_ok57 : wk_okm wk_mt wk_mw 57 wk_m57 = true := by decide +kernel
set_option maxRecDepth 100000 in
theorem wk_ok58 : wk_okm wk_mt wk_mw 58 wk_m58 = true := by decide +kernel
set_option maxRecDepth 100000 in
theorem wk_ok59 : wk_okm wk_mt wk_mw 59 wk_m59 = true := by decide +kernel
