/-! ===== the rows hold: methods 0 to 69 ===== -/
set_option maxRecDepth 100000 in
theorem wk_ok0 : wk_okm wk_mt wk_mw 0 wk_m0 = true := wq_m_ok rfl (by decide +kernel)
set_option maxRecDepth 100000 in
theorem wk_ok1 : wk_okm wk_mt wk_mw 1 wk_m1 = true := wq_m_ok rfl (by decide +kernel)
set_option maxRecDepth 100000 in
theorem wk_ok2 : wk_okm wk_mt wk_mw 2 wk_m2 = true := wq_m_ok rfl (by decide +kernel)
set_option maxRecDepth 100000 in
theorem wk_ok3 : wk_okm wk_mt wk_mw 3 wk_m3 = true := by decide +kernel
set_option maxRecDepth 100000 in
theorem wk_ok4 : wk_okm wk_mt wk_mw 4 wk_m4 = true := wq_m_ok rfl (by decide +kernel)
set_option maxRecDepth 100000 in
theorem wk_ok5 : wk_okm wk_mt wk_mw 5 wk_m5 = true := wq_m_ok rfl (by decide +kernel)
set_option maxRecDepth 100000 in
theorem wk_ok6 : wk_okm wk_mt wk_mw 6 wk_m6 = true := wq_m_ok rfl (by decide +kernel)
set_option maxRecDepth 100000 in
theorem wk_ok7 : wk_okm wk_mt wk_mw 7 wk_m7 = true := wq_m_ok rfl (by decide +kernel)
set_option maxRecDepth 100000 in
theorem wk_ok8 : wk_okm wk_mt wk_mw 8 wk_m8 = true := wq_m_ok rfl (by decide +kernel)
set_option maxRecDepth 100000 in
theorem wk_ok9 : wk_okm wk_mt wk_mw 9 wk_m9 = true := wq_m_ok rfl (by decide +kernel)
set_option maxRecDepth 100000 in
theorem wk_ok10 : wk_okm wk_mt wk_mw 10 wk_m10 = true := wq_m_ok rfl (by decide +kernel)
set_option maxRecDepth 100000 in
theorem wk_ok11 : wk_okm wk_mt wk_mw 11 wk_m11 = true := wq_m_ok rfl (by decide +kernel)
set_option maxRecDepth 100000 in
theorem wk_ok12 : wk_okm wk_mt wk_mw 12 wk_m12 = true := wq_m_ok rfl (by decide +kernel)
set_option maxRecDepth 100000 in
theorem wk_ok13 : wk_okm wk_mt wk_mw 13 wk_m13 = true := wq_m_ok rfl (by decide +kernel)
set_option maxRecDepth 100000 in
theorem wk_ok14 : wk_okm wk_mt wk_mw 14 wk_m14 = true := wq_m_ok rfl (by decide +kernel)
set_option maxRecDepth 100000 in
theorem wk_ok15 : wk_okm wk_mt wk_mw 15 wk_m15 = true := wq_m_ok rfl (by decide +kernel)
set_option maxRecDepth 100000 in
theorem wk_ok16 : wk_okm wk_mt wk_mw 16 wk_m16 = true := wq_m_ok rfl (by decide +kernel)
set_option maxRecDepth 100000 in
theorem wk_ok17 : wk_okm wk_mt wk_mw 17 wk_m17 = true := wq_m_ok rfl (by decide +kernel)
set_option maxRecDepth 100000 in
theorem wk_ok18 : wk_okm wk_mt wk_mw 18 wk_m18 = true := wq_m_ok rfl (by decide +kernel)
set_option maxRecDepth 100000 in
theorem wk_ok19 : wk_okm wk_mt wk_mw 19 wk_m19 = true := wq_m_ok rfl (by decide +kernel)
set_option maxRecDepth 100000 in
theorem wk_ok20 : wk_okm wk_mt wk_mw 20 wk_m20 = true := wq_m_ok rfl (by decide +kernel)
set_option maxRecDepth 100000 in
theorem wk_ok21 : wk_okm wk_mt wk_mw 21 wk_m21 = true := wq_m_ok rfl (by decide +kernel)
set_option maxRecDepth 100000 in
theorem wk_ok22 : wk_okm wk_mt wk_mw 22 wk_m22 = true := wq_m_ok rfl (by decide +kernel)
set_option maxRecDepth 100000 in
theorem wk_ok23 : wk_okm wk_mt wk_mw 23 wk_m23 = true := wq_m_ok rfl (by decide +kernel)
set_option maxRecDepth 100000 in
theorem wk_ok24 : wk_okm wk_mt wk_mw 24 wk_m24 = true := wq_m_ok rfl (by decide +kernel)
set_option maxRecDepth 100000 in
theorem wk_ok25 : wk_okm wk_mt wk_mw 25 wk_m25 = true := wq_m_ok rfl (by decide +kernel)
set_option maxRecDepth 100000 in
theorem wk_ok26 : wk_okm wk_mt wk_mw 26 wk_m26 = true := wq_m_ok rfl (by decide +kernel)
set_option maxRecDepth 100000 in
theorem wk_ok27 : wk_okm wk_mt wk_mw 27 wk_m27 = true := wq_m_ok rfl (by decide +kernel)
set_option maxRecDepth 100000 in
theorem wk_ok28 : wk_okm wk_mt wk_mw 28 wk_m28 = true := wq_m_ok rfl (by decide +kernel)
set_option maxRecDepth 100000 in
theorem wk_ok29 : wk_okm wk_mt wk_mw 29 wk_m29 = true := wq_m_ok rfl (by decide +kernel)
set_option maxRecDepth 100000 in
theorem wk_ok30 : wk_okm wk_mt wk_mw 30 wk_m30 = true := wq_m_ok rfl (by decide +kernel)
set_option maxRecDepth 100000 in
theorem wk_ok31 : wk_okm wk_mt wk_mw 31 wk_m31 = true := wq_m_ok rfl (by decide +kernel)
set_option maxRecDepth 100000 in
theorem wk_ok32 : wk_okm wk_mt wk_mw 32 wk_m32 = true := wq_m_ok rfl (by decide +kernel)
set_option maxRecDepth 100000 in
theorem wk_ok33 : wk_okm wk_mt wk_mw 33 wk_m33 = true := wq_m_ok rfl (by decide +kernel)
set_option maxRecDepth 100000 in
theorem wk_ok34 : wk_okm wk_mt wk_mw 34 wk_m34 = true := wq_m_ok rfl (by decide +kernel)
set_option maxRecDepth 100000 in
theorem wk_ok35 : wk_okm wk_mt wk_mw 35 wk_m35 = true := wq_m_ok rfl (by decide +kernel)
set_option maxRecDepth 100000 in
theorem wk_ok36 : wk_okm wk_mt wk_mw 36 wk_m36 = true := wq_m_ok rfl (by decide +kernel)
set_option maxRecDepth 100000 in
theorem wk_ok37 : wk_okm wk_mt wk_mw 37 wk_m37 = true := wq_m_ok rfl (by decide +kernel)
set_option maxRecDepth 100000 in
theorem wk_ok38 : wk_okm wk_mt wk_mw 38 wk_m38 = true := wq_m_ok rfl (by decide +kernel)
set_option maxRecDepth 100000 in
theorem wk_ok39 : wk_okm wk_mt wk_mw 39 wk_m39 = true := wq_m_ok rfl (by decide +kernel)
set_option maxRecDepth 100000 in
theorem wk_ok40 : wk_okm wk_mt wk_mw 40 wk_m40 = true := wq_m_ok rfl (by decide +kernel)
set_option maxRecDepth 100000 in
theorem wk_ok41 : wk_okm wk_mt wk_mw 41 wk_m41 = true := wq_m_ok rfl (by decide +kernel)
set_option maxRecDepth 100000 in
theorem wk_ok42 : wk_okm wk_mt wk_mw 42 wk_m42 = true := wq_m_ok rfl (by decide +kernel)
set_option maxRecDepth 100000 in
theorem wk_ok43 : wk_okm wk_mt wk_mw 43 wk_m43 = true := wq_m_ok rfl (by decide +kernel)
set_option maxRecDepth 100000 in
theorem wk_ok44 : wk_okm wk_mt wk_mw 44 wk_m44 = true := wq_m_ok rfl (by decide +kernel)
set_option maxRecDepth 100000 in
theorem wk_ok45 : wk_okm wk_mt wk_mw 45 wk_m45 = true := wq_m_ok rfl (by decide +kernel)
set_option maxRecDepth 100000 in
theorem wk_ok46 : wk_okm wk_mt wk_mw 46 wk_m46 = true := wq_m_ok rfl (by decide +kernel)
set_option maxRecDepth 100000 in
theorem wk_ok47 : wk_okm wk_mt wk_mw 47 wk_m47 = true := wq_m_ok rfl (by decide +kernel)
set_option maxRecDepth 100000 in
theorem wk_ok48 : wk_okm wk_mt wk_mw 48 wk_m48 = true := wq_m_ok rfl (by decide +kernel)
set_option maxRecDepth 100000 in
theorem wk_ok49 : wk_okm wk_mt wk_mw 49 wk_m49 = true := wq_m_ok rfl (by decide +kernel)
set_option maxRecDepth 100000 in
theorem wk_ok50 : wk_okm wk_mt wk_mw 50 wk_m50 = true := wq_m_ok rfl (by decide +kernel)
set_option maxRecDepth 100000 in
theorem wk_ok51 : wk_okm wk_mt wk_mw 51 wk_m51 = true := wq_m_ok rfl (by decide +kernel)
set_option maxRecDepth 100000 in
theorem wk_ok52 : wk_okm wk_mt wk_mw 52 wk_m52 = true := wq_m_ok rfl (by decide +kernel)
set_option maxRecDepth 100000 in
theorem wk_ok53 : wk_okm wk_mt wk_mw 53 wk_m53 = true := wq_m_ok rfl (by decide +kernel)
set_option maxRecDepth 100000 in
theorem wk_ok54 : wk_okm wk_mt wk_mw 54 wk_m54 = true := wq_m_ok rfl (by decide +kernel)
set_option maxRecDepth 100000 in
theorem wk_ok55 : wk_okm wk_mt wk_mw 55 wk_m55 = true := wq_m_ok rfl (by decide +kernel)
set_option maxRecDepth 100000 in
theorem wk_ok56 : wk_okm wk_mt wk_mw 56 wk_m56 = true := wq_m_ok rfl (by decide +kernel)
set_option maxRecDepth 100000 in
theorem wk_ok57 : wk_okm wk_mt wk_mw 57 wk_m57 = true := wq_m_ok rfl (by decide +kernel)
set_option maxRecDepth 100000 in
theorem wk_ok58 : wk_okm wk_mt wk_mw 58 wk_m58 = true := wq_m_ok rfl (by decide +kernel)
set_option maxRecDepth 100000 in
theorem wk_ok59 : wk_okm wk_mt wk_mw 59 wk_m59 = true := wq_m_ok rfl (by decide +kernel)
set_option maxRecDepth 100000 in
theorem wk_ok60 : wk_okm wk_mt wk_mw 60 wk_m60 = true := wq_m_ok rfl (by decide +kernel)
set_option maxRecDepth 100000 in
theorem wk_ok61 : wk_okm wk_mt wk_mw 61 wk_m61 = true := wq_m_ok rfl (by decide +kernel)
set_option maxRecDepth 100000 in
theorem wk_ok62 : wk_okm wk_mt wk_mw 62 wk_m62 = true := wq_m_ok rfl (by decide +kernel)
set_option maxRecDepth 100000 in
theorem wk_ok63 : wk_okm wk_mt wk_mw 63 wk_m63 = true := wq_m_ok rfl (by decide +kernel)
set_option maxRecDepth 100000 in
theorem wk_ok64 : wk_okm wk_mt wk_mw 64 wk_m64 = true := wq_m_ok rfl (by decide +kernel)
set_option maxRecDepth 100000 in
theorem wk_ok65 : wk_okm wk_mt wk_mw 65 wk_m65 = true := wq_m_ok rfl (by decide +kernel)
set_option maxRecDepth 100000 in
theorem wk_ok66 : wk_okm wk_mt wk_mw 66 wk_m66 = true := wq_m_ok rfl (by decide +kernel)
set_option maxRecDepth 100000 in
theorem wk_ok67 : wk_okm wk_mt wk_mw 67 wk_m67 = true := wq_m_ok rfl (by decide +kernel)
set_option maxRecDepth 100000 in
theorem wk_ok68 : wk_okm wk_mt wk_mw 68 wk_m68 = true := wq_m_ok rfl (by decide +kernel)
set_option maxRecDepth 100000 in
theorem wk_ok69 : wk_okm wk_mt wk_mw 69 wk_m69 = true := wq_m_ok rfl (by decide +kernel)
