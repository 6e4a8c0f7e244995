/-! ===== the rows hold: methods 30 to 59 ===== -/
set_option maxRecDepth 100000 in
theorem wk_ok30 : wk_okm wk_mt wk_mw 30 wk_m30 = true := wk_okm_q [1, 6, 3, 4] "EvenSidesModel" rfl (wk_qall wk_q_Model_ok) (wk_alls_r wk_h_Model 7 rfl) (by decide +kernel)
set_option maxRecDepth 100000 in
theorem wk_ok31 : wk_okm wk_mt wk_mw 31 wk_m31 = true := wk_okm_q [0, 0] "EvenSidesModel" rfl (wk_qall wk_q_Model_ok) (wk_alls_r wk_h_Model 8 rfl) (by decide +kernel)
set_option maxRecDepth 100000 in
theorem wk_ok32 : wk_okm wk_mt wk_mw 32 wk_m32 = true := wk_okm_q [0, 5] "EvenSides" rfl (wk_qall wk_q_Top_ok) (wk_alls_r wk_h_Top 5 rfl) (by decide +kernel)
set_option maxRecDepth 100000 in
theorem wk_ok33 : wk_okm wk_mt wk_mw 33 wk_m33 = true := wk_okm_q [10, 10, 10, 12, 13, 12, 12, 1, 12] "EvenSides$Told" rfl (wk_qall wk_q_Told_ok) (wk_alls_r wk_h_Told 7 rfl) (by decide +kernel)
set_option maxRecDepth 100000 in
theorem wk_ok34 : wk_okm wk_mt wk_mw 34 wk_m34 = true := wk_okm_q [7, 3, 2, 3, 2, 3, 0, 0, 0, 0, 0, 0, 0, 0, 0] "EvenSidesModel" rfl (wk_qall wk_q_Model_ok) (wk_alls_r wk_h_Model 9 rfl) (by decide +kernel)
set_option maxRecDepth 100000 in
theorem wk_ok35 : wk_okm wk_mt wk_mw 35 wk_m35 = true := wk_okm_q [0, 6] "EvenSides" rfl (wk_qall wk_q_Top_ok) (wk_alls_r wk_h_Top 6 rfl) (by decide +kernel)
set_option maxRecDepth 100000 in
theorem wk_ok36 : wk_okm wk_mt wk_mw 36 wk_m36 = true := wk_okm_q [14, 10, 13, 13] "EvenSides$Told" rfl (wk_qall wk_q_Told_ok) (wk_alls_r wk_h_Told 8 rfl) (by decide +kernel)
set_option maxRecDepth 100000 in
theorem wk_ok37 : wk_okm wk_mt wk_mw 37 wk_m37 = true := wk_okm_q [15, 10] "EvenSides$Told" rfl (wk_qall wk_q_Told_ok) (wk_alls_r wk_h_Told 9 rfl) (by decide +kernel)
set_option maxRecDepth 100000 in
theorem wk_ok38 : wk_okm wk_mt wk_mw 38 wk_m38 = true := wk_okm_q [12, 10] "EvenSides$Told" rfl (wk_qall wk_q_Told_ok) (wk_alls_r wk_h_Told 10 rfl) (by decide +kernel)
set_option maxRecDepth 100000 in
theorem wk_ok39 : wk_okm wk_mt wk_mw 39 wk_m39 = true := wk_okm_q [8, 9, 7, 3, 4] "EvenSidesModel" rfl (wk_qall wk_q_Model_ok) (wk_alls_r wk_h_Model 10 rfl) (by decide +kernel)
set_option maxRecDepth 100000 in
theorem wk_ok40 : wk_okm wk_mt wk_mw 40 wk_m40 = true := wk_okm_q [0, 3] "EvenSidesModel" rfl (wk_qall wk_q_Model_ok) (wk_alls_r wk_h_Model 11 rfl) (by decide +kernel)
set_option maxRecDepth 100000 in
theorem wk_ok41 : wk_okm wk_mt wk_mw 41 wk_m41 = true := wk_okm_q [0, 7] "EvenSides" rfl (wk_qall wk_q_Top_ok) (wk_alls_r wk_h_Top 7 rfl) (by decide +kernel)
set_option maxRecDepth 100000 in
theorem wk_ok42 : wk_okm wk_mt wk_mw 42 wk_m42 = true := wk_okm_q [10, 10, 9, 9, 16, 17, 16, 16, 2, 16] "EvenSides$Told" rfl (wk_qall wk_q_Told_ok) (wk_alls_r wk_h_Told 11 rfl) (by decide +kernel)
set_option maxRecDepth 100000 in
theorem wk_ok43 : wk_okm wk_mt wk_mw 43 wk_m43 = true := wk_okm_q [2, 3, 3, 1, 1, 0, 0, 0, 0, 0, 0, 0, 0, 0, 0, 0] "EvenSidesModel" rfl (wk_qall wk_q_Model_ok) (wk_alls_r wk_h_Model 12 rfl) (by decide +kernel)
set_option maxRecDepth 100000 in
theorem wk_ok44 : wk_okm wk_mt wk_mw 44 wk_m44 = true := wk_okm_q [0, 8] "EvenSides" rfl (wk_qall wk_q_Top_ok) (wk_alls_r wk_h_Top 8 rfl) (by decide +kernel)
set_option maxRecDepth 100000 in
theorem wk_ok45 : wk_okm wk_mt wk_mw 45 wk_m45 = true := wk_okm_q [18, 10, 17, 17] "EvenSides$Told" rfl (wk_qall wk_q_Told_ok) (wk_alls_r wk_h_Told 12 rfl) (by decide +kernel)
set_option maxRecDepth 100000 in
theorem wk_ok46 : wk_okm wk_mt wk_mw 46 wk_m46 = true := wk_okm_q [16, 10] "EvenSides$Told" rfl (wk_qall wk_q_Told_ok) (wk_alls_r wk_h_Told 13 rfl) (by decide +kernel)
set_option maxRecDepth 100000 in
theorem wk_ok47 : wk_okm wk_mt wk_mw 47 wk_m47 = true := wk_okm_q [10, 11, 3, 4] "EvenSidesModel" rfl (wk_qall wk_q_Model_ok) (wk_alls_r wk_h_Model 13 rfl) (by decide +kernel)
set_option maxRecDepth 100000 in
theorem wk_ok48 : wk_okm wk_mt wk_mw 48 wk_m48 = true := wk_okm_q [0, 3] "EvenSidesModel" rfl (wk_qall wk_q_Model_ok) (wk_alls_r wk_h_Model 14 rfl) (by decide +kernel)
set_option maxRecDepth 100000 in
theorem wk_ok49 : wk_okm wk_mt wk_mw 49 wk_m49 = true := wk_okm_q [0, 8] "EvenSides" rfl (wk_qall wk_q_Top_ok) (wk_alls_r wk_h_Top 9 rfl) (by decide +kernel)
set_option maxRecDepth 100000 in
theorem wk_ok50 : wk_okm wk_mt wk_mw 50 wk_m50 = true := wk_okm_q [10, 6, 3, 4] "EvenSidesModel" rfl (wk_qall wk_q_Model_ok) (wk_alls_r wk_h_Model 15 rfl) (by decide +kernel)
set_option maxRecDepth 100000 in
theorem wk_ok51 : wk_okm wk_mt wk_mw 51 wk_m51 = true := wk_okm_q [0, 9] "EvenSides" rfl (wk_qall wk_q_Top_ok) (wk_alls_r wk_h_Top 10 rfl) (by decide +kernel)
set_option maxRecDepth 100000 in
theorem wk_ok52 : wk_okm wk_mt wk_mw 52 wk_m52 = true := wk_okm_q [10, 10, 19, 19] "EvenSides$Told" rfl (wk_qall wk_q_Told_ok) (wk_alls_r wk_h_Told 14 rfl) (by decide +kernel)
set_option maxRecDepth 100000 in
theorem wk_ok53 : wk_okm wk_mt wk_mw 53 wk_m53 = true := wk_okm_q [12, 3, 4, 6, 3, 4] "EvenSidesModel" rfl (wk_qall wk_q_Model_ok) (wk_alls_r wk_h_Model 16 rfl) (by decide +kernel)
set_option maxRecDepth 100000 in
theorem wk_ok54 : wk_okm wk_mt wk_mw 54 wk_m54 = true := wk_okm_q [0, 10] "EvenSides" rfl (wk_qall wk_q_Top_ok) (wk_alls_r wk_h_Top 11 rfl) (by decide +kernel)
set_option maxRecDepth 100000 in
theorem wk_ok55 : wk_okm wk_mt wk_mw 55 wk_m55 = true := wk_okm_q [10, 10, 20, 21, 20, 20, 20] "EvenSides$Told" rfl (wk_qall wk_q_Told_ok) (wk_alls_r wk_h_Told 15 rfl) (by decide +kernel)
set_option maxRecDepth 100000 in
theorem wk_ok56 : wk_okm wk_mt wk_mw 56 wk_m56 = true := wk_okm_q [13, 14, 3, 0, 0, 0, 15, 0, 0] "EvenSidesModel" rfl (wk_qall wk_q_Model_ok) (wk_alls_r wk_h_Model 17 rfl) (by decide +kernel)
set_option maxRecDepth 100000 in
theorem wk_ok57 : wk_okm wk_mt wk_mw 57 wk_m57 = true := wk_okm_q [3] "EvenSidesModel" rfl (wk_qall wk_q_Model_ok) (wk_alls_r wk_h_Model 18 rfl) (by decide +kernel)
set_option maxRecDepth 100000 in
theorem wk_ok58 : wk_okm wk_mt wk_mw 58 wk_m58 = true := wk_okm_q [11, 0, 12, 0, 12] "EvenSides" rfl (wk_qall wk_q_Top_ok) (wk_alls_r wk_h_Top 12 rfl) (by decide +kernel)
set_option maxRecDepth 100000 in
theorem wk_ok59 : wk_okm wk_mt wk_mw 59 wk_m59 = true := wk_okm_q [13, 4] "EvenSidesModel" rfl (wk_qall wk_q_Model_ok) (wk_alls_r wk_h_Model 19 rfl) (by decide +kernel)
