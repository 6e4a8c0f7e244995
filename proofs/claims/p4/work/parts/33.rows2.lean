/-! ===== the rows hold: methods 60 to 89 ===== -/
set_option maxRecDepth 100000 in
theorem wk_ok60 : wk_okm wk_mt wk_mw 60 wk_m60 = true := wk_okm_q [11, 13, 14] "EvenSides" rfl (wk_qall wk_q_Top_ok) (wk_alls_r wk_h_Top 13 rfl) (by decide +kernel)
set_option maxRecDepth 100000 in
theorem wk_ok61 : wk_okm wk_mt wk_mw 61 wk_m61 = true := wk_okm_q [0, 1, 2, 0, 3, 4, 5, 6, 7, 8, 9] "EvenSides$Reader" rfl (wk_qall wk_q_Reader_ok) (wk_alls_r wk_h_Reader 0 rfl) (by decide +kernel)
set_option maxRecDepth 100000 in
theorem wk_ok62 : wk_okm wk_mt wk_mw 62 wk_m62 = true := wk_okm_q [10, 11, 12, 10, 10, 5, 10, 13, 10, 11, 14, 12, 10, 15, 14, 10, 11, 12, 10, 15, 10, 5, 12, 10, 16, 10, 11, 12, 10, 16, 10, 5, 10, 17, 14, 12, 10, 14, 10, 5] "EvenSides$Reader" rfl (wk_qall wk_q_Reader_ok) (wk_alls_r wk_h_Reader 1 rfl) (by decide +kernel)
set_option maxRecDepth 100000 in
theorem wk_ok63 : wk_okm wk_mt wk_mw 63 wk_m63 = true := wk_okm_q [13, 16, 17] "EvenSidesModel" rfl (wk_qall wk_q_Model_ok) (wk_alls_r wk_h_Model 20 rfl) (by decide +kernel)
set_option maxRecDepth 100000 in
theorem wk_ok64 : wk_okm wk_mt wk_mw 64 wk_m64 = true := wk_okm_q [18, 19, 20, 21, 22, 22, 23, 24, 3, 12, 25, 3, 21, 26, 22, 22, 22, 27, 28, 22, 29, 21, 22, 30, 28, 28, 20, 21] "EvenSidesModel" rfl (wk_qall wk_q_Model_ok) (wk_alls_r wk_h_Model 21 rfl) (by decide +kernel)
set_option maxRecDepth 100000 in
theorem wk_ok65 : wk_okm wk_mt wk_mw 65 wk_m65 = true := wk_okm_q [31, 32, 19, 32, 33, 32, 0, 34, 35, 31, 31, 32, 17, 36, 32, 37, 38, 32, 19, 32, 17, 39, 35, 31, 40, 31, 32, 17, 29, 32, 37, 29, 40, 32, 19, 32, 17, 35, 31, 35, 32, 19] "EvenSidesModel" rfl (wk_qall wk_q_Model_ok) (wk_alls_r wk_h_Model 22 rfl) (by decide +kernel)
set_option maxRecDepth 100000 in
theorem wk_ok66 : wk_okm wk_mt wk_mw 66 wk_m66 = true := wk_okm_q [32, 0, 34, 0, 34, 32, 3] "EvenSidesModel" rfl (wk_qall wk_q_Model_ok) (wk_alls_r wk_h_Model 23 rfl) (by decide +kernel)
set_option maxRecDepth 100000 in
theorem wk_ok67 : wk_okm wk_mt wk_mw 67 wk_m67 = true := wk_okm_q [13, 14, 15, 0, 16, 0, 17, 13, 18, 0, 13, 19, 13, 20, 21, 0, 15, 16, 13, 18] "EvenSides" rfl (wk_qall wk_q_Top_ok) (wk_alls_r wk_h_Top 14 rfl) (by decide +kernel)
set_option maxRecDepth 100000 in
theorem wk_ok68 : wk_okm wk_mt wk_mw 68 wk_m68 = true := wk_okm_q [8, 0, 12, 1, 16, 2, 22, 3, 4, 4, 23, 6, 6, 24, 7, 7, 24, 13, 13, 23, 17, 17, 23, 19, 19, 24, 25, 25, 24, 21, 21, 23, 20, 20, 24] "EvenSides$Told" rfl (wk_qall wk_q_Told_ok) (wk_alls_r wk_h_Told 16 rfl) (by decide +kernel)
set_option maxRecDepth 100000 in
theorem wk_ok69 : wk_okm wk_mt wk_mw 69 wk_m69 = true := wk_okm_q [24] "EvenSides$Told" rfl (wk_qall wk_q_Told_ok) (wk_alls_r wk_h_Told 17 rfl) (by decide +kernel)
set_option maxRecDepth 100000 in
theorem wk_ok70 : wk_okm wk_mt wk_mw 70 wk_m70 = true := wk_okm_q [26, 27] "EvenSides$Told" rfl (wk_qall wk_q_Told_ok) (wk_alls_r wk_h_Told 18 rfl) (by decide +kernel)
set_option maxRecDepth 100000 in
theorem wk_ok71 : wk_okm wk_mt wk_mw 71 wk_m71 = true := wk_okm_q [16, 17, 41, 0, 42, 28, 43, 0, 41, 28] "EvenSidesModel" rfl (wk_qall wk_q_Model_ok) (wk_alls_r wk_h_Model 24 rfl) (by decide +kernel)
set_option maxRecDepth 100000 in
theorem wk_ok72 : wk_okm wk_mt wk_mw 72 wk_m72 = true := wk_okm_q [11, 22, 23, 22, 24, 22, 25, 22, 26, 22, 27, 22, 28, 22, 29] "EvenSides" rfl (wk_qall wk_q_Top_ok) (wk_alls_r wk_h_Top 15 rfl) (by decide +kernel)
set_option maxRecDepth 100000 in
theorem wk_ok73 : wk_okm wk_mt wk_mw 73 wk_m73 = true := wk_okm_q [0, 1, 2, 0, 3, 4, 0, 5, 0, 6, 7, 8, 4, 9, 10, 0, 5, 11, 12, 13, 14] "EvenSides$Acts" rfl (wk_qall wk_q_Acts_ok) (wk_alls_r wk_h_Acts 0 rfl) (by decide +kernel)
set_option maxRecDepth 100000 in
theorem wk_ok74 : wk_okm wk_mt wk_mw 74 wk_m74 = true := wk_okm_q [10, 8, 15, 14, 16, 17, 12, 18, 19, 12, 20, 21, 12, 22, 23, 24, 25, 26, 27, 26, 28, 26] "EvenSides$Acts" rfl (wk_qall wk_q_Acts_ok) (wk_alls_r wk_h_Acts 1 rfl) (by decide +kernel)
set_option maxRecDepth 100000 in
theorem wk_ok75 : wk_okm wk_mt wk_mw 75 wk_m75 = true := wk_okm_q [12, 18, 29, 12, 30, 31] "EvenSides$Acts" rfl (wk_qall wk_q_Acts_ok) (wk_alls_r wk_h_Acts 2 rfl) (by decide +kernel)
set_option maxRecDepth 100000 in
theorem wk_ok76 : wk_okm wk_mt wk_mw 76 wk_m76 = true := wk_okm_q [12, 18, 19, 12, 20] "EvenSides$Acts" rfl (wk_qall wk_q_Acts_ok) (wk_alls_r wk_h_Acts 3 rfl) (by decide +kernel)
set_option maxRecDepth 100000 in
theorem wk_ok77 : wk_okm wk_mt wk_mw 77 wk_m77 = true := wk_okm_q [44, 3, 45, 46, 47, 48, 49, 50, 51] "EvenSidesModel" rfl (wk_qall wk_q_Model_ok) (wk_alls_r wk_h_Model 25 rfl) (by decide +kernel)
set_option maxRecDepth 100000 in
theorem wk_ok78 : wk_okm wk_mt wk_mw 78 wk_m78 = true := wk_okm_q [16, 0, 52, 53, 54, 55, 56, 0, 57, 58, 59, 60, 61, 62, 63, 46, 28, 47, 46, 64, 63, 49, 47, 30, 46, 0, 61, 46, 47, 62] "EvenSidesModel" rfl (wk_qall wk_q_Model_ok) (wk_alls_r wk_h_Model 26 rfl) (by decide +kernel)
set_option maxRecDepth 100000 in
theorem wk_ok79 : wk_okm wk_mt wk_mw 79 wk_m79 = true := wk_okm_q [0, 52, 53] "EvenSidesModel" rfl (wk_qall wk_q_Model_ok) (wk_alls_r wk_h_Model 27 rfl) (by decide +kernel)
set_option maxRecDepth 100000 in
theorem wk_ok80 : wk_okm wk_mt wk_mw 80 wk_m80 = true := wk_okm_q [0, 30, 11, 22, 23, 22, 31, 22, 32, 22, 33, 22, 34] "EvenSides" rfl (wk_qall wk_q_Top_ok) (wk_alls_r wk_h_Top 16 rfl) (by decide +kernel)
set_option maxRecDepth 100000 in
theorem wk_ok81 : wk_okm wk_mt wk_mw 81 wk_m81 = true := wk_okm_q [65, 66, 3, 45, 67, 54, 68, 55] "EvenSidesModel" rfl (wk_qall wk_q_Model_ok) (wk_alls_r wk_h_Model 28 rfl) (by decide +kernel)
set_option maxRecDepth 100000 in
theorem wk_ok82 : wk_okm wk_mt wk_mw 82 wk_m82 = true := wk_okm_q [8, 9] "EvenSidesModel" rfl (wk_qall wk_q_Model_ok) (wk_alls_r wk_h_Model 29 rfl) (by decide +kernel)
set_option maxRecDepth 100000 in
theorem wk_ok83 : wk_okm wk_mt wk_mw 83 wk_m83 = true := wk_okm_q [0, 35, 22, 23, 22, 36] "EvenSides" rfl (wk_qall wk_q_Top_ok) (wk_alls_r wk_h_Top 17 rfl) (by decide +kernel)
set_option maxRecDepth 100000 in
theorem wk_ok84 : wk_okm wk_mt wk_mw 84 wk_m84 = true := wk_okm_q [10, 45, 52] "EvenSidesModel" rfl (wk_qall wk_q_Model_ok) (wk_alls_r wk_h_Model 30 rfl) (by decide +kernel)
set_option maxRecDepth 100000 in
theorem wk_ok85 : wk_okm wk_mt wk_mw 85 wk_m85 = true := wk_okm_q [0, 37, 11, 38, 0, 39, 40] "EvenSides" rfl (wk_qall wk_q_Top_ok) (wk_alls_r wk_h_Top 18 rfl) (by decide +kernel)
set_option maxRecDepth 100000 in
theorem wk_ok86 : wk_okm wk_mt wk_mw 86 wk_m86 = true := wk_okm_q [16, 10] "EvenSides$Told" rfl (wk_qall wk_q_Told_ok) (wk_alls_r wk_h_Told 19 rfl) (by decide +kernel)
set_option maxRecDepth 100000 in
theorem wk_ok87 : wk_okm wk_mt wk_mw 87 wk_m87 = true := wk_okm_q [69, 70, 3, 71, 72] "EvenSidesModel" rfl (wk_qall wk_q_Model_ok) (wk_alls_r wk_h_Model 31 rfl) (by decide +kernel)
set_option maxRecDepth 100000 in
theorem wk_ok88 : wk_okm wk_mt wk_mw 88 wk_m88 = true := wk_okm_q [0, 3] "EvenSidesModel" rfl (wk_qall wk_q_Model_ok) (wk_alls_r wk_h_Model 32 rfl) (by decide +kernel)
set_option maxRecDepth 100000 in
theorem wk_ok89 : wk_okm wk_mt wk_mw 89 wk_m89 = true := wk_okm_q [0, 37, 11, 38, 0, 39, 0, 41, 42, 43, 40] "EvenSides" rfl (wk_qall wk_q_Top_ok) (wk_alls_r wk_h_Top 19 rfl) (by decide +kernel)
