/-! ===== the rows hold: methods 90 to 119 ===== -/
set_option maxRecDepth 100000 in
theorem wk_ok90 : wk_okm wk_mt wk_mw 90 wk_m90 = true := wk_okm_q [69, 2, 3, 71, 72, 0, 3, 71] "EvenSidesModel" rfl (wk_qall wk_q_Model_ok) (wk_alls_r wk_h_Model 33 rfl) (by decide +kernel)
set_option maxRecDepth 100000 in
theorem wk_ok91 : wk_okm wk_mt wk_mw 91 wk_m91 = true := wk_okm_q [0, 35, 0, 44, 11, 0, 45, 0, 45] "EvenSides" rfl (wk_qall wk_q_Top_ok) (wk_alls_r wk_h_Top 20 rfl) (by decide +kernel)
set_option maxRecDepth 100000 in
theorem wk_ok92 : wk_okm wk_mt wk_mw 92 wk_m92 = true := wk_okm_q [10, 65, 73, 4] "EvenSidesModel" rfl (wk_qall wk_q_Model_ok) (wk_alls_r wk_h_Model 34 rfl) (by decide +kernel)
set_option maxRecDepth 100000 in
theorem wk_ok93 : wk_okm wk_mt wk_mw 93 wk_m93 = true := wk_okm_q [0, 46, 0, 47, 0, 48, 0, 49, 0, 47, 0, 47, 50, 0, 47] "EvenSides" rfl (wk_qall wk_q_Top_ok) (wk_alls_r wk_h_Top 21 rfl) (by decide +kernel)
set_option maxRecDepth 100000 in
theorem wk_ok94 : wk_okm wk_mt wk_mw 94 wk_m94 = true := wk_okm_q [5, 74, 0, 0, 0, 0] "EvenSidesModel" rfl (wk_qall wk_q_Model_ok) (wk_alls_r wk_h_Model 35 rfl) (by decide +kernel)
set_option maxRecDepth 100000 in
theorem wk_ok95 : wk_okm wk_mt wk_mw 95 wk_m95 = true := wk_okm_q [0, 47, 0, 50] "EvenSides" rfl (wk_qall wk_q_Top_ok) (wk_alls_r wk_h_Top 22 rfl) (by decide +kernel)
set_option maxRecDepth 100000 in
theorem wk_ok96 : wk_okm wk_mt wk_mw 96 wk_m96 = true := wk_okm_q [4] "EvenSidesModel" rfl (wk_qall wk_q_Model_ok) (wk_alls_r wk_h_Model 36 rfl) (by decide +kernel)
set_option maxRecDepth 100000 in
theorem wk_ok97 : wk_okm wk_mt wk_mw 97 wk_m97 = true := wk_okm_q [0, 51, 52] "EvenSides" rfl (wk_qall wk_q_Top_ok) (wk_alls_r wk_h_Top 23 rfl) (by decide +kernel)
set_option maxRecDepth 100000 in
theorem wk_ok98 : wk_okm wk_mt wk_mw 98 wk_m98 = true := wk_okm_q [16, 17] "EvenSides$Told" rfl (wk_qall wk_q_Told_ok) (wk_alls_r wk_h_Told 20 rfl) (by decide +kernel)
set_option maxRecDepth 100000 in
theorem wk_ok99 : wk_okm wk_mt wk_mw 99 wk_m99 = true := wk_okm_q [53, 0, 49, 0, 47, 54, 55, 56] "EvenSides" rfl (wk_qall wk_q_Top_ok) (wk_alls_r wk_h_Top 24 rfl) (by decide +kernel)
set_option maxRecDepth 100000 in
theorem wk_ok100 : wk_okm wk_mt wk_mw 100 wk_m100 = true := wk_okm_q [0, 1, 2, 3, 4, 3, 5, 6, 7, 8, 9, 6, 2, 3, 7, 10, 11, 5, 12, 7, 13] "EvenSides$Legs" rfl (wk_qall wk_q_Legs_ok) (wk_alls_r wk_h_Legs 0 rfl) (by decide +kernel)
set_option maxRecDepth 100000 in
theorem wk_ok101 : wk_okm wk_mt wk_mw 101 wk_m101 = true := wk_okm_q [0, 1, 2, 3, 1, 4, 5, 6, 5, 7, 8, 9] "EvenSides$Scales" rfl (wk_qall wk_q_Scales_ok) (wk_alls_r wk_h_Scales 0 rfl) (by decide +kernel)
set_option maxRecDepth 100000 in
theorem wk_ok102 : wk_okm wk_mt wk_mw 102 wk_m102 = true := wk_okm_q [10, 11, 12, 11] "EvenSides$Scales" rfl (wk_qall wk_q_Scales_ok) (wk_alls_r wk_h_Scales 1 rfl) (by decide +kernel)
set_option maxRecDepth 100000 in
theorem wk_ok103 : wk_okm wk_mt wk_mw 103 wk_m103 = true := wk_okm_q [75, 76] "EvenSidesModel" rfl (wk_qall wk_q_Model_ok) (wk_alls_r wk_h_Model 37 rfl) (by decide +kernel)
set_option maxRecDepth 100000 in
theorem wk_ok104 : wk_okm wk_mt wk_mw 104 wk_m104 = true := wk_okm_q [77, 0, 78, 53, 78] "EvenSidesModel" rfl (wk_qall wk_q_Model_ok) (wk_alls_r wk_h_Model 38 rfl) (by decide +kernel)
set_option maxRecDepth 100000 in
theorem wk_ok105 : wk_okm wk_mt wk_mw 105 wk_m105 = true := wk_okm_q [0, 0, 53, 74, 53, 74, 79, 80, 79, 79, 81, 80] "EvenSidesModel" rfl (wk_qall wk_q_Model_ok) (wk_alls_r wk_h_Model 39 rfl) (by decide +kernel)
set_option maxRecDepth 100000 in
theorem wk_ok106 : wk_okm wk_mt wk_mw 106 wk_m106 = true := wk_okm_q [0, 82, 0, 83, 84, 83, 84, 85, 85, 83, 83, 86] "EvenSidesModel" rfl (wk_qall wk_q_Model_ok) (wk_alls_r wk_h_Model 40 rfl) (by decide +kernel)
set_option maxRecDepth 100000 in
theorem wk_ok107 : wk_okm wk_mt wk_mw 107 wk_m107 = true := wk_okm_q [0, 51, 52, 55, 57] "EvenSides" rfl (wk_qall wk_q_Top_ok) (wk_alls_r wk_h_Top 25 rfl) (by decide +kernel)
set_option maxRecDepth 100000 in
theorem wk_ok108 : wk_okm wk_mt wk_mw 108 wk_m108 = true := wk_okm_q [5, 13, 1, 14, 15, 16, 17] "EvenSides$Scales" rfl (wk_qall wk_q_Scales_ok) (wk_alls_r wk_h_Scales 2 rfl) (by decide +kernel)
set_option maxRecDepth 100000 in
theorem wk_ok109 : wk_okm wk_mt wk_mw 109 wk_m109 = true := wk_okm_q [75, 87] "EvenSidesModel" rfl (wk_qall wk_q_Model_ok) (wk_alls_r wk_h_Model 41 rfl) (by decide +kernel)
set_option maxRecDepth 100000 in
theorem wk_ok110 : wk_okm wk_mt wk_mw 110 wk_m110 = true := wk_okm_q [0, 82, 0, 88] "EvenSidesModel" rfl (wk_qall wk_q_Model_ok) (wk_alls_r wk_h_Model 42 rfl) (by decide +kernel)
set_option maxRecDepth 100000 in
theorem wk_ok111 : wk_okm wk_mt wk_mw 111 wk_m111 = true := wk_okm_q [0, 51, 52, 55, 58] "EvenSides" rfl (wk_qall wk_q_Top_ok) (wk_alls_r wk_h_Top 26 rfl) (by decide +kernel)
set_option maxRecDepth 100000 in
theorem wk_ok112 : wk_okm wk_mt wk_mw 112 wk_m112 = true := wk_okm_q [5, 13, 1, 14, 15, 16, 1, 18, 5, 19] "EvenSides$Scales" rfl (wk_qall wk_q_Scales_ok) (wk_alls_r wk_h_Scales 3 rfl) (by decide +kernel)
set_option maxRecDepth 100000 in
theorem wk_ok113 : wk_okm wk_mt wk_mw 113 wk_m113 = true := wk_okm_q [75, 0, 82, 89, 90] "EvenSidesModel" rfl (wk_qall wk_q_Model_ok) (wk_alls_r wk_h_Model 43 rfl) (by decide +kernel)
set_option maxRecDepth 100000 in
theorem wk_ok114 : wk_okm wk_mt wk_mw 114 wk_m114 = true := wk_okm_q [0, 35, 0, 59, 53, 0, 49, 0, 47, 54, 55, 38, 60, 55, 61, 55, 62] "EvenSides" rfl (wk_qall wk_q_Top_ok) (wk_alls_r wk_h_Top 27 rfl) (by decide +kernel)
set_option maxRecDepth 100000 in
theorem wk_ok115 : wk_okm wk_mt wk_mw 115 wk_m115 = true := wk_okm_q [16, 12] "EvenSides$Told" rfl (wk_qall wk_q_Told_ok) (wk_alls_r wk_h_Told 21 rfl) (by decide +kernel)
set_option maxRecDepth 100000 in
theorem wk_ok116 : wk_okm wk_mt wk_mw 116 wk_m116 = true := wk_okm_q [20, 21, 22, 23, 24] "EvenSides$Scales" rfl (wk_qall wk_q_Scales_ok) (wk_alls_r wk_h_Scales 4 rfl) (by decide +kernel)
set_option maxRecDepth 100000 in
theorem wk_ok117 : wk_okm wk_mt wk_mw 117 wk_m117 = true := wk_okm_q [0, 25, 11, 26, 1, 2, 11, 1, 2, 5, 6, 5, 7, 5, 13, 5, 27, 26, 26] "EvenSides$Scales" rfl (wk_qall wk_q_Scales_ok) (wk_alls_r wk_h_Scales 5 rfl) (by decide +kernel)
set_option maxRecDepth 100000 in
theorem wk_ok118 : wk_okm wk_mt wk_mw 118 wk_m118 = true := wk_okm_q [1, 2, 28, 5, 6, 5, 7, 1, 14, 29, 3, 8, 25, 9, 30, 23, 25, 8] "EvenSides$Scales" rfl (wk_qall wk_q_Scales_ok) (wk_alls_r wk_h_Scales 6 rfl) (by decide +kernel)
set_option maxRecDepth 100000 in
theorem wk_ok119 : wk_okm wk_mt wk_mw 119 wk_m119 = true := wk_okm_q [31, 32, 33, 34, 35, 24, 21, 3, 36, 37] "EvenSides$Scales" rfl (wk_qall wk_q_Scales_ok) (wk_alls_r wk_h_Scales 7 rfl) (by decide +kernel)
