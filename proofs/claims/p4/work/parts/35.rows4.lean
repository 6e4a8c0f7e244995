/-! ===== the rows hold: methods 120 to 149 ===== -/
set_option maxRecDepth 100000 in
theorem wk_ok120 : wk_okm wk_mt wk_mw 120 wk_m120 = true := wk_okm_q [10, 91, 92, 93, 94] "EvenSidesModel" rfl (wk_qall wk_q_Model_ok) (wk_alls_r wk_h_Model 44 rfl) (by decide +kernel)
set_option maxRecDepth 100000 in
theorem wk_ok121 : wk_okm wk_mt wk_mw 121 wk_m121 = true := wk_okm_q [0, 0] "EvenSidesModel" rfl (wk_qall wk_q_Model_ok) (wk_alls_r wk_h_Model 45 rfl) (by decide +kernel)
set_option maxRecDepth 100000 in
theorem wk_ok122 : wk_okm wk_mt wk_mw 122 wk_m122 = true := wk_okm_q [77, 95, 71, 96, 76, 87, 93, 96, 0, 94, 78, 97, 93, 71] "EvenSidesModel" rfl (wk_qall wk_q_Model_ok) (wk_alls_r wk_h_Model 46 rfl) (by decide +kernel)
set_option maxRecDepth 100000 in
theorem wk_ok123 : wk_okm wk_mt wk_mw 123 wk_m123 = true := wk_okm_q [0, 78] "EvenSidesModel" rfl (wk_qall wk_q_Model_ok) (wk_alls_r wk_h_Model 47 rfl) (by decide +kernel)
set_option maxRecDepth 100000 in
theorem wk_ok124 : wk_okm wk_mt wk_mw 124 wk_m124 = true := wk_okm_q [0, 78, 0, 78, 78] "EvenSidesModel" rfl (wk_qall wk_q_Model_ok) (wk_alls_r wk_h_Model 48 rfl) (by decide +kernel)
set_option maxRecDepth 100000 in
theorem wk_ok125 : wk_okm wk_mt wk_mw 125 wk_m125 = true := wk_okm_q [0, 47, 11, 0, 59, 63, 64, 63, 65, 63, 66, 63, 67] "EvenSides" rfl (wk_qall wk_q_Top_ok) (wk_alls_r wk_h_Top 28 rfl) (by decide +kernel)
set_option maxRecDepth 100000 in
theorem wk_ok126 : wk_okm wk_mt wk_mw 126 wk_m126 = true := wk_okm_q [0, 1, 2, 3, 4, 5, 6, 7, 8, 4, 9, 10, 11, 11, 12, 13, 12, 14, 1, 4, 9, 2, 5, 15, 16, 17, 11, 0] "EvenSides$Routes" rfl (wk_qall wk_q_Routes_ok) (wk_alls_r wk_h_Routes 0 rfl) (by decide +kernel)
set_option maxRecDepth 100000 in
theorem wk_ok127 : wk_okm wk_mt wk_mw 127 wk_m127 = true := wk_okm_q [6, 18, 6, 19, 5] "EvenSides$Routes" rfl (wk_qall wk_q_Routes_ok) (wk_alls_r wk_h_Routes 1 rfl) (by decide +kernel)
set_option maxRecDepth 100000 in
theorem wk_ok128 : wk_okm wk_mt wk_mw 128 wk_m128 = true := wk_okm_q [6, 7, 5, 5, 6, 7, 5, 5, 20, 6, 7, 20] "EvenSides$Routes" rfl (wk_qall wk_q_Routes_ok) (wk_alls_r wk_h_Routes 2 rfl) (by decide +kernel)
set_option maxRecDepth 100000 in
theorem wk_ok129 : wk_okm wk_mt wk_mw 129 wk_m129 = true := wk_okm_q [0, 3, 91, 98, 99, 100, 101] "EvenSidesModel" rfl (wk_qall wk_q_Model_ok) (wk_alls_r wk_h_Model 49 rfl) (by decide +kernel)
set_option maxRecDepth 100000 in
theorem wk_ok130 : wk_okm wk_mt wk_mw 130 wk_m130 = true := wk_okm_q [0, 102, 103, 104, 71, 105, 106, 107, 0, 108, 109, 90, 92, 93, 99, 93, 99, 100, 93, 105, 106, 101, 104, 110, 0, 103, 99, 71] "EvenSidesModel" rfl (wk_qall wk_q_Model_ok) (wk_alls_r wk_h_Model 50 rfl) (by decide +kernel)
set_option maxRecDepth 100000 in
theorem wk_ok131 : wk_okm wk_mt wk_mw 131 wk_m131 = true := wk_okm_q [0, 74, 108] "EvenSidesModel" rfl (wk_qall wk_q_Model_ok) (wk_alls_r wk_h_Model 51 rfl) (by decide +kernel)
set_option maxRecDepth 100000 in
theorem wk_ok132 : wk_okm wk_mt wk_mw 132 wk_m132 = true := wk_okm_q [111, 109] "EvenSidesModel" rfl (wk_qall wk_q_Model_ok) (wk_alls_r wk_h_Model 52 rfl) (by decide +kernel)
set_option maxRecDepth 100000 in
theorem wk_ok133 : wk_okm wk_mt wk_mw 133 wk_m133 = true := wk_okm_q [112, 109, 109, 112, 113, 109, 109, 112, 114] "EvenSidesModel" rfl (wk_qall wk_q_Model_ok) (wk_alls_r wk_h_Model 53 rfl) (by decide +kernel)
set_option maxRecDepth 100000 in
theorem wk_ok134 : wk_okm wk_mt wk_mw 134 wk_m134 = true := wk_okm_q [0, 51, 53, 0, 49, 0, 47, 54, 68, 69] "EvenSides" rfl (wk_qall wk_q_Top_ok) (wk_alls_r wk_h_Top 29 rfl) (by decide +kernel)
set_option maxRecDepth 100000 in
theorem wk_ok135 : wk_okm wk_mt wk_mw 135 wk_m135 = true := wk_okm_q [0, 1, 2, 3, 4] "EvenSides$Layers" rfl (wk_qall wk_q_Layers_ok) (wk_alls_r wk_h_Layers 0 rfl) (by decide +kernel)
set_option maxRecDepth 100000 in
theorem wk_ok136 : wk_okm wk_mt wk_mw 136 wk_m136 = true := wk_okm_q [75, 0, 115, 71] "EvenSidesModel" rfl (wk_qall wk_q_Model_ok) (wk_alls_r wk_h_Model 54 rfl) (by decide +kernel)
set_option maxRecDepth 100000 in
theorem wk_ok137 : wk_okm wk_mt wk_mw 137 wk_m137 = true := wk_okm_q [0, 51, 52, 0, 70, 55, 71] "EvenSides" rfl (wk_qall wk_q_Top_ok) (wk_alls_r wk_h_Top 30 rfl) (by decide +kernel)
set_option maxRecDepth 100000 in
theorem wk_ok138 : wk_okm wk_mt wk_mw 138 wk_m138 = true := wk_okm_q [75, 0, 116, 71] "EvenSidesModel" rfl (wk_qall wk_q_Model_ok) (wk_alls_r wk_h_Model 55 rfl) (by decide +kernel)
set_option maxRecDepth 100000 in
theorem wk_ok139 : wk_okm wk_mt wk_mw 139 wk_m139 = true := wk_okm_q [0, 51, 53, 0, 49, 0, 47, 54, 53, 72, 55, 56, 55, 73, 53, 74, 75] "EvenSides" rfl (wk_qall wk_q_Top_ok) (wk_alls_r wk_h_Top 31 rfl) (by decide +kernel)
set_option maxRecDepth 100000 in
theorem wk_ok140 : wk_okm wk_mt wk_mw 140 wk_m140 = true := wk_okm_q [7, 10, 14] "EvenSides$Legs" rfl (wk_qall wk_q_Legs_ok) (wk_alls_r wk_h_Legs 1 rfl) (by decide +kernel)
set_option maxRecDepth 100000 in
theorem wk_ok141 : wk_okm wk_mt wk_mw 141 wk_m141 = true := wk_okm_q [1, 14, 38] "EvenSides$Scales" rfl (wk_qall wk_q_Scales_ok) (wk_alls_r wk_h_Scales 8 rfl) (by decide +kernel)
set_option maxRecDepth 100000 in
theorem wk_ok142 : wk_okm wk_mt wk_mw 142 wk_m142 = true := wk_okm_q [15, 16] "EvenSides$Legs" rfl (wk_qall wk_q_Legs_ok) (wk_alls_r wk_h_Legs 2 rfl) (by decide +kernel)
set_option maxRecDepth 100000 in
theorem wk_ok143 : wk_okm wk_mt wk_mw 143 wk_m143 = true := wk_okm_q [76, 77, 78] "EvenSides" rfl (wk_qall wk_q_Top_ok) (wk_alls_r wk_h_Top 32 rfl) (by decide +kernel)
set_option maxRecDepth 100000 in
theorem wk_ok144 : wk_okm wk_mt wk_mw 144 wk_m144 = true := wk_okm_q [] "EvenSides" rfl (wk_qall wk_q_Top_ok) (wk_alls_r wk_h_Top 33 rfl) (by decide +kernel)
set_option maxRecDepth 100000 in
theorem wk_ok145 : wk_okm wk_mt wk_mw 145 wk_m145 = true := wk_okm_q [75, 117, 118, 119, 120] "EvenSidesModel" rfl (wk_qall wk_q_Model_ok) (wk_alls_r wk_h_Model 56 rfl) (by decide +kernel)
set_option maxRecDepth 100000 in
theorem wk_ok146 : wk_okm wk_mt wk_mw 146 wk_m146 = true := wk_okm_q [77, 121, 122, 0, 53, 80, 123, 121, 80, 2, 3, 124, 125, 125, 122, 125] "EvenSidesModel" rfl (wk_qall wk_q_Model_ok) (wk_alls_r wk_h_Model 57 rfl) (by decide +kernel)
set_option maxRecDepth 100000 in
theorem wk_ok147 : wk_okm wk_mt wk_mw 147 wk_m147 = true := wk_okm_q [125, 123, 125, 124, 53, 124, 0, 82, 89] "EvenSidesModel" rfl (wk_qall wk_q_Model_ok) (wk_alls_r wk_h_Model 58 rfl) (by decide +kernel)
set_option maxRecDepth 100000 in
theorem wk_ok148 : wk_okm wk_mt wk_mw 148 wk_m148 = true := wk_okm_q [125, 11] "EvenSidesModel" rfl (wk_qall wk_q_Model_ok) (wk_alls_r wk_h_Model 59 rfl) (by decide +kernel)
set_option maxRecDepth 100000 in
theorem wk_ok149 : wk_okm wk_mt wk_mw 149 wk_m149 = true := wk_okm_q [126, 127, 128] "EvenSidesModel" rfl (wk_qall wk_q_Model_ok) (wk_alls_r wk_h_Model 60 rfl) (by decide +kernel)
