/-! ===== the rows hold: methods 150 to 179 ===== -/
set_option maxRecDepth 100000 in
theorem wk_ok150 : wk_okm wk_mt wk_mw 150 wk_m150 = true := wk_okm_q [] "EvenSidesModel" rfl (wk_qall wk_q_Model_ok) (wk_alls_r wk_h_Model 61 rfl) (by decide +kernel)
set_option maxRecDepth 100000 in
theorem wk_ok151 : wk_okm wk_mt wk_mw 151 wk_m151 = true := wk_okm_q [0, 35, 53, 0, 49, 0, 47, 54, 0, 59, 53, 72, 55, 79, 55, 80, 53, 74, 75, 55, 62] "EvenSides" rfl (wk_qall wk_q_Top_ok) (wk_alls_r wk_h_Top 34 rfl) (by decide +kernel)
set_option maxRecDepth 100000 in
theorem wk_ok152 : wk_okm wk_mt wk_mw 152 wk_m152 = true := wk_okm_q [10, 91, 117, 73, 95, 76, 118, 73, 0, 94, 78, 97, 119, 120, 94] "EvenSidesModel" rfl (wk_qall wk_q_Model_ok) (wk_alls_r wk_h_Model 62 rfl) (by decide +kernel)
set_option maxRecDepth 100000 in
theorem wk_ok153 : wk_okm wk_mt wk_mw 153 wk_m153 = true := wk_okm_q [0, 44, 11, 0, 51, 81, 82, 81, 83] "EvenSides" rfl (wk_qall wk_q_Top_ok) (wk_alls_r wk_h_Top 35 rfl) (by decide +kernel)
set_option maxRecDepth 100000 in
theorem wk_ok154 : wk_okm wk_mt wk_mw 154 wk_m154 = true := wk_okm_q [8, 7, 3, 75, 0, 53, 78, 129, 107, 130, 129, 109, 110] "EvenSidesModel" rfl (wk_qall wk_q_Model_ok) (wk_alls_r wk_h_Model 63 rfl) (by decide +kernel)
set_option maxRecDepth 100000 in
theorem wk_ok155 : wk_okm wk_mt wk_mw 155 wk_m155 = true := wk_okm_q [11, 84, 85, 86] "EvenSides" rfl (wk_qall wk_q_Top_ok) (wk_alls_r wk_h_Top 36 rfl) (by decide +kernel)
set_option maxRecDepth 100000 in
theorem wk_ok156 : wk_okm wk_mt wk_mw 156 wk_m156 = true := wk_okm_q [131, 132, 73] "EvenSidesModel" rfl (wk_qall wk_q_Model_ok) (wk_alls_r wk_h_Model 64 rfl) (by decide +kernel)
set_option maxRecDepth 100000 in
theorem wk_ok157 : wk_okm wk_mt wk_mw 157 wk_m157 = true := wk_okm_q [11, 87, 0, 16, 88] "EvenSides" rfl (wk_qall wk_q_Top_ok) (wk_alls_r wk_h_Top 37 rfl) (by decide +kernel)
set_option maxRecDepth 100000 in
theorem wk_ok158 : wk_okm wk_mt wk_mw 158 wk_m158 = true := wk_okm_q [3, 133, 0, 134] "EvenSidesModel" rfl (wk_qall wk_q_Model_ok) (wk_alls_r wk_h_Model 65 rfl) (by decide +kernel)
set_option maxRecDepth 100000 in
theorem wk_ok159 : wk_okm wk_mt wk_mw 159 wk_m159 = true := wk_okm_q [11, 88, 0, 87, 16] "EvenSides" rfl (wk_qall wk_q_Top_ok) (wk_alls_r wk_h_Top 38 rfl) (by decide +kernel)
set_option maxRecDepth 100000 in
theorem wk_ok160 : wk_okm wk_mt wk_mw 160 wk_m160 = true := wk_okm_q [3, 134, 0, 133] "EvenSidesModel" rfl (wk_qall wk_q_Model_ok) (wk_alls_r wk_h_Model 66 rfl) (by decide +kernel)
set_option maxRecDepth 100000 in
theorem wk_ok161 : wk_okm wk_mt wk_mw 161 wk_m161 = true := wk_okm_q [0, 89] "EvenSides" rfl (wk_qall wk_q_Top_ok) (wk_alls_r wk_h_Top 39 rfl) (by decide +kernel)
set_option maxRecDepth 100000 in
theorem wk_ok162 : wk_okm wk_mt wk_mw 162 wk_m162 = true := wk_okm_q [8, 12, 16, 22, 20, 20] "EvenSides$Told" rfl (wk_qall wk_q_Told_ok) (wk_alls_r wk_h_Told 22 rfl) (by decide +kernel)
set_option maxRecDepth 100000 in
theorem wk_ok163 : wk_okm wk_mt wk_mw 163 wk_m163 = true := wk_okm_q [44, 3, 135] "EvenSidesModel" rfl (wk_qall wk_q_Model_ok) (wk_alls_r wk_h_Model 67 rfl) (by decide +kernel)
set_option maxRecDepth 100000 in
theorem wk_ok164 : wk_okm wk_mt wk_mw 164 wk_m164 = true := wk_okm_q [0, 0] "EvenSidesModel" rfl (wk_qall wk_q_Model_ok) (wk_alls_r wk_h_Model 68 rfl) (by decide +kernel)
set_option maxRecDepth 100000 in
theorem wk_ok165 : wk_okm wk_mt wk_mw 165 wk_m165 = true := wk_okm_q [0, 0, 90, 91, 92, 0, 93, 0, 70, 94, 0, 45, 0, 95, 94, 0, 41, 0, 41, 96, 0, 49, 0, 47, 96, 0, 97, 0, 12, 96, 98, 98, 85, 86] "EvenSides" rfl (wk_qall wk_q_Top_ok) (wk_alls_r wk_h_Top 40 rfl) (by decide +kernel)
set_option maxRecDepth 100000 in
theorem wk_ok166 : wk_okm wk_mt wk_mw 166 wk_m166 = true := wk_okm_q [28, 29] "EvenSides$Told" rfl (wk_qall wk_q_Told_ok) (wk_alls_r wk_h_Told 23 rfl) (by decide +kernel)
set_option maxRecDepth 100000 in
theorem wk_ok167 : wk_okm wk_mt wk_mw 167 wk_m167 = true := wk_okm_q [8, 4, 30, 28, 6, 28, 7] "EvenSides$Told" rfl (wk_qall wk_q_Told_ok) (wk_alls_r wk_h_Told 24 rfl) (by decide +kernel)
set_option maxRecDepth 100000 in
theorem wk_ok168 : wk_okm wk_mt wk_mw 168 wk_m168 = true := wk_okm_q [98] "EvenSides" rfl (wk_qall wk_q_Top_ok) (wk_alls_r wk_h_Top 41 rfl) (by decide +kernel)
set_option maxRecDepth 100000 in
theorem wk_ok169 : wk_okm wk_mt wk_mw 169 wk_m169 = true := wk_okm_q [96] "EvenSides" rfl (wk_qall wk_q_Top_ok) (wk_alls_r wk_h_Top 42 rfl) (by decide +kernel)
set_option maxRecDepth 100000 in
theorem wk_ok170 : wk_okm wk_mt wk_mw 170 wk_m170 = true := wk_okm_q [136, 137, 135, 0, 138, 137, 137, 0, 0, 0, 138, 0, 138, 138, 0, 138, 0, 138, 137, 137, 131, 132] "EvenSidesModel" rfl (wk_qall wk_q_Model_ok) (wk_alls_r wk_h_Model 69 rfl) (by decide +kernel)
set_option maxRecDepth 100000 in
theorem wk_ok171 : wk_okm wk_mt wk_mw 171 wk_m171 = true := wk_okm_q [137, 0] "EvenSidesModel" rfl (wk_qall wk_q_Model_ok) (wk_alls_r wk_h_Model 70 rfl) (by decide +kernel)
set_option maxRecDepth 100000 in
theorem wk_ok172 : wk_okm wk_mt wk_mw 172 wk_m172 = true := wk_okm_q [18] "EvenSides$Reader" rfl (wk_qall wk_q_Reader_ok) (wk_alls_r wk_h_Reader 2 rfl) (by decide +kernel)
set_option maxRecDepth 100000 in
theorem wk_ok173 : wk_okm wk_mt wk_mw 173 wk_m173 = true := wk_okm_q [18] "EvenSides$Reader" rfl (wk_qall wk_q_Reader_ok) (wk_alls_r wk_h_Reader 3 rfl) (by decide +kernel)
set_option maxRecDepth 100000 in
theorem wk_ok174 : wk_okm wk_mt wk_mw 174 wk_m174 = true := wk_okm_q [19, 20, 17, 21, 22, 20, 7, 23, 24, 17, 22, 20, 7, 8, 17, 25, 20, 20, 6] "EvenSides$Reader" rfl (wk_qall wk_q_Reader_ok) (wk_alls_r wk_h_Reader 4 rfl) (by decide +kernel)
set_option maxRecDepth 100000 in
theorem wk_ok175 : wk_okm wk_mt wk_mw 175 wk_m175 = true := wk_okm_q [26, 27] "EvenSides$Reader" rfl (wk_qall wk_q_Reader_ok) (wk_alls_r wk_h_Reader 5 rfl) (by decide +kernel)
set_option maxRecDepth 100000 in
theorem wk_ok176 : wk_okm wk_mt wk_mw 176 wk_m176 = true := wk_okm_q [] "EvenSides$Reader" rfl (wk_qall wk_q_Reader_ok) (wk_alls_r wk_h_Reader 6 rfl) (by decide +kernel)
set_option maxRecDepth 100000 in
theorem wk_ok177 : wk_okm wk_mt wk_mw 177 wk_m177 = true := wk_okm_q [8, 10, 17, 12, 17] "EvenSides$Reader" rfl (wk_qall wk_q_Reader_ok) (wk_alls_r wk_h_Reader 7 rfl) (by decide +kernel)
set_option maxRecDepth 100000 in
theorem wk_ok178 : wk_okm wk_mt wk_mw 178 wk_m178 = true := wk_okm_q [] "EvenSides$Reader" rfl (wk_qall wk_q_Reader_ok) (wk_alls_r wk_h_Reader 8 rfl) (by decide +kernel)
set_option maxRecDepth 100000 in
theorem wk_ok179 : wk_okm wk_mt wk_mw 179 wk_m179 = true := wk_okm_q [27, 27] "EvenSides$Reader" rfl (wk_qall wk_q_Reader_ok) (wk_alls_r wk_h_Reader 9 rfl) (by decide +kernel)
