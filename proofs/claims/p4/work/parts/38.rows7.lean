/-! ===== the rows hold: methods 210 to 239 ===== -/
set_option maxRecDepth 100000 in
theorem wk_ok210 : wk_okm wk_mt wk_mw 210 wk_m210 = true := wk_okm_q [25, 1, 18, 25, 1, 18, 41] "EvenSides$Scales" rfl (wk_qall wk_q_Scales_ok) (wk_alls_r wk_h_Scales 14 rfl) (by decide +kernel)
set_option maxRecDepth 100000 in
theorem wk_ok211 : wk_okm wk_mt wk_mw 211 wk_m211 = true := wk_okm_q [] "EvenSides$Scales" rfl (wk_qall wk_q_Scales_ok) (wk_alls_r wk_h_Scales 15 rfl) (by decide +kernel)
set_option maxRecDepth 100000 in
theorem wk_ok212 : wk_okm wk_mt wk_mw 212 wk_m212 = true := wk_okm_q [31, 33, 42, 24, 5, 7, 5, 6, 24, 26, 1, 14, 15, 16] "EvenSides$Scales" rfl (wk_qall wk_q_Scales_ok) (wk_alls_r wk_h_Scales 16 rfl) (by decide +kernel)
set_option maxRecDepth 100000 in
theorem wk_ok213 : wk_okm wk_mt wk_mw 213 wk_m213 = true := wk_okm_q [5, 5, 5, 5] "EvenSides$Routes" rfl (wk_qall wk_q_Routes_ok) (wk_alls_r wk_h_Routes 3 rfl) (by decide +kernel)
set_option maxRecDepth 100000 in
theorem wk_ok214 : wk_okm wk_mt wk_mw 214 wk_m214 = true := wk_okm_q [5, 6, 7, 6, 8, 9, 6, 10, 9] "EvenSides$Layers" rfl (wk_qall wk_q_Layers_ok) (wk_alls_r wk_h_Layers 1 rfl) (by decide +kernel)
set_option maxRecDepth 100000 in
theorem wk_ok215 : wk_okm wk_mt wk_mw 215 wk_m215 = true := wk_okm_q [0, 11, 0, 12, 13, 14, 14, 13, 13, 5] "EvenSides$Layers" rfl (wk_qall wk_q_Layers_ok) (wk_alls_r wk_h_Layers 2 rfl) (by decide +kernel)
set_option maxRecDepth 100000 in
theorem wk_ok216 : wk_okm wk_mt wk_mw 216 wk_m216 = true := wk_okm_q [13, 14, 14, 15, 16, 3, 4, 4, 17, 18, 3, 19] "EvenSides$Layers" rfl (wk_qall wk_q_Layers_ok) (wk_alls_r wk_h_Layers 3 rfl) (by decide +kernel)
set_option maxRecDepth 100000 in
theorem wk_ok217 : wk_okm wk_mt wk_mw 217 wk_m217 = true := wk_okm_q [20] "EvenSides$Layers" rfl (wk_qall wk_q_Layers_ok) (wk_alls_r wk_h_Layers 4 rfl) (by decide +kernel)
set_option maxRecDepth 100000 in
theorem wk_ok218 : wk_okm wk_mt wk_mw 218 wk_m218 = true := wk_okm_q [] "EvenSides$Layers" rfl (wk_qall wk_q_Layers_ok) (wk_alls_r wk_h_Layers 5 rfl) (by decide +kernel)
set_option maxRecDepth 100000 in
theorem wk_ok219 : wk_okm wk_mt wk_mw 219 wk_m219 = true := wk_okm_q [] "EvenSides$Layers" rfl (wk_qall wk_q_Layers_ok) (wk_alls_r wk_h_Layers 6 rfl) (by decide +kernel)
set_option maxRecDepth 100000 in
theorem wk_ok220 : wk_okm wk_mt wk_mw 220 wk_m220 = true := wk_okm_q [0, 21, 0, 20, 21, 0, 20, 21] "EvenSides$Layers" rfl (wk_qall wk_q_Layers_ok) (wk_alls_r wk_h_Layers 7 rfl) (by decide +kernel)
set_option maxRecDepth 100000 in
theorem wk_ok221 : wk_okm wk_mt wk_mw 221 wk_m221 = true := wk_okm_q [] "EvenSides$Layers" rfl (wk_qall wk_q_Layers_ok) (wk_alls_r wk_h_Layers 8 rfl) (by decide +kernel)
set_option maxRecDepth 100000 in
theorem wk_ok222 : wk_okm wk_mt wk_mw 222 wk_m222 = true := wk_okm_q [43, 44, 11, 43, 5, 13, 43, 45, 43, 37, 43, 15, 1, 46, 43, 16, 1, 18, 47, 44, 44, 43, 43, 48, 44] "EvenSides$Scales" rfl (wk_qall wk_q_Scales_ok) (wk_alls_r wk_h_Scales 17 rfl) (by decide +kernel)
set_option maxRecDepth 100000 in
theorem wk_ok223 : wk_okm wk_mt wk_mw 223 wk_m223 = true := wk_okm_q [44, 45, 45, 16, 48] "EvenSides$Scales" rfl (wk_qall wk_q_Scales_ok) (wk_alls_r wk_h_Scales 18 rfl) (by decide +kernel)
set_option maxRecDepth 100000 in
theorem wk_ok224 : wk_okm wk_mt wk_mw 224 wk_m224 = true := wk_okm_q [19, 7, 17, 20] "EvenSides$Legs" rfl (wk_qall wk_q_Legs_ok) (wk_alls_r wk_h_Legs 6 rfl) (by decide +kernel)
set_option maxRecDepth 100000 in
theorem wk_ok225 : wk_okm wk_mt wk_mw 225 wk_m225 = true := wk_okm_q [20, 49, 34, 5, 50, 51, 22, 23, 33, 49] "EvenSides$Scales" rfl (wk_qall wk_q_Scales_ok) (wk_alls_r wk_h_Scales 19 rfl) (by decide +kernel)
set_option maxRecDepth 100000 in
theorem wk_ok226 : wk_okm wk_mt wk_mw 226 wk_m226 = true := wk_okm_q [0, 1, 2, 3, 3, 2, 4, 3, 3, 3] "EvenSides$Alone" rfl (wk_qall wk_q_Alone_ok) (wk_alls_r wk_h_Alone 0 rfl) (by decide +kernel)
set_option maxRecDepth 100000 in
theorem wk_ok227 : wk_okm wk_mt wk_mw 227 wk_m227 = true := wk_okm_q [5, 6, 7, 8, 9, 8, 10, 8, 10, 6, 6, 11, 2, 2, 5] "EvenSides$Alone" rfl (wk_qall wk_q_Alone_ok) (wk_alls_r wk_h_Alone 1 rfl) (by decide +kernel)
set_option maxRecDepth 100000 in
theorem wk_ok228 : wk_okm wk_mt wk_mw 228 wk_m228 = true := wk_okm_q [8, 10, 11, 2, 8, 10, 11, 12, 13] "EvenSides$Alone" rfl (wk_qall wk_q_Alone_ok) (wk_alls_r wk_h_Alone 2 rfl) (by decide +kernel)
set_option maxRecDepth 100000 in
theorem wk_ok229 : wk_okm wk_mt wk_mw 229 wk_m229 = true := wk_okm_q [2, 14, 11] "EvenSides$Alone" rfl (wk_qall wk_q_Alone_ok) (wk_alls_r wk_h_Alone 3 rfl) (by decide +kernel)
set_option maxRecDepth 100000 in
theorem wk_ok230 : wk_okm wk_mt wk_mw 230 wk_m230 = true := wk_okm_q [2, 4, 3] "EvenSides$Alone" rfl (wk_qall wk_q_Alone_ok) (wk_alls_r wk_h_Alone 4 rfl) (by decide +kernel)
set_option maxRecDepth 100000 in
theorem wk_ok231 : wk_okm wk_mt wk_mw 231 wk_m231 = true := wk_okm_q [3] "EvenSidesModel" rfl (wk_qall wk_q_Model_ok) (wk_alls_r wk_h_Model 71 rfl) (by decide +kernel)
set_option maxRecDepth 100000 in
theorem wk_ok232 : wk_okm wk_mt wk_mw 232 wk_m232 = true := wk_okm_q [0, 34] "EvenSidesModel" rfl (wk_qall wk_q_Model_ok) (wk_alls_r wk_h_Model 72 rfl) (by decide +kernel)
set_option maxRecDepth 100000 in
theorem wk_ok233 : wk_okm wk_mt wk_mw 233 wk_m233 = true := wk_okm_q [139, 140, 141, 142, 143, 144, 145, 146, 147, 148, 149, 150, 151, 152, 153, 154, 155, 156] "EvenSidesModel" rfl (wk_qall wk_q_Model_ok) (wk_alls_r wk_h_Model 73 rfl) (by decide +kernel)
set_option maxRecDepth 100000 in
theorem wk_ok234 : wk_okm wk_mt wk_mw 234 wk_m234 = true := wk_okm_q [] "EvenSidesModel" rfl (wk_qall wk_q_Model_ok) (wk_alls_r wk_h_Model 74 rfl) (by decide +kernel)
set_option maxRecDepth 100000 in
theorem wk_ok235 : wk_okm wk_mt wk_mw 235 wk_m235 = true := wk_okm_q [157, 157, 157, 30, 158, 157, 159, 160, 161, 162, 163, 164, 165, 166] "EvenSidesModel" rfl (wk_qall wk_q_Model_ok) (wk_alls_r wk_h_Model 75 rfl) (by decide +kernel)
set_option maxRecDepth 100000 in
theorem wk_ok236 : wk_okm wk_mt wk_mw 236 wk_m236 = true := wk_okm_q [27] "EvenSidesModel" rfl (wk_qall wk_q_Model_ok) (wk_alls_r wk_h_Model 76 rfl) (by decide +kernel)
set_option maxRecDepth 100000 in
theorem wk_ok237 : wk_okm wk_mt wk_mw 237 wk_m237 = true := wk_okm_q [0] "EvenSidesModel" rfl (wk_qall wk_q_Model_ok) (wk_alls_r wk_h_Model 77 rfl) (by decide +kernel)
set_option maxRecDepth 100000 in
theorem wk_ok238 : wk_okm wk_mt wk_mw 238 wk_m238 = true := wk_okm_q [157, 157, 30, 157, 167, 168, 65, 169, 157, 157, 169, 170, 171, 172] "EvenSidesModel" rfl (wk_qall wk_q_Model_ok) (wk_alls_r wk_h_Model 78 rfl) (by decide +kernel)
set_option maxRecDepth 100000 in
theorem wk_ok239 : wk_okm wk_mt wk_mw 239 wk_m239 = true := wk_okm_q [10, 65, 52, 50, 173, 174] "EvenSidesModel" rfl (wk_qall wk_q_Model_ok) (wk_alls_r wk_h_Model 79 rfl) (by decide +kernel)
