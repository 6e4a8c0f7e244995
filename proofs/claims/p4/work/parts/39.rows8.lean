/-! ===== the rows hold: methods 240 to 269 ===== -/
set_option maxRecDepth 100000 in
theorem wk_ok240 : wk_okm wk_mt wk_mw 240 wk_m240 = true := wk_okm_q [54, 54, 175, 68, 175, 176, 177, 178] "EvenSidesModel" rfl (wk_qall wk_q_Model_ok) (wk_alls_r wk_h_Model 80 rfl) (by decide +kernel)
set_option maxRecDepth 100000 in
theorem wk_ok241 : wk_okm wk_mt wk_mw 241 wk_m241 = true := wk_okm_q [53] "EvenSidesModel" rfl (wk_qall wk_q_Model_ok) (wk_alls_r wk_h_Model 81 rfl) (by decide +kernel)
set_option maxRecDepth 100000 in
theorem wk_ok242 : wk_okm wk_mt wk_mw 242 wk_m242 = true := wk_okm_q [54, 179, 54] "EvenSidesModel" rfl (wk_qall wk_q_Model_ok) (wk_alls_r wk_h_Model 82 rfl) (by decide +kernel)
set_option maxRecDepth 100000 in
theorem wk_ok243 : wk_okm wk_mt wk_mw 243 wk_m243 = true := wk_okm_q [53, 53] "EvenSidesModel" rfl (wk_qall wk_q_Model_ok) (wk_alls_r wk_h_Model 83 rfl) (by decide +kernel)
set_option maxRecDepth 100000 in
theorem wk_ok244 : wk_okm wk_mt wk_mw 244 wk_m244 = true := wk_okm_q [67, 67, 67, 84, 86] "EvenSidesModel" rfl (wk_qall wk_q_Model_ok) (wk_alls_r wk_h_Model 84 rfl) (by decide +kernel)
set_option maxRecDepth 100000 in
theorem wk_ok245 : wk_okm wk_mt wk_mw 245 wk_m245 = true := wk_okm_q [55, 0, 54, 179, 176, 177] "EvenSidesModel" rfl (wk_qall wk_q_Model_ok) (wk_alls_r wk_h_Model 85 rfl) (by decide +kernel)
set_option maxRecDepth 100000 in
theorem wk_ok246 : wk_okm wk_mt wk_mw 246 wk_m246 = true := wk_okm_q [0] "EvenSidesModel" rfl (wk_qall wk_q_Model_ok) (wk_alls_r wk_h_Model 86 rfl) (by decide +kernel)
set_option maxRecDepth 100000 in
theorem wk_ok247 : wk_okm wk_mt wk_mw 247 wk_m247 = true := wk_okm_q [0] "EvenSidesModel" rfl (wk_qall wk_q_Model_ok) (wk_alls_r wk_h_Model 87 rfl) (by decide +kernel)
set_option maxRecDepth 100000 in
theorem wk_ok248 : wk_okm wk_mt wk_mw 248 wk_m248 = true := wk_okm_q [179, 54, 54, 52] "EvenSidesModel" rfl (wk_qall wk_q_Model_ok) (wk_alls_r wk_h_Model 88 rfl) (by decide +kernel)
set_option maxRecDepth 100000 in
theorem wk_ok249 : wk_okm wk_mt wk_mw 249 wk_m249 = true := wk_okm_q [65, 54, 52, 68, 50, 54] "EvenSidesModel" rfl (wk_qall wk_q_Model_ok) (wk_alls_r wk_h_Model 89 rfl) (by decide +kernel)
set_option maxRecDepth 100000 in
theorem wk_ok250 : wk_okm wk_mt wk_mw 250 wk_m250 = true := wk_okm_q [65, 65, 54, 68, 173, 68, 54, 174] "EvenSidesModel" rfl (wk_qall wk_q_Model_ok) (wk_alls_r wk_h_Model 90 rfl) (by decide +kernel)
set_option maxRecDepth 100000 in
theorem wk_ok251 : wk_okm wk_mt wk_mw 251 wk_m251 = true := wk_okm_q [65, 56, 50, 0, 178, 56, 50, 55] "EvenSidesModel" rfl (wk_qall wk_q_Model_ok) (wk_alls_r wk_h_Model 91 rfl) (by decide +kernel)
set_option maxRecDepth 100000 in
theorem wk_ok252 : wk_okm wk_mt wk_mw 252 wk_m252 = true := wk_okm_q [65, 55, 55, 56, 50] "EvenSidesModel" rfl (wk_qall wk_q_Model_ok) (wk_alls_r wk_h_Model 92 rfl) (by decide +kernel)
set_option maxRecDepth 100000 in
theorem wk_ok253 : wk_okm wk_mt wk_mw 253 wk_m253 = true := wk_okm_q [1, 50, 0, 54, 179, 175, 0, 50, 180, 48, 60, 0, 57, 181, 182, 57, 57, 0, 58, 176, 59] "EvenSidesModel" rfl (wk_qall wk_q_Model_ok) (wk_alls_r wk_h_Model 93 rfl) (by decide +kernel)
set_option maxRecDepth 100000 in
theorem wk_ok254 : wk_okm wk_mt wk_mw 254 wk_m254 = true := wk_okm_q [0] "EvenSidesModel" rfl (wk_qall wk_q_Model_ok) (wk_alls_r wk_h_Model 94 rfl) (by decide +kernel)
set_option maxRecDepth 100000 in
theorem wk_ok255 : wk_okm wk_mt wk_mw 255 wk_m255 = true := wk_okm_q [67, 67] "EvenSidesModel" rfl (wk_qall wk_q_Model_ok) (wk_alls_r wk_h_Model 95 rfl) (by decide +kernel)
set_option maxRecDepth 100000 in
theorem wk_ok256 : wk_okm wk_mt wk_mw 256 wk_m256 = true := wk_okm_q [0] "EvenSidesModel" rfl (wk_qall wk_q_Model_ok) (wk_alls_r wk_h_Model 96 rfl) (by decide +kernel)
set_option maxRecDepth 100000 in
theorem wk_ok257 : wk_okm wk_mt wk_mw 257 wk_m257 = true := wk_okm_q [0, 53] "EvenSidesModel" rfl (wk_qall wk_q_Model_ok) (wk_alls_r wk_h_Model 97 rfl) (by decide +kernel)
set_option maxRecDepth 100000 in
theorem wk_ok258 : wk_okm wk_mt wk_mw 258 wk_m258 = true := wk_okm_q [0, 104] "EvenSidesModel" rfl (wk_qall wk_q_Model_ok) (wk_alls_r wk_h_Model 98 rfl) (by decide +kernel)
set_option maxRecDepth 100000 in
theorem wk_ok259 : wk_okm wk_mt wk_mw 259 wk_m259 = true := wk_okm_q [0] "EvenSidesModel" rfl (wk_qall wk_q_Model_ok) (wk_alls_r wk_h_Model 99 rfl) (by decide +kernel)
set_option maxRecDepth 100000 in
theorem wk_ok260 : wk_okm wk_mt wk_mw 260 wk_m260 = true := wk_okm_q [83, 85, 0, 79, 81, 83, 78, 177, 85, 78] "EvenSidesModel" rfl (wk_qall wk_q_Model_ok) (wk_alls_r wk_h_Model 100 rfl) (by decide +kernel)
set_option maxRecDepth 100000 in
theorem wk_ok261 : wk_okm wk_mt wk_mw 261 wk_m261 = true := wk_okm_q [83, 83] "EvenSidesModel" rfl (wk_qall wk_q_Model_ok) (wk_alls_r wk_h_Model 101 rfl) (by decide +kernel)
set_option maxRecDepth 100000 in
theorem wk_ok262 : wk_okm wk_mt wk_mw 262 wk_m262 = true := wk_okm_q [0, 88, 182] "EvenSidesModel" rfl (wk_qall wk_q_Model_ok) (wk_alls_r wk_h_Model 102 rfl) (by decide +kernel)
set_option maxRecDepth 100000 in
theorem wk_ok263 : wk_okm wk_mt wk_mw 263 wk_m263 = true := wk_okm_q [104, 104, 180] "EvenSidesModel" rfl (wk_qall wk_q_Model_ok) (wk_alls_r wk_h_Model 103 rfl) (by decide +kernel)
set_option maxRecDepth 100000 in
theorem wk_ok264 : wk_okm wk_mt wk_mw 264 wk_m264 = true := wk_okm_q [109, 109] "EvenSidesModel" rfl (wk_qall wk_q_Model_ok) (wk_alls_r wk_h_Model 104 rfl) (by decide +kernel)
set_option maxRecDepth 100000 in
theorem wk_ok265 : wk_okm wk_mt wk_mw 265 wk_m265 = true := wk_okm_q [112, 109, 113, 109] "EvenSidesModel" rfl (wk_qall wk_q_Model_ok) (wk_alls_r wk_h_Model 105 rfl) (by decide +kernel)
set_option maxRecDepth 100000 in
theorem wk_ok266 : wk_okm wk_mt wk_mw 266 wk_m266 = true := wk_okm_q [183, 71, 0, 0, 78, 80, 81, 184, 0, 78, 79, 79, 0, 184, 71, 183, 183] "EvenSidesModel" rfl (wk_qall wk_q_Model_ok) (wk_alls_r wk_h_Model 106 rfl) (by decide +kernel)
set_option maxRecDepth 100000 in
theorem wk_ok267 : wk_okm wk_mt wk_mw 267 wk_m267 = true := wk_okm_q [185, 71, 183, 71, 186, 187, 183, 188, 189, 190, 183, 188, 183, 185] "EvenSidesModel" rfl (wk_qall wk_q_Model_ok) (wk_alls_r wk_h_Model 107 rfl) (by decide +kernel)
set_option maxRecDepth 100000 in
theorem wk_ok268 : wk_okm wk_mt wk_mw 268 wk_m268 = true := wk_okm_q [] "EvenSidesModel" rfl (wk_qall wk_q_Model_ok) (wk_alls_r wk_h_Model 108 rfl) (by decide +kernel)
set_option maxRecDepth 100000 in
theorem wk_ok269 : wk_okm wk_mt wk_mw 269 wk_m269 = true := wk_okm_q [186, 189, 189] "EvenSidesModel" rfl (wk_qall wk_q_Model_ok) (wk_alls_r wk_h_Model 109 rfl) (by decide +kernel)
