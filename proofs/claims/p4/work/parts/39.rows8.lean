/-! ===== the rows hold: methods 240 to 269 ===== -/
set_option maxRecDepth 100000 in
theorem wk_ok240 : wk_okm wk_mt wk_mw 240 wk_m240 = true := by decide +kernel
set_option maxRecDepth 100000 in
theorem wk_ok241 : wk_okm wk_mt wk_mw 241 wk_m241 = true := by decide +kernel
set_option maxRecDepth 100000 in
theorem wk_ok242 : wk_okm wk_mt wk_mw 242 wk_m242 = true := by decide +kernel
set_option maxRecDepth 100000 in
theorem wk_ok243 : wk_okm wk_mt wk_mw 243 wk_m243 = true := by decide +kernel
set_option maxRecDepth 100000 in
theorem wk_ok244 : wk_okm wk_mt wk_mw 244 wk_m244 = true := by decide +kernel
set_option maxRecDepth 100000 in
theorem wk_ok245 : wk_okm wk_mt wk_mw 245 wk_m245 = true := by decide +kernel
set_option maxRecDepth 100000 in
theorem wk_ok246 : wk_okm wk_mt wk_mw 246 wk_m246 = true := by decide +kernel
set_option maxRecDepth 100000 in
theorem wk_ok247 : wk_okm wk_mt wk_mw 247 wk_m247 = true := by decide +kernel
set_option maxRecDepth 100000 in
theorem wk_ok248 : wk_okm wk_mt wk_mw 248 wk_m248 = true := by decide +kernel
set_option maxRecDepth 100000 in
theorem wk_ok249 : wk_okm wk_mt wk_mw 249 wk_m249 = true := by decide +kernel
set_option maxRecDepth 100000 in
theorem wk_ok250 : wk_okm wk_mt wk_mw 250 wk_m250 = true := by decide +kernel
set_option maxRecDepth 100000 in
theorem wk_ok251 : wk_okm wk_mt wk_mw 251 wk_m251 = true := by decide +kernel
set_option maxRecDepth 100000 in
theorem wk_ok252 : wk_okm wk_mt wk_mw 252 wk_m252 = true := by decide +kernel
set_option maxRecDepth 100000 in
theorem wk_ok253 : wk_okm wk_mt wk_mw 253 wk_m253 = true := by decide +kernel
set_option maxRecDepth 100000 in
theorem wk_ok254 : wk_okm wk_mt wk_mw 254 wk_m254 = true := by decide +kernel
set_option maxRecDepth 100000 in
theorem wk_ok255 : wk_okm wk_mt wk_mw 255 wk_m255 = true := by decide +kernel
set_option maxRecDepth 100000 in
theorem wk_ok256 : wk_okm wk_mt wk_mw 256 wk_m256 = true := by decide +kernel
set_option maxRecDepth 100000 in
theorem wk_ok257 : wk_okm wk_mt wk_mw 257 wk_m257 = true := by decide +kernel
set_option maxRecDepth 100000 in
theorem wk_ok258 : wk_okm wk_mt wk_mw 258 wk_m258 = true := by decide +kernel
set_option maxRecDepth 100000 in
theorem wk_ok259 : wk_okm wk_mt wk_mw 259 wk_m259 = true := by decide +kernel
set_option maxRecDepth 100000 in
theorem wk_ok260 : wk_okm wk_mt wk_mw 260 wk_m260 = true := by decide +kernel
set_option maxRecDepth 100000 in
theorem wk_ok261 : wk_okm wk_mt wk_mw 261 wk_m261 = true := by decide +kernel
set_option maxRecDepth 100000 in
theorem wk_ok262 : wk_okm wk_mt wk_mw 262 wk_m262 = true := by decide +kernel
set_option maxRecDepth 100000 in
theorem wk_ok263 : wk_okm wk_mt wk_mw 263 wk_m263 = true := by decide +kernel
set_option maxRecDepth 100000 in
theorem wk_ok264 : wk_okm wk_mt wk_mw 264 wk_m264 = true := by decide +kernel
set_option maxRecDepth 100000 in
theorem wk_ok265 : wk_okm wk_mt wk_mw 265 wk_m265 = true := by decide +kernel
set_option maxRecDepth 100000 in
theorem wk_ok266 : wk_okm wk_mt wk_mw 266 wk_m266 = true := by decide +kernel
set_option maxRecDepth 100000 in
theorem wk_ok267 : wk_okm wk_mt wk_mw 267 wk_m267 = true := by decide +kernel
set_option maxRecDepth 100000 in
theorem wk_ok268 : wk_okm wk_mt wk_mw 268 wk_m268 = true := by decide +kernel
set_option maxRecDepth 100000 in
theorem wk_ok269 : wk_okm wk_mt wk_mw 269 wk_m269 = true := by decide +kernel
