/-! ===== the rows hold: methods 210 to 239 ===== -/
set_option maxRecDepth 100000 in
theorem wk_ok210 : wk_okm wk_mt wk_mw 210 wk_m210 = true := by decide +kernel
set_option maxRecDepth 100000 in
theorem wk_ok211 : wk_okm wk_mt wk_mw 211 wk_m211 = true := by decide +kernel
set_option maxRecDepth 100000 in
theorem wk_ok212 : wk_okm wk_mt wk_mw 212 wk_m212 = true := by decide +kernel
set_option maxRecDepth 100000 in
theorem wk_ok213 : wk_okm wk_mt wk_mw 213 wk_m213 = true := by decide +kernel
set_option maxRecDepth 100000 in
theorem wk_ok214 : wk_okm wk_mt wk_mw 214 wk_m214 = true := by decide +kernel
set_option maxRecDepth 100000 in
theorem wk_ok215 : wk_okm wk_mt wk_mw 215 wk_m215 = true := by decide +kernel
set_option maxRecDepth 100000 in
theorem wk_ok216 : wk_okm wk_mt wk_mw 216 wk_m216 = true := by decide +kernel
set_option maxRecDepth 100000 in
theorem wk_ok217 : wk_okm wk_mt wk_mw 217 wk_m217 = true := by decide +kernel
set_option maxRecDepth 100000 in
theorem wk_ok218 : wk_okm wk_mt wk_mw 218 wk_m218 = true := by decide +kernel
set_option maxRecDepth 100000 in
theorem wk_ok219 : wk_okm wk_mt wk_mw 219 wk_m219 = true := by decide +kernel
set_option maxRecDepth 100000 in
theorem wk_ok220 : wk_okm wk_mt wk_mw 220 wk_m220 = true := by decide +kernel
set_option maxRecDepth 100000 in
theorem wk_ok221 : wk_okm wk_mt wk_mw 221 wk_m221 = true := by decide +kernel
set_option maxRecDepth 100000 in
theorem wk_ok222 : wk_okm wk_mt wk_mw 222 wk_m222 = true := by decide +kernel
set_option maxRecDepth 100000 in
theorem wk_ok223 : wk_okm wk_mt wk_mw 223 wk_m223 = true := by decide +kernel
set_option maxRecDepth 100000 in
theorem wk_ok224 : wk_okm wk_mt wk_mw 224 wk_m224 = true := by decide +kernel
set_option maxRecDepth 100000 in
theorem wk_ok225 : wk_okm wk_mt wk_mw 225 wk_m225 = true := by decide +kernel
set_option maxRecDepth 100000 in
theorem wk_ok226 : wk_okm wk_mt wk_mw 226 wk_m226 = true := by decide +kernel
set_option maxRecDepth 100000 in
theorem wk_ok227 : wk_okm wk_mt wk_mw 227 wk_m227 = true := by decide +kernel
set_option maxRecDepth 100000 in
theorem wk_ok228 : wk_okm wk_mt wk_mw 228 wk_m228 = true := by decide +kernel
set_option maxRecDepth 100000 in
theorem wk_ok229 : wk_okm wk_mt wk_mw 229 wk_m229 = true := by decide +kernel
set_option maxRecDepth 100000 in
theorem wk_ok230 : wk_okm wk_mt wk_mw 230 wk_m230 = true := by decide +kernel
set_option maxRecDepth 100000 in
theorem wk_ok231 : wk_okm wk_mt wk_mw 231 wk_m231 = true := by decide +kernel
set_option maxRecDepth 100000 in
theorem wk_ok232 : wk_okm wk_mt wk_mw 232 wk_m232 = true := by decide +kernel
set_option maxRecDepth 100000 in
theorem wk_ok233 : wk_okm wk_mt wk_mw 233 wk_m233 = true := by decide +kernel
set_option maxRecDepth 100000 in
theorem wk_ok234 : wk_okm wk_mt wk_mw 234 wk_m234 = true := by decide +kernel
set_option maxRecDepth 100000 in
theorem wk_ok235 : wk_okm wk_mt wk_mw 235 wk_m235 = true := by decide +kernel
set_option maxRecDepth 100000 in
theorem wk_ok236 : wk_okm wk_mt wk_mw 236 wk_m236 = true := by decide +kernel
set_option maxRecDepth 100000 in
theorem wk_ok237 : wk_okm wk_mt wk_mw 237 wk_m237 = true := by decide +kernel
set_option maxRecDepth 100000 in
theorem wk_ok238 : wk_okm wk_mt wk_mw 238 wk_m238 = true := by decide +kernel
set_option maxRecDepth 100000 in
theorem wk_ok239 : wk_okm wk_mt wk_mw 239 wk_m239 = true := by decide +kernel
