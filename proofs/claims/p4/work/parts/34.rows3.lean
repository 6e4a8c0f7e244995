/-! ===== the rows hold: methods 210 to 275 ===== -/
set_option maxRecDepth 100000 in
theorem wk_ok210 : wk_okm wk_mt wk_mw 210 wk_m210 = true := wq_m_ok rfl (by decide +kernel)
set_option maxRecDepth 100000 in
theorem wk_ok211 : wk_okm wk_mt wk_mw 211 wk_m211 = true := wq_m_ok rfl (by decide +kernel)
set_option maxRecDepth 100000 in
theorem wk_ok212 : wk_okm wk_mt wk_mw 212 wk_m212 = true := wq_m_ok rfl (by decide +kernel)
set_option maxRecDepth 100000 in
theorem wk_ok213 : wk_okm wk_mt wk_mw 213 wk_m213 = true := wq_m_ok rfl (by decide +kernel)
set_option maxRecDepth 100000 in
theorem wk_ok214 : wk_okm wk_mt wk_mw 214 wk_m214 = true := wq_m_ok rfl (by decide +kernel)
set_option maxRecDepth 100000 in
theorem wk_ok215 : wk_okm wk_mt wk_mw 215 wk_m215 = true := wq_m_ok rfl (by decide +kernel)
set_option maxRecDepth 100000 in
theorem wk_ok216 : wk_okm wk_mt wk_mw 216 wk_m216 = true := wq_m_ok rfl (by decide +kernel)
set_option maxRecDepth 100000 in
theorem wk_ok217 : wk_okm wk_mt wk_mw 217 wk_m217 = true := wq_m_ok rfl (by decide +kernel)
set_option maxRecDepth 100000 in
theorem wk_ok218 : wk_okm wk_mt wk_mw 218 wk_m218 = true := wq_m_ok rfl (by decide +kernel)
set_option maxRecDepth 100000 in
theorem wk_ok219 : wk_okm wk_mt wk_mw 219 wk_m219 = true := wq_m_ok rfl (by decide +kernel)
set_option maxRecDepth 100000 in
theorem wk_ok220 : wk_okm wk_mt wk_mw 220 wk_m220 = true := wq_m_ok rfl (by decide +kernel)
set_option maxRecDepth 100000 in
theorem wk_ok221 : wk_okm wk_mt wk_mw 221 wk_m221 = true := wq_m_ok rfl (by decide +kernel)
set_option maxRecDepth 100000 in
theorem wk_ok222 : wk_okm wk_mt wk_mw 222 wk_m222 = true := wq_m_ok rfl (by decide +kernel)
set_option maxRecDepth 100000 in
theorem wk_ok223 : wk_okm wk_mt wk_mw 223 wk_m223 = true := wq_m_ok rfl (by decide +kernel)
set_option maxRecDepth 100000 in
theorem wk_ok224 : wk_okm wk_mt wk_mw 224 wk_m224 = true := wq_m_ok rfl (by decide +kernel)
set_option maxRecDepth 100000 in
theorem wk_ok225 : wk_okm wk_mt wk_mw 225 wk_m225 = true := wq_m_ok rfl (by decide +kernel)
set_option maxRecDepth 100000 in
theorem wk_ok226 : wk_okm wk_mt wk_mw 226 wk_m226 = true := wq_m_ok rfl (by decide +kernel)
set_option maxRecDepth 100000 in
theorem wk_ok227 : wk_okm wk_mt wk_mw 227 wk_m227 = true := wq_m_ok rfl (by decide +kernel)
set_option maxRecDepth 100000 in
theorem wk_ok228 : wk_okm wk_mt wk_mw 228 wk_m228 = true := wq_m_ok rfl (by decide +kernel)
set_option maxRecDepth 100000 in
theorem wk_ok229 : wk_okm wk_mt wk_mw 229 wk_m229 = true := wq_m_ok rfl (by decide +kernel)
set_option maxRecDepth 100000 in
theorem wk_ok230 : wk_okm wk_mt wk_mw 230 wk_m230 = true := wq_m_ok rfl (by decide +kernel)
set_option maxRecDepth 100000 in
theorem wk_ok231 : wk_okm wk_mt wk_mw 231 wk_m231 = true := wq_m_ok rfl (by decide +kernel)
set_option maxRecDepth 100000 in
theorem wk_ok232 : wk_okm wk_mt wk_mw 232 wk_m232 = true := wq_m_ok rfl (by decide +kernel)
set_option maxRecDepth 100000 in
theorem wk_ok233 : wk_okm wk_mt wk_mw 233 wk_m233 = true := wq_m_ok rfl (by decide +kernel)
set_option maxRecDepth 100000 in
theorem wk_ok234 : wk_okm wk_mt wk_mw 234 wk_m234 = true := wq_m_ok rfl (by decide +kernel)
set_option maxRecDepth 100000 in
theorem wk_ok235 : wk_okm wk_mt wk_mw 235 wk_m235 = true := wq_m_ok rfl (by decide +kernel)
set_option maxRecDepth 100000 in
theorem wk_ok236 : wk_okm wk_mt wk_mw 236 wk_m236 = true := wq_m_ok rfl (by decide +kernel)
set_option maxRecDepth 100000 in
theorem wk_ok237 : wk_okm wk_mt wk_mw 237 wk_m237 = true := wq_m_ok rfl (by decide +kernel)
set_option maxRecDepth 100000 in
theorem wk_ok238 : wk_okm wk_mt wk_mw 238 wk_m238 = true := wq_m_ok rfl (by decide +kernel)
set_option maxRecDepth 100000 in
theorem wk_ok239 : wk_okm wk_mt wk_mw 239 wk_m239 = true := wq_m_ok rfl (by decide +kernel)
set_option maxRecDepth 100000 in
theorem wk_ok240 : wk_okm wk_mt wk_mw 240 wk_m240 = true := wq_m_ok rfl (by decide +kernel)
set_option maxRecDepth 100000 in
theorem wk_ok241 : wk_okm wk_mt wk_mw 241 wk_m241 = true := wq_m_ok rfl (by decide +kernel)
set_option maxRecDepth 100000 in
theorem wk_ok242 : wk_okm wk_mt wk_mw 242 wk_m242 = true := wq_m_ok rfl (by decide +kernel)
set_option maxRecDepth 100000 in
theorem wk_ok243 : wk_okm wk_mt wk_mw 243 wk_m243 = true := wq_m_ok rfl (by decide +kernel)
set_option maxRecDepth 100000 in
theorem wk_ok244 : wk_okm wk_mt wk_mw 244 wk_m244 = true := wq_m_ok rfl (by decide +kernel)
set_option maxRecDepth 100000 in
theorem wk_ok245 : wk_okm wk_mt wk_mw 245 wk_m245 = true := wq_m_ok rfl (by decide +kernel)
set_option maxRecDepth 100000 in
theorem wk_ok246 : wk_okm wk_mt wk_mw 246 wk_m246 = true := wq_m_ok rfl (by decide +kernel)
set_option maxRecDepth 100000 in
theorem wk_ok247 : wk_okm wk_mt wk_mw 247 wk_m247 = true := wq_m_ok rfl (by decide +kernel)
set_option maxRecDepth 100000 in
theorem wk_ok248 : wk_okm wk_mt wk_mw 248 wk_m248 = true := wq_m_ok rfl (by decide +kernel)
set_option maxRecDepth 100000 in
theorem wk_ok249 : wk_okm wk_mt wk_mw 249 wk_m249 = true := wq_m_ok rfl (by decide +kernel)
set_option maxRecDepth 100000 in
theorem wk_ok250 : wk_okm wk_mt wk_mw 250 wk_m250 = true := wq_m_ok rfl (by decide +kernel)
set_option maxRecDepth 100000 in
theorem wk_ok251 : wk_okm wk_mt wk_mw 251 wk_m251 = true := wq_m_ok rfl (by decide +kernel)
set_option maxRecDepth 100000 in
theorem wk_ok252 : wk_okm wk_mt wk_mw 252 wk_m252 = true := wq_m_ok rfl (by decide +kernel)
set_option maxRecDepth 100000 in
theorem wk_ok253 : wk_okm wk_mt wk_mw 253 wk_m253 = true := wq_m_ok rfl (by decide +kernel)
set_option maxRecDepth 100000 in
theorem wk_ok254 : wk_okm wk_mt wk_mw 254 wk_m254 = true := wq_m_ok rfl (by decide +kernel)
set_option maxRecDepth 100000 in
theorem wk_ok255 : wk_okm wk_mt wk_mw 255 wk_m255 = true := wq_m_ok rfl (by decide +kernel)
set_option maxRecDepth 100000 in
theorem wk_ok256 : wk_okm wk_mt wk_mw 256 wk_m256 = true := wq_m_ok rfl (by decide +kernel)
set_option maxRecDepth 100000 in
theorem wk_ok257 : wk_okm wk_mt wk_mw 257 wk_m257 = true := wq_m_ok rfl (by decide +kernel)
set_option maxRecDepth 100000 in
theorem wk_ok258 : wk_okm wk_mt wk_mw 258 wk_m258 = true := wq_m_ok rfl (by decide +kernel)
set_option maxRecDepth 100000 in
theorem wk_ok259 : wk_okm wk_mt wk_mw 259 wk_m259 = true := wq_m_ok rfl (by decide +kernel)
set_option maxRecDepth 100000 in
theorem wk_ok260 : wk_okm wk_mt wk_mw 260 wk_m260 = true := wq_m_ok rfl (by decide +kernel)
set_option maxRecDepth 100000 in
theorem wk_ok261 : wk_okm wk_mt wk_mw 261 wk_m261 = true := wq_m_ok rfl (by decide +kernel)
set_option maxRecDepth 100000 in
theorem wk_ok262 : wk_okm wk_mt wk_mw 262 wk_m262 = true := wq_m_ok rfl (by decide +kernel)
set_option maxRecDepth 100000 in
theorem wk_ok263 : wk_okm wk_mt wk_mw 263 wk_m263 = true := wq_m_ok rfl (by decide +kernel)
set_option maxRecDepth 100000 in
theorem wk_ok264 : wk_okm wk_mt wk_mw 264 wk_m264 = true := wq_m_ok rfl (by decide +kernel)
set_option maxRecDepth 100000 in
theorem wk_ok265 : wk_okm wk_mt wk_mw 265 wk_m265 = true := wq_m_ok rfl (by decide +kernel)
set_option maxRecDepth 100000 in
theorem wk_ok266 : wk_okm wk_mt wk_mw 266 wk_m266 = true := wq_m_ok rfl (by decide +kernel)
set_option maxRecDepth 100000 in
theorem wk_ok267 : wk_okm wk_mt wk_mw 267 wk_m267 = true := wq_m_ok rfl (by decide +kernel)
set_option maxRecDepth 100000 in
theorem wk_ok268 : wk_okm wk_mt wk_mw 268 wk_m268 = true := wq_m_ok rfl (by decide +kernel)
set_option maxRecDepth 100000 in
theorem wk_ok269 : wk_okm wk_mt wk_mw 269 wk_m269 = true := wq_m_ok rfl (by decide +kernel)
set_option maxRecDepth 100000 in
theorem wk_ok270 : wk_okm wk_mt wk_mw 270 wk_m270 = true := wq_m_ok rfl (by decide +kernel)
set_option maxRecDepth 100000 in
theorem wk_ok271 : wk_okm wk_mt wk_mw 271 wk_m271 = true := wq_m_ok rfl (by decide +kernel)
set_option maxRecDepth 100000 in
theorem wk_ok272 : wk_okm wk_mt wk_mw 272 wk_m272 = true := wq_m_ok rfl (by decide +kernel)
set_option maxRecDepth 100000 in
theorem wk_ok273 : wk_okm wk_mt wk_mw 273 wk_m273 = true := wq_m_ok rfl (by decide +kernel)
set_option maxRecDepth 100000 in
theorem wk_ok274 : wk_okm wk_mt wk_mw 274 wk_m274 = true := wq_m_ok rfl (by decide +kernel)
set_option maxRecDepth 100000 in
theorem wk_ok275 : wk_okm wk_mt wk_mw 275 wk_m275 = true := wq_m_ok rfl (by decide +kernel)
