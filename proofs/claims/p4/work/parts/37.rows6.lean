/-! ===== the rows hold: methods 180 to 209 ===== -/
set_option maxRecDepth 100000 in
theorem wk_ok180 : wk_okm wk_mt wk_mw 180 wk_m180 = true := by decide +kernel
set_option maxRecDepth 100000 in
theorem wk_ok181 : wk_okm wk_mt wk_mw 181 wk_m181 = true := by decide +kernel
set_option maxRecDepth 100000 in
theorem wk_ok182 : wk_okm wk_mt wk_mw 182 wk_m182 = true := by decide +kernel
set_option maxRecDepth 100000 in
theorem wk_ok183 : wk_okm wk_mt wk_mw 183 wk_m183 = true := by decide +kernel
set_option maxRecDepth 100000 in
theorem wk_ok184 : wk_okm wk_mt wk_mw 184 wk_m184 = true := by decide +kernel
set_option maxRecDepth 100000 in
theorem wk_ok185 : wk_okm wk_mt wk_mw 185 wk_m185 = true := by decide +kernel
set_option maxRecDepth 100000 in
theorem wk_ok186 : wk_okm wk_mt wk_mw 186 wk_m186 = true := by decide +kernel
set_option maxRecDepth 100000 in
theorem wk_ok187 : wk_okm wk_mt wk_mw 187 wk_m187 = true := by decide +kernel
set_option maxRecDepth 100000 in
theorem wk_ok188 : wk_okm wk_mt wk_mw 188 wk_m188 = true := by decide +kernel
set_option maxRecDepth 100000 in
theorem wk_ok189 : wk_okm wk_mt wk_mw 189 wk_m189 = true := by decide +kernel
set_option maxRecDepth 100000 in
theorem wk_ok190 : wk_okm wk_mt wk_mw 190 wk_m190 = true := by decide +kernel
set_option maxRecDepth 100000 in
theorem wk_ok191 : wk_okm wk_mt wk_mw 191 wk_m191 = true := by decide +kernel
set_option maxRecDepth 100000 in
theorem wk_ok192 : wk_okm wk_mt wk_mw 192 wk_m192 = true := by decide +kernel
set_option maxRecDepth 100000 in
theorem wk_ok193 : wk_okm wk_mt wk_mw 193 wk_m193 = true := by decide +kernel
set_option maxRecDepth 100000 in
theorem wk_ok194 : wk_okm wk_mt wk_mw 194 wk_m194 = true := by decide +kernel
set_option maxRecDepth 100000 in
theorem wk_ok195 : wk_okm wk_mt wk_mw 195 wk_m195 = true := by decide +kernel
set_option maxRecDepth 100000 in
theorem wk_ok196 : wk_okm wk_mt wk_mw 196 wk_m196 = true := by decide +kernel
set_option maxRecDepth 100000 in
theorem wk_ok197 : wk_okm wk_mt wk_mw 197 wk_m197 = true := by decide +kernel
set_option maxRecDepth 100000 in
theorem wk_ok198 : wk_okm wk_mt wk_mw 198 wk_m198 = true := by decide +kernel
set_option maxRecDepth 100000 in
theorem wk_ok199 : wk_okm wk_mt wk_mw 199 wk_m199 = true := by decide +kernel
set_option maxRecDepth 100000 in
theorem wk_ok200 : wk_okm wk_mt wk_mw 200 wk_m200 = true := by decide +kernel
set_option maxRecDepth 100000 in
theorem wk_ok201 : wk_okm wk_mt wk_mw 201 wk_m201 = true := by decide +kernel
set_option maxRecDepth 100000 in
theorem wk_ok202 : wk_okm wk_mt wk_mw 202 wk_m202 = true := by decide +kernel
set_option maxRecDepth 100000 in
theorem wk_ok203 : wk_okm wk_mt wk_mw 203 wk_m203 = true := by decide +kernel
set_option maxRecDepth 100000 in
theorem wk_ok204 : wk_okm wk_mt wk_mw 204 wk_m204 = true := by decide +kernel
set_option maxRecDepth 100000 in
theorem wk_ok205 : wk_okm wk_mt wk_mw 205 wk_m205 = true := by decide +kernel
set_option maxRecDepth 100000 in
theorem wk_ok206 : wk_okm wk_mt wk_mw 206 wk_m206 = true := by decide +kernel
set_option maxRecDepth 100000 in
theorem wk_ok207 : wk_okm wk_mt wk_mw 207 wk_m207 = true := by decide +kernel
set_option maxRecDepth 100000 in
theorem wk_ok208 : wk_okm wk_mt wk_mw 208 wk_m208 = true := by decide +kernel
set_option maxRecDepth 100000 in
theorem wk_ok209 : wk_okm wk_mt wk_mw 209 wk_m209 = true := by decide +kernel
