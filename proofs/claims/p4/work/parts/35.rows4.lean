/-! ===== the rows hold: methods 120 to 149 ===== -/
set_option maxRecDepth 100000 in
theorem wk_ok120 : wk_okm wk_mt wk_mw 120 wk_m120 = true := by decide +kernel
set_option maxRecDepth 100000 in
theorem wk_ok121 : wk_okm wk_mt wk_mw 121 wk_m121 = true := by decide +kernel
set_option maxRecDepth 100000 in
theorem wk_ok122 : wk_okm wk_mt wk_mw 122 wk_m122 = true := by decide +kernel
set_option maxRecDepth 100000 in
theorem wk_ok123 : wk_okm wk_mt wk_mw 123 wk_m123 = true := by decide +kernel
set_option maxRecDepth 100000 in
theorem wk_ok124 : wk_okm wk_mt wk_mw 124 wk_m124 = true := by decide +kernel
set_option maxRecDepth 100000 in
theorem wk_ok125 : wk_okm wk_mt wk_mw 125 wk_m125 = true := by decide +kernel
set_option maxRecDepth 100000 in
theorem wk_ok126 : wk_okm wk_mt wk_mw 126 wk_m126 = true := by decide +kernel
set_option maxRecDepth 100000 in
theorem wk_ok127 : wk_okm wk_mt wk_mw 127 wk_m127 = true := by decide +kernel
set_option maxRecDepth 100000 in
theorem wk_ok128 : wk_okm wk_mt wk_mw 128 wk_m128 = true := by decide +kernel
set_option maxRecDepth 100000 in
theorem wk_ok129 : wk_okm wk_mt wk_mw 129 wk_m129 = true := by decide +kernel
set_option maxRecDepth 100000 in
theorem wk_ok130 : wk_okm wk_mt wk_mw 130 wk_m130 = true := by decide +kernel
set_option maxRecDepth 100000 in
theorem wk_ok131 : wk_okm wk_mt wk_mw 131 wk_m131 = true := by decide +kernel
set_option maxRecDepth 100000 in
theorem wk_ok132 : wk_okm wk_mt wk_mw 132 wk_m132 = true := by decide +kernel
set_option maxRecDepth 100000 in
theorem wk_ok133 : wk_okm wk_mt wk_mw 133 wk_m133 = true := by decide +kernel
set_option maxRecDepth 100000 in
theorem wk_ok134 : wk_okm wk_mt wk_mw 134 wk_m134 = true := by decide +kernel
set_option maxRecDepth 100000 in
theorem wk_ok135 : wk_okm wk_mt wk_mw 135 wk_m135 = true := by decide +kernel
set_option maxRecDepth 100000 in
theorem wk_ok136 : wk_okm wk_mt wk_mw 136 wk_m136 = true := by decide +kernel
set_option maxRecDepth 100000 in
theorem wk_ok137 : wk_okm wk_mt wk_mw 137 wk_m137 = true := by decide +kernel
set_option maxRecDepth 100000 in
theorem wk_ok138 : wk_okm wk_mt wk_mw 138 wk_m138 = true := by decide +kernel
set_option maxRecDepth 100000 in
theorem wk_ok139 : wk_okm wk_mt wk_mw 139 wk_m139 = true := by decide +kernel
set_option maxRecDepth 100000 in
theorem wk_ok140 : wk_okm wk_mt wk_mw 140 wk_m140 = true := by decide +kernel
set_option maxRecDepth 100000 in
theorem wk_ok141 : wk_okm wk_mt wk_mw 141 wk_m141 = true := by decide +kernel
set_option maxRecDepth 100000 in
theorem wk_ok142 : wk_okm wk_mt wk_mw 142 wk_m142 = true := by decide +kernel
set_option maxRecDepth 100000 in
theorem wk_ok143 : wk_okm wk_mt wk_mw 143 wk_m143 = true := by decide +kernel
set_option maxRecDepth 100000 in
theorem wk_ok144 : wk_okm wk_mt wk_mw 144 wk_m144 = true := by decide +kernel
set_option maxRecDepth 100000 in
theorem wk_ok145 : wk_okm wk_mt wk_mw 145 wk_m145 = true := by decide +kernel
set_option maxRecDepth 100000 in
theorem wk_ok146 : wk_okm wk_mt wk_mw 146 wk_m146 = true := by decide +kernel
set_option maxRecDepth 100000 in
theorem wk_ok147 : wk_okm wk_mt wk_mw 147 wk_m147 = true := by decide +kernel
set_option maxRecDepth 100000 in
theorem wk_ok148 : wk_okm wk_mt wk_mw 148 wk_m148 = true := by decide +kernel
set_option maxRecDepth 100000 in
theorem wk_ok149 : wk_okm wk_mt wk_mw 149 wk_m149 = true := by decide +kernel
