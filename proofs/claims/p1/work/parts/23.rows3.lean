/-! ===== the rows hold: methods 132 to 171 ===== -/
set_option maxRecDepth 100000 in
theorem wk_ok132 : wk_okm wk_mt wk_mw 132 wk_m132 = true := by decide +kernel
set_option maxRecDepth 100000 in
theorem wk_ok133 : wk_okm wk_mt wk_mw 133 wk_m133 = true := by decide +kernel
set_option maxRecDepth 100000 in
theorem wk_ok134 : wk_okm wk_mt wk_mw 134 wk_m134 = true := by decide +kernel
set_option maxRecDepth 100000 in
theorem wk_ok135 : wk_okm wk_mt wk_mw 135 wk_m135 = true := by decide +kernel
set_option maxRecDepth 100000 in
theorem wk_ok136 : wk_okm wk_mt wk_mw 136 wk_m136 = true := by decide +kernel
set_option maxRecDepth 100000 in
theorem wk_ok137 : wk_okm wk_mt wk_mw 137 wk_m137 = true := by decide +kernel
set_option maxRecDepth 100000 in
theorem wk_ok138 : wk_okm wk_mt wk_mw 138 wk_m138 = true := by decide +kernel
set_option maxRecDepth 100000 in
theorem wk_ok139 : wk_okm wk_mt wk_mw 139 wk_m139 = true := by decide +kernel
set_option maxRecDepth 100000 in
theorem wk_ok140 : wk_okm wk_mt wk_mw 140 wk_m140 = true := by decide +kernel
set_option maxRecDepth 100000 in
theorem wk_ok141 : wk_okm wk_mt wk_mw 141 wk_m141 = true := by decide +kernel
set_option maxRecDepth 100000 in
theorem wk_ok142 : wk_okm wk_mt wk_mw 142 wk_m142 = true := by decide +kernel
set_option maxRecDepth 100000 in
theorem wk_ok143 : wk_okm wk_mt wk_mw 143 wk_m143 = true := by decide +kernel
set_option maxRecDepth 100000 in
theorem wk_ok144 : wk_okm wk_mt wk_mw 144 wk_m144 = true := by decide +kernel
set_option maxRecDepth 100000 in
theorem wk_ok145 : wk_okm wk_mt wk_mw 145 wk_m145 = true := by decide +kernel
set_option maxRecDepth 100000 in
theorem wk_ok146 : wk_okm wk_mt wk_mw 146 wk_m146 = true := by decide +kernel
set_option maxRecDepth 100000 in
theorem wk_ok147 : wk_okm wk_mt wk_mw 147 wk_m147 = true := by decide +kernel
set_option maxRecDepth 100000 in
theorem wk_ok148 : wk_okm wk_mt wk_mw 148 wk_m148 = true := by decide +kernel
set_option maxRecDepth 100000 in
theorem wk_ok149 : wk_okm wk_mt wk_mw 149 wk_m149 = true := by decide +kernel
set_option maxRecDepth 100000 in
theorem wk_ok150 : wk_okm wk_mt wk_mw 150 wk_m150 = true := by decide +kernel
set_option maxRecDepth 100000 in
theorem wk_ok151 : wk_okm wk_mt wk_mw 151 wk_m151 = true := by decide +kernel
set_option maxRecDepth 100000 in
theorem wk_ok152 : wk_okm wk_mt wk_mw 152 wk_m152 = true := by decide +kernel
set_option maxRecDepth 100000 in
theorem wk_ok153 : wk_okm wk_mt wk_mw 153 wk_m153 = true := by decide +kernel
set_option maxRecDepth 100000 in
theorem wk_ok154 : wk_okm wk_mt wk_mw 154 wk_m154 = true := by decide +kernel
set_option maxRecDepth 100000 in
theorem wk_ok155 : wk_okm wk_mt wk_mw 155 wk_m155 = true := by decide +kernel
set_option maxRecDepth 100000 in
theorem wk_ok156 : wk_okm wk_mt wk_mw 156 wk_m156 = true := by decide +kernel
set_option maxRecDepth 100000 in
theorem wk_ok157 : wk_okm wk_mt wk_mw 157 wk_m157 = true := by decide +kernel
set_option maxRecDepth 100000 in
theorem wk_ok158 : wk_okm wk_mt wk_mw 158 wk_m158 = true := by decide +kernel
set_option maxRecDepth 100000 in
theorem wk_ok159 : wk_okm wk_mt wk_mw 159 wk_m159 = true := by decide +kernel
set_option maxRecDepth 100000 in
theorem wk_ok160 : wk_okm wk_mt wk_mw 160 wk_m160 = true := by decide +kernel
set_option maxRecDepth 100000 in
theorem wk_ok161 : wk_okm wk_mt wk_mw 161 wk_m161 = true := by decide +kernel
set_option maxRecDepth 100000 in
theorem wk_ok162 : wk_okm wk_mt wk_mw 162 wk_m162 = true := by decide +kernel
set_option maxRecDepth 100000 in
theorem wk_ok163 : wk_okm wk_mt wk_mw 163 wk_m163 = true := by decide +kernel
set_option maxRecDepth 100000 in
theorem wk_ok164 : wk_okm wk_mt wk_mw 164 wk_m164 = true := by decide +kernel
set_option maxRecDepth 100000 in
theorem wk_ok165 : wk_okm wk_mt wk_mw 165 wk_m165 = true := by decide +kernel
set_option maxRecDepth 100000 in
theorem wk_ok166 : wk_okm wk_mt wk_mw 166 wk_m166 = true := by decide +kernel
set_option maxRecDepth 100000 in
theorem wk_ok167 : wk_okm wk_mt wk_mw 167 wk_m167 = true := by decide +kernel
set_option maxRecDepth 100000 in
theorem wk_ok168 : wk_okm wk_mt wk_mw 168 wk_m168 = true := by decide +kernel
set_option maxRecDepth 100000 in
theorem wk_ok169 : wk_okm wk_mt wk_mw 169 wk_m169 = true := by decide +kernel
set_option maxRecDepth 100000 in
theorem wk_ok170 : wk_okm wk_mt wk_mw 170 wk_m170 = true := by decide +kernel
set_option maxRecDepth 100000 in
theorem wk_ok171 : wk_okm wk_mt wk_mw 171 wk_m171 = true := by decide +kernel
