/-! ===== the rows hold: methods 150 to 179 ===== -/
set_option maxRecDepth 100000 in
theorem wk_ok150 : wk_okm wk_mt wk_mw 150 wk_m150 = true := by decide +kernel
set_option maxRecDepth 100000 in
theorem wk_ok151 : wk_okm wk_mt wk_mw 151 wk_m151 = true := by decide +kernel
set_option maxRecDepth 100000 in
theorem wk_ok152 : wk_okm wk_mt wk_mw 152 wk_m152 = true := by decide +kernel
set_option maxRecDepth 100000 in
theorem wk_ok153 : wk_okm wk_mt wk_mw 153 wk_m153 = true := by decide +kernel
set_option maxRecDepth 100000 in
theorem wk_ok154 : wk_okm wk_mt wk_mw 154 wk_m154 = true := by decide +kernel
set_option maxRecDepth 100000 in
theorem wk_ok155 : wk_okm wk_mt wk_mw 155 wk_m155 = true := by decide +kernel
set_option maxRecDepth 100000 in
theorem wk_ok156 : wk_okm wk_mt wk_mw 156 wk_m156 = true := by decide +kernel
set_option maxRecDepth 100000 in
theorem wk_ok157 : wk_okm wk_mt wk_mw 157 wk_m157 = true := by decide +kernel
set_option maxRecDepth 100000 in
theorem wk_ok158 : wk_okm wk_mt wk_mw 158 wk_m158 = true := by decide +kernel
set_option maxRecDepth 100000 in
theorem wk_ok159 : wk_okm wk_mt wk_mw 159 wk_m159 = true := by decide +kernel
set_option maxRecDepth 100000 in
theorem wk_ok160 : wk_okm wk_mt wk_mw 160 wk_m160 = true := by decide +kernel
set_option maxRecDepth 100000 in
theorem wk_ok161 : wk_okm wk_mt wk_mw 161 wk_m161 = true := by decide +kernel
set_option maxRecDepth 100000 in
theorem wk_ok162 : wk_okm wk_mt wk_mw 162 wk_m162 = true := by decide +kernel
set_option maxRecDepth 100000 in
theorem wk_ok163 : wk_okm wk_mt wk_mw 163 wk_m163 = true := by decide +kernel
set_option maxRecDepth 100000 in
theorem wk_ok164 : wk_okm wk_mt wk_mw 164 wk_m164 = true := by decide +kernel
set_option maxRecDepth 100000 in
theorem wk_ok165 : wk_okm wk_mt wk_mw 165 wk_m165 = true := by decide +kernel
set_option maxRecDepth 100000 in
theorem wk_ok166 : wk_okm wk_mt wk_mw 166 wk_m166 = true := by decide +kernel
set_option maxRecDepth 100000 in
theorem wk_ok167 : wk_okm wk_mt wk_mw 167 wk_m167 = true := by decide +kernel
set_option maxRecDepth 100000 in
theorem wk_ok168 : wk_okm wk_mt wk_mw 168 wk_m168 = true := by decide +kernel
set_option maxRecDepth 100000 in
theorem wk_ok169 : wk_okm wk_mt wk_mw 169 wk_m169 = true := by decide +kernel
set_option maxRecDepth 100000 in
theorem wk_ok170 : wk_okm wk_mt wk_mw 170 wk_m170 = true := by decide +kernel
set_option maxRecDepth 100000 in
theorem wk_ok171 : wk_okm wk_mt wk_mw 171 wk_m171 = true := by decide +kernel
set_option maxRecDepth 100000 in
theorem wk_ok172 : wk_okm wk_mt wk_mw 172 wk_m172 = true := by decide +kernel
set_option maxRecDepth 100000 in
theorem wk_ok173 : wk_okm wk_mt wk_mw 173 wk_m173 = true := by decide +kernel
set_option maxRecDepth 100000 in
theorem wk_ok174 : wk_okm wk_mt wk_mw 174 wk_m174 = true := by decide +kernel
set_option maxRecDepth 100000 in
theorem wk_ok175 : wk_okm wk_mt wk_mw 175 wk_m175 = true := by decide +kernel
set_option maxRecDepth 100000 in
theorem wk_ok176 : wk_okm wk_mt wk_mw 176 wk_m176 = true := by decide +kernel
set_option maxRecDepth 100000 in
theorem wk_ok177 : wk_okm wk_mt wk_mw 177 wk_m177 = true := by decide +kernel
set_option maxRecDepth 100000 in
theorem wk_ok178 : wk_okm wk_mt wk_mw 178 wk_m178 = true := by decide +kernel
set_option maxRecDepth 100000 in
theorem wk_ok179 : wk_okm wk_mt wk_mw 179 wk_m179 = true := by decide +kernel
