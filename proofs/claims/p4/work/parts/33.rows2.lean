/-! ===== the rows hold: methods 140 to 209 ===== -/
set_option maxRecDepth 100000 in
theorem wk_ok140 : wk_okm wk_mt wk_mw 140 wk_m140 = true := wq_m_ok rfl (by decide +kernel)
set_option maxRecDepth 100000 in
theorem wk_ok141 : wk_okm wk_mt wk_mw 141 wk_m141 = true := wq_m_ok rfl (by decide +kernel)
set_option maxRecDepth 100000 in
theorem wk_ok142 : wk_okm wk_mt wk_mw 142 wk_m142 = true := wq_m_ok rfl (by decide +kernel)
set_option maxRecDepth 100000 in
theorem wk_ok143 : wk_okm wk_mt wk_mw 143 wk_m143 = true := wq_m_ok rfl (by decide +kernel)
set_option maxRecDepth 100000 in
theorem wk_ok144 : wk_okm wk_mt wk_mw 144 wk_m144 = true := wq_m_ok rfl (by decide +kernel)
set_option maxRecDepth 100000 in
theorem wk_ok145 : wk_okm wk_mt wk_mw 145 wk_m145 = true := wq_m_ok rfl (by decide +kernel)
set_option maxRecDepth 100000 in
theorem wk_ok146 : wk_okm wk_mt wk_mw 146 wk_m146 = true := wq_m_ok rfl (by decide +kernel)
set_option maxRecDepth 100000 in
theorem wk_ok147 : wk_okm wk_mt wk_mw 147 wk_m147 = true := wq_m_ok rfl (by decide +kernel)
set_option maxRecDepth 100000 in
theorem wk_ok148 : wk_okm wk_mt wk_mw 148 wk_m148 = true := wq_m_ok rfl (by decide +kernel)
set_option maxRecDepth 100000 in
theorem wk_ok149 : wk_okm wk_mt wk_mw 149 wk_m149 = true := wq_m_ok rfl (by decide +kernel)
set_option maxRecDepth 100000 in
theorem wk_ok150 : wk_okm wk_mt wk_mw 150 wk_m150 = true := wq_m_ok rfl (by decide +kernel)
set_option maxRecDepth 100000 in
theorem wk_ok151 : wk_okm wk_mt wk_mw 151 wk_m151 = true := wq_m_ok rfl (by decide +kernel)
set_option maxRecDepth 100000 in
theorem wk_ok152 : wk_okm wk_mt wk_mw 152 wk_m152 = true := wq_m_ok rfl (by decide +kernel)
set_option maxRecDepth 100000 in
theorem wk_ok153 : wk_okm wk_mt wk_mw 153 wk_m153 = true := wq_m_ok rfl (by decide +kernel)
set_option maxRecDepth 100000 in
theorem wk_ok154 : wk_okm wk_mt wk_mw 154 wk_m154 = true := wq_m_ok rfl (by decide +kernel)
set_option maxRecDepth 100000 in
theorem wk_ok155 : wk_okm wk_mt wk_mw 155 wk_m155 = true := wq_m_ok rfl (by decide +kernel)
set_option maxRecDepth 100000 in
theorem wk_ok156 : wk_okm wk_mt wk_mw 156 wk_m156 = true := wq_m_ok rfl (by decide +kernel)
set_option maxRecDepth 100000 in
theorem wk_ok157 : wk_okm wk_mt wk_mw 157 wk_m157 = true := wq_m_ok rfl (by decide +kernel)
set_option maxRecDepth 100000 in
theorem wk_ok158 : wk_okm wk_mt wk_mw 158 wk_m158 = true := wq_m_ok rfl (by decide +kernel)
set_option maxRecDepth 100000 in
theorem wk_ok159 : wk_okm wk_mt wk_mw 159 wk_m159 = true := wq_m_ok rfl (by decide +kernel)
set_option maxRecDepth 100000 in
theorem wk_ok160 : wk_okm wk_mt wk_mw 160 wk_m160 = true := wq_m_ok rfl (by decide +kernel)
set_option maxRecDepth 100000 in
theorem wk_ok161 : wk_okm wk_mt wk_mw 161 wk_m161 = true := wq_m_ok rfl (by decide +kernel)
set_option maxRecDepth 100000 in
theorem wk_ok162 : wk_okm wk_mt wk_mw 162 wk_m162 = true := wq_m_ok rfl (by decide +kernel)
set_option maxRecDepth 100000 in
theorem wk_ok163 : wk_okm wk_mt wk_mw 163 wk_m163 = true := wq_m_ok rfl (by decide +kernel)
set_option maxRecDepth 100000 in
theorem wk_ok164 : wk_okm wk_mt wk_mw 164 wk_m164 = true := wq_m_ok rfl (by decide +kernel)
set_option maxRecDepth 100000 in
theorem wk_ok165 : wk_okm wk_mt wk_mw 165 wk_m165 = true := wq_m_ok rfl (by decide +kernel)
set_option maxRecDepth 100000 in
theorem wk_ok166 : wk_okm wk_mt wk_mw 166 wk_m166 = true := wq_m_ok rfl (by decide +kernel)
set_option maxRecDepth 100000 in
theorem wk_ok167 : wk_okm wk_mt wk_mw 167 wk_m167 = true := wq_m_ok rfl (by decide +kernel)
set_option maxRecDepth 100000 in
theorem wk_ok168 : wk_okm wk_mt wk_mw 168 wk_m168 = true := wq_m_ok rfl (by decide +kernel)
set_option maxRecDepth 100000 in
theorem wk_ok169 : wk_okm wk_mt wk_mw 169 wk_m169 = true := wq_m_ok rfl (by decide +kernel)
set_option maxRecDepth 100000 in
theorem wk_ok170 : wk_okm wk_mt wk_mw 170 wk_m170 = true := wq_m_ok rfl (by decide +kernel)
set_option maxRecDepth 100000 in
theorem wk_ok171 : wk_okm wk_mt wk_mw 171 wk_m171 = true := wq_m_ok rfl (by decide +kernel)
set_option maxRecDepth 100000 in
theorem wk_ok172 : wk_okm wk_mt wk_mw 172 wk_m172 = true := wq_m_ok rfl (by decide +kernel)
set_option maxRecDepth 100000 in
theorem wk_ok173 : wk_okm wk_mt wk_mw 173 wk_m173 = true := wq_m_ok rfl (by decide +kernel)
set_option maxRecDepth 100000 in
theorem wk_ok174 : wk_okm wk_mt wk_mw 174 wk_m174 = true := wq_m_ok rfl (by decide +kernel)
set_option maxRecDepth 100000 in
theorem wk_ok175 : wk_okm wk_mt wk_mw 175 wk_m175 = true := wq_m_ok rfl (by decide +kernel)
set_option maxRecDepth 100000 in
theorem wk_ok176 : wk_okm wk_mt wk_mw 176 wk_m176 = true := wq_m_ok rfl (by decide +kernel)
set_option maxRecDepth 100000 in
theorem wk_ok177 : wk_okm wk_mt wk_mw 177 wk_m177 = true := wq_m_ok rfl (by decide +kernel)
set_option maxRecDepth 100000 in
theorem wk_ok178 : wk_okm wk_mt wk_mw 178 wk_m178 = true := wq_m_ok rfl (by decide +kernel)
set_option maxRecDepth 100000 in
theorem wk_ok179 : wk_okm wk_mt wk_mw 179 wk_m179 = true := wq_m_ok rfl (by decide +kernel)
set_option maxRecDepth 100000 in
theorem wk_ok180 : wk_okm wk_mt wk_mw 180 wk_m180 = true := wq_m_ok rfl (by decide +kernel)
set_option maxRecDepth 100000 in
theorem wk_ok181 : wk_okm wk_mt wk_mw 181 wk_m181 = true := wq_m_ok rfl (by decide +kernel)
set_option maxRecDepth 100000 in
theorem wk_ok182 : wk_okm wk_mt wk_mw 182 wk_m182 = true := wq_m_ok rfl (by decide +kernel)
set_option maxRecDepth 100000 in
theorem wk_ok183 : wk_okm wk_mt wk_mw 183 wk_m183 = true := wq_m_ok rfl (by decide +kernel)
set_option maxRecDepth 100000 in
theorem wk_ok184 : wk_okm wk_mt wk_mw 184 wk_m184 = true := wq_m_ok rfl (by decide +kernel)
set_option maxRecDepth 100000 in
theorem wk_ok185 : wk_okm wk_mt wk_mw 185 wk_m185 = true := wq_m_ok rfl (by decide +kernel)
set_option maxRecDepth 100000 in
theorem wk_ok186 : wk_okm wk_mt wk_mw 186 wk_m186 = true := wq_m_ok rfl (by decide +kernel)
set_option maxRecDepth 100000 in
theorem wk_ok187 : wk_okm wk_mt wk_mw 187 wk_m187 = true := wq_m_ok rfl (by decide +kernel)
set_option maxRecDepth 100000 in
theorem wk_ok188 : wk_okm wk_mt wk_mw 188 wk_m188 = true := wq_m_ok rfl (by decide +kernel)
set_option maxRecDepth 100000 in
theorem wk_ok189 : wk_okm wk_mt wk_mw 189 wk_m189 = true := wq_m_ok rfl (by decide +kernel)
set_option maxRecDepth 100000 in
theorem wk_ok190 : wk_okm wk_mt wk_mw 190 wk_m190 = true := wq_m_ok rfl (by decide +kernel)
set_option maxRecDepth 100000 in
theorem wk_ok191 : wk_okm wk_mt wk_mw 191 wk_m191 = true := wq_m_ok rfl (by decide +kernel)
set_option maxRecDepth 100000 in
theorem wk_ok192 : wk_okm wk_mt wk_mw 192 wk_m192 = true := wq_m_ok rfl (by decide +kernel)
set_option maxRecDepth 100000 in
theorem wk_ok193 : wk_okm wk_mt wk_mw 193 wk_m193 = true := wq_m_ok rfl (by decide +kernel)
set_option maxRecDepth 100000 in
theorem wk_ok194 : wk_okm wk_mt wk_mw 194 wk_m194 = true := wq_m_ok rfl (by decide +kernel)
set_option maxRecDepth 100000 in
theorem wk_ok195 : wk_okm wk_mt wk_mw 195 wk_m195 = true := wq_m_ok rfl (by decide +kernel)
set_option maxRecDepth 100000 in
theorem wk_ok196 : wk_okm wk_mt wk_mw 196 wk_m196 = true := wq_m_ok rfl (by decide +kernel)
set_option maxRecDepth 100000 in
theorem wk_ok197 : wk_okm wk_mt wk_mw 197 wk_m197 = true := wq_m_ok rfl (by decide +kernel)
set_option maxRecDepth 100000 in
theorem wk_ok198 : wk_okm wk_mt wk_mw 198 wk_m198 = true := wq_m_ok rfl (by decide +kernel)
set_option maxRecDepth 100000 in
theorem wk_ok199 : wk_okm wk_mt wk_mw 199 wk_m199 = true := wq_m_ok rfl (by decide +kernel)
set_option maxRecDepth 100000 in
theorem wk_ok200 : wk_okm wk_mt wk_mw 200 wk_m200 = true := wq_m_ok rfl (by decide +kernel)
set_option maxRecDepth 100000 in
theorem wk_ok201 : wk_okm wk_mt wk_mw 201 wk_m201 = true := wq_m_ok rfl (by decide +kernel)
set_option maxRecDepth 100000 in
theorem wk_ok202 : wk_okm wk_mt wk_mw 202 wk_m202 = true := wq_m_ok rfl (by decide +kernel)
set_option maxRecDepth 100000 in
theorem wk_ok203 : wk_okm wk_mt wk_mw 203 wk_m203 = true := wq_m_ok rfl (by decide +kernel)
set_option maxRecDepth 100000 in
theorem wk_ok204 : wk_okm wk_mt wk_mw 204 wk_m204 = true := wq_m_ok rfl (by decide +kernel)
set_option maxRecDepth 100000 in
theorem wk_ok205 : wk_okm wk_mt wk_mw 205 wk_m205 = true := wq_m_ok rfl (by decide +kernel)
set_option maxRecDepth 100000 in
theorem wk_ok206 : wk_okm wk_mt wk_mw 206 wk_m206 = true := wq_m_ok rfl (by decide +kernel)
set_option maxRecDepth 100000 in
theorem wk_ok207 : wk_okm wk_mt wk_mw 207 wk_m207 = true := wq_m_ok rfl (by decide +kernel)
set_option maxRecDepth 100000 in
theorem wk_ok208 : wk_okm wk_mt wk_mw 208 wk_m208 = true := wq_m_ok rfl (by decide +kernel)
set_option maxRecDepth 100000 in
theorem wk_ok209 : wk_okm wk_mt wk_mw 209 wk_m209 = true := wq_m_ok rfl (by decide +kernel)
