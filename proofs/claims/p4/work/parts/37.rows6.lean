/-! ===== the rows hold: methods 180 to 209 ===== -/
set_option maxRecDepth 100000 in
theorem wk_ok180 : wk_okm wk_mt wk_mw 180 wk_m180 = true := wk_okm_q [8, 17, 10, 12] "EvenSides$Reader" rfl (wk_qall wk_q_Reader_ok) (wk_alls_r wk_h_Reader 10 rfl) (by decide +kernel)
set_option maxRecDepth 100000 in
theorem wk_ok181 : wk_okm wk_mt wk_mw 181 wk_m181 = true := wk_okm_q [31, 32, 33, 34, 35, 36, 37, 37, 38] "EvenSides$Told" rfl (wk_qall wk_q_Told_ok) (wk_alls_r wk_h_Told 25 rfl) (by decide +kernel)
set_option maxRecDepth 100000 in
theorem wk_ok182 : wk_okm wk_mt wk_mw 182 wk_m182 = true := wk_okm_q [17, 17, 39] "EvenSides$Told" rfl (wk_qall wk_q_Told_ok) (wk_alls_r wk_h_Told 26 rfl) (by decide +kernel)
set_option maxRecDepth 100000 in
theorem wk_ok183 : wk_okm wk_mt wk_mw 183 wk_m183 = true := wk_okm_q [32, 33, 34, 34, 35, 36, 37] "EvenSides$Acts" rfl (wk_qall wk_q_Acts_ok) (wk_alls_r wk_h_Acts 4 rfl) (by decide +kernel)
set_option maxRecDepth 100000 in
theorem wk_ok184 : wk_okm wk_mt wk_mw 184 wk_m184 = true := wk_okm_q [12, 38, 12, 39, 19, 40, 41, 42] "EvenSides$Acts" rfl (wk_qall wk_q_Acts_ok) (wk_alls_r wk_h_Acts 5 rfl) (by decide +kernel)
set_option maxRecDepth 100000 in
theorem wk_ok185 : wk_okm wk_mt wk_mw 185 wk_m185 = true := wk_okm_q [25, 12, 43, 25, 12, 44, 43, 29, 45] "EvenSides$Acts" rfl (wk_qall wk_q_Acts_ok) (wk_alls_r wk_h_Acts 6 rfl) (by decide +kernel)
set_option maxRecDepth 100000 in
theorem wk_ok186 : wk_okm wk_mt wk_mw 186 wk_m186 = true := wk_okm_q [17] "EvenSides$Told" rfl (wk_qall wk_q_Told_ok) (wk_alls_r wk_h_Told 27 rfl) (by decide +kernel)
set_option maxRecDepth 100000 in
theorem wk_ok187 : wk_okm wk_mt wk_mw 187 wk_m187 = true := wk_okm_q [25, 46, 25] "EvenSides$Acts" rfl (wk_qall wk_q_Acts_ok) (wk_alls_r wk_h_Acts 7 rfl) (by decide +kernel)
set_option maxRecDepth 100000 in
theorem wk_ok188 : wk_okm wk_mt wk_mw 188 wk_m188 = true := wk_okm_q [47, 12, 48, 47, 12, 48] "EvenSides$Acts" rfl (wk_qall wk_q_Acts_ok) (wk_alls_r wk_h_Acts 8 rfl) (by decide +kernel)
set_option maxRecDepth 100000 in
theorem wk_ok189 : wk_okm wk_mt wk_mw 189 wk_m189 = true := wk_okm_q [27, 12, 13, 25, 29, 46] "EvenSides$Acts" rfl (wk_qall wk_q_Acts_ok) (wk_alls_r wk_h_Acts 9 rfl) (by decide +kernel)
set_option maxRecDepth 100000 in
theorem wk_ok190 : wk_okm wk_mt wk_mw 190 wk_m190 = true := wk_okm_q [25, 46, 25, 25, 19] "EvenSides$Acts" rfl (wk_qall wk_q_Acts_ok) (wk_alls_r wk_h_Acts 10 rfl) (by decide +kernel)
set_option maxRecDepth 100000 in
theorem wk_ok191 : wk_okm wk_mt wk_mw 191 wk_m191 = true := wk_okm_q [12, 39, 25, 44, 25, 19, 40] "EvenSides$Acts" rfl (wk_qall wk_q_Acts_ok) (wk_alls_r wk_h_Acts 11 rfl) (by decide +kernel)
set_option maxRecDepth 100000 in
theorem wk_ok192 : wk_okm wk_mt wk_mw 192 wk_m192 = true := wk_okm_q [12, 39, 12, 39, 25, 44, 41, 25, 42] "EvenSides$Acts" rfl (wk_qall wk_q_Acts_ok) (wk_alls_r wk_h_Acts 12 rfl) (by decide +kernel)
set_option maxRecDepth 100000 in
theorem wk_ok193 : wk_okm wk_mt wk_mw 193 wk_m193 = true := wk_okm_q [12, 39, 23, 40, 12, 13, 45, 23, 40, 27] "EvenSides$Acts" rfl (wk_qall wk_q_Acts_ok) (wk_alls_r wk_h_Acts 13 rfl) (by decide +kernel)
set_option maxRecDepth 100000 in
theorem wk_ok194 : wk_okm wk_mt wk_mw 194 wk_m194 = true := wk_okm_q [12, 39, 27, 27, 23, 40] "EvenSides$Acts" rfl (wk_qall wk_q_Acts_ok) (wk_alls_r wk_h_Acts 14 rfl) (by decide +kernel)
set_option maxRecDepth 100000 in
theorem wk_ok195 : wk_okm wk_mt wk_mw 195 wk_m195 = true := wk_okm_q [12, 49, 40, 12, 50, 51, 12, 52, 40, 53, 15, 54, 16, 30, 17, 21] "EvenSides$Acts" rfl (wk_qall wk_q_Acts_ok) (wk_alls_r wk_h_Acts 15 rfl) (by decide +kernel)
set_option maxRecDepth 100000 in
theorem wk_ok196 : wk_okm wk_mt wk_mw 196 wk_m196 = true := wk_okm_q [12, 55, 25, 12, 46, 43] "EvenSides$Acts" rfl (wk_qall wk_q_Acts_ok) (wk_alls_r wk_h_Acts 16 rfl) (by decide +kernel)
set_option maxRecDepth 100000 in
theorem wk_ok197 : wk_okm wk_mt wk_mw 197 wk_m197 = true := wk_okm_q [12, 55, 47, 47, 56, 28, 12, 48, 28, 28, 12, 48] "EvenSides$Acts" rfl (wk_qall wk_q_Acts_ok) (wk_alls_r wk_h_Acts 17 rfl) (by decide +kernel)
set_option maxRecDepth 100000 in
theorem wk_ok198 : wk_okm wk_mt wk_mw 198 wk_m198 = true := wk_okm_q [16, 17, 17, 40] "EvenSides$Told" rfl (wk_qall wk_q_Told_ok) (wk_alls_r wk_h_Told 28 rfl) (by decide +kernel)
set_option maxRecDepth 100000 in
theorem wk_ok199 : wk_okm wk_mt wk_mw 199 wk_m199 = true := wk_okm_q [] "EvenSides" rfl (wk_qall wk_q_Top_ok) (wk_alls_r wk_h_Top 43 rfl) (by decide +kernel)
set_option maxRecDepth 100000 in
theorem wk_ok200 : wk_okm wk_mt wk_mw 200 wk_m200 = true := wk_okm_q [38, 38] "EvenSides" rfl (wk_qall wk_q_Top_ok) (wk_alls_r wk_h_Top 44 rfl) (by decide +kernel)
set_option maxRecDepth 100000 in
theorem wk_ok201 : wk_okm wk_mt wk_mw 201 wk_m201 = true := wk_okm_q [22, 25] "EvenSides$Told" rfl (wk_qall wk_q_Told_ok) (wk_alls_r wk_h_Told 29 rfl) (by decide +kernel)
set_option maxRecDepth 100000 in
theorem wk_ok202 : wk_okm wk_mt wk_mw 202 wk_m202 = true := wk_okm_q [3, 7, 17, 3, 7, 17, 5, 18, 19] "EvenSides$Legs" rfl (wk_qall wk_q_Legs_ok) (wk_alls_r wk_h_Legs 3 rfl) (by decide +kernel)
set_option maxRecDepth 100000 in
theorem wk_ok203 : wk_okm wk_mt wk_mw 203 wk_m203 = true := wk_okm_q [18, 5, 18] "EvenSides$Legs" rfl (wk_qall wk_q_Legs_ok) (wk_alls_r wk_h_Legs 4 rfl) (by decide +kernel)
set_option maxRecDepth 100000 in
theorem wk_ok204 : wk_okm wk_mt wk_mw 204 wk_m204 = true := wk_okm_q [19, 5, 19] "EvenSides$Legs" rfl (wk_qall wk_q_Legs_ok) (wk_alls_r wk_h_Legs 5 rfl) (by decide +kernel)
set_option maxRecDepth 100000 in
theorem wk_ok205 : wk_okm wk_mt wk_mw 205 wk_m205 = true := wk_okm_q [3, 5, 27, 10, 12] "EvenSides$Scales" rfl (wk_qall wk_q_Scales_ok) (wk_alls_r wk_h_Scales 9 rfl) (by decide +kernel)
set_option maxRecDepth 100000 in
theorem wk_ok206 : wk_okm wk_mt wk_mw 206 wk_m206 = true := wk_okm_q [3, 1, 18, 5, 7, 5, 6, 10, 12, 10] "EvenSides$Scales" rfl (wk_qall wk_q_Scales_ok) (wk_alls_r wk_h_Scales 10 rfl) (by decide +kernel)
set_option maxRecDepth 100000 in
theorem wk_ok207 : wk_okm wk_mt wk_mw 207 wk_m207 = true := wk_okm_q [10, 10] "EvenSides$Scales" rfl (wk_qall wk_q_Scales_ok) (wk_alls_r wk_h_Scales 11 rfl) (by decide +kernel)
set_option maxRecDepth 100000 in
theorem wk_ok208 : wk_okm wk_mt wk_mw 208 wk_m208 = true := wk_okm_q [1, 2, 39, 3, 5, 40, 38, 1, 4, 38, 5, 7, 5, 13, 8, 38, 5, 7, 5, 13, 8] "EvenSides$Scales" rfl (wk_qall wk_q_Scales_ok) (wk_alls_r wk_h_Scales 12 rfl) (by decide +kernel)
set_option maxRecDepth 100000 in
theorem wk_ok209 : wk_okm wk_mt wk_mw 209 wk_m209 = true := wk_okm_q [1, 18, 5, 13, 10, 10] "EvenSides$Scales" rfl (wk_qall wk_q_Scales_ok) (wk_alls_r wk_h_Scales 13 rfl) (by decide +kernel)
