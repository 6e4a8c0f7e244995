/-! ===== the rows hold: methods 70 to 139 ===== -/
set_option maxRecDepth 100000 in
theorem wk_ok70 : wk_okm wk_mt wk_mw 70 wk_m70 = true := wq_m_ok rfl (by decide +kernel)
set_option maxRecDepth 100000 in
theorem wk_ok71 : wk_okm wk_mt wk_mw 71 wk_m71 = true := wq_m_ok rfl (by decide +kernel)
set_option maxRecDepth 100000 in
theorem wk_ok72 : wk_okm wk_mt wk_mw 72 wk_m72 = true := wq_m_ok rfl (by decide +kernel)
set_option maxRecDepth 100000 in
theorem wk_ok73 : wk_okm wk_mt wk_mw 73 wk_m73 = true := wq_m_ok rfl (by decide +kernel)
set_option maxRecDepth 100000 in
theorem wk_ok74 : wk_okm wk_mt wk_mw 74 wk_m74 = true := wq_m_ok rfl (by decide +kernel)
set_option maxRecDepth 100000 in
theorem wk_ok75 : wk_okm wk_mt wk_mw 75 wk_m75 = true := wq_m_ok rfl (by decide +kernel)
set_option maxRecDepth 100000 in
theorem wk_ok76 : wk_okm wk_mt wk_mw 76 wk_m76 = true := wq_m_ok rfl (by decide +kernel)
set_option maxRecDepth 100000 in
theorem wk_ok77 : wk_okm wk_mt wk_mw 77 wk_m77 = true := wq_m_ok rfl (by decide +kernel)
set_option maxRecDepth 100000 in
theorem wk_ok78 : wk_okm wk_mt wk_mw 78 wk_m78 = true := wq_m_ok rfl (by decide +kernel)
set_option maxRecDepth 100000 in
theorem wk_ok79 : wk_okm wk_mt wk_mw 79 wk_m79 = true := wq_m_ok rfl (by decide +kernel)
set_option maxRecDepth 100000 in
theorem wk_ok80 : wk_okm wk_mt wk_mw 80 wk_m80 = true := wq_m_ok rfl (by decide +kernel)
set_option maxRecDepth 100000 in
theorem wk_ok81 : wk_okm wk_mt wk_mw 81 wk_m81 = true := wq_m_ok rfl (by decide +kernel)
set_option maxRecDepth 100000 in
theorem wk_ok82 : wk_okm wk_mt wk_mw 82 wk_m82 = true := wq_m_ok rfl (by decide +kernel)
set_option maxRecDepth 100000 in
theorem wk_ok83 : wk_okm wk_mt wk_mw 83 wk_m83 = true := wq_m_ok rfl (by decide +kernel)
set_option maxRecDepth 100000 in
theorem wk_ok84 : wk_okm wk_mt wk_mw 84 wk_m84 = true := wq_m_ok rfl (by decide +kernel)
set_option maxRecDepth 100000 in
theorem wk_ok85 : wk_okm wk_mt wk_mw 85 wk_m85 = true := wq_m_ok rfl (by decide +kernel)
set_option maxRecDepth 100000 in
theorem wk_ok86 : wk_okm wk_mt wk_mw 86 wk_m86 = true := wq_m_ok rfl (by decide +kernel)
set_option maxRecDepth 100000 in
theorem wk_ok87 : wk_okm wk_mt wk_mw 87 wk_m87 = true := wq_m_ok rfl (by decide +kernel)
set_option maxRecDepth 100000 in
theorem wk_ok88 : wk_okm wk_mt wk_mw 88 wk_m88 = true := wq_m_ok rfl (by decide +kernel)
set_option maxRecDepth 100000 in
theorem wk_ok89 : wk_okm wk_mt wk_mw 89 wk_m89 = true := wq_m_ok rfl (by decide +kernel)
set_option maxRecDepth 100000 in
theorem wk_ok90 : wk_okm wk_mt wk_mw 90 wk_m90 = true := wq_m_ok rfl (by decide +kernel)
set_option maxRecDepth 100000 in
theorem wk_ok91 : wk_okm wk_mt wk_mw 91 wk_m91 = true := wq_m_ok rfl (by decide +kernel)
set_option maxRecDepth 100000 in
theorem wk_ok92 : wk_okm wk_mt wk_mw 92 wk_m92 = true := wq_m_ok rfl (by decide +kernel)
set_option maxRecDepth 100000 in
theorem wk_ok93 : wk_okm wk_mt wk_mw 93 wk_m93 = true := wq_m_ok rfl (by decide +kernel)
set_option maxRecDepth 100000 in
theorem wk_ok94 : wk_okm wk_mt wk_mw 94 wk_m94 = true := wq_m_ok rfl (by decide +kernel)
set_option maxRecDepth 100000 in
theorem wk_ok95 : wk_okm wk_mt wk_mw 95 wk_m95 = true := wq_m_ok rfl (by decide +kernel)
set_option maxRecDepth 100000 in
theorem wk_ok96 : wk_okm wk_mt wk_mw 96 wk_m96 = true := wq_m_ok rfl (by decide +kernel)
set_option maxRecDepth 100000 in
theorem wk_ok97 : wk_okm wk_mt wk_mw 97 wk_m97 = true := wq_m_ok rfl (by decide +kernel)
set_option maxRecDepth 100000 in
theorem wk_ok98 : wk_okm wk_mt wk_mw 98 wk_m98 = true := wq_m_ok rfl (by decide +kernel)
set_option maxRecDepth 100000 in
theorem wk_ok99 : wk_okm wk_mt wk_mw 99 wk_m99 = true := wq_m_ok rfl (by decide +kernel)
set_option maxRecDepth 100000 in
theorem wk_ok100 : wk_okm wk_mt wk_mw 100 wk_m100 = true := wq_m_ok rfl (by decide +kernel)
set_option maxRecDepth 100000 in
theorem wk_ok101 : wk_okm wk_mt wk_mw 101 wk_m101 = true := wq_m_ok rfl (by decide +kernel)
set_option maxRecDepth 100000 in
theorem wk_ok102 : wk_okm wk_mt wk_mw 102 wk_m102 = true := wq_m_ok rfl (by decide +kernel)
set_option maxRecDepth 100000 in
theorem wk_ok103 : wk_okm wk_mt wk_mw 103 wk_m103 = true := wq_m_ok rfl (by decide +kernel)
set_option maxRecDepth 100000 in
theorem wk_ok104 : wk_okm wk_mt wk_mw 104 wk_m104 = true := wq_m_ok rfl (by decide +kernel)
set_option maxRecDepth 100000 in
theorem wk_ok105 : wk_okm wk_mt wk_mw 105 wk_m105 = true := wq_m_ok rfl (by decide +kernel)
set_option maxRecDepth 100000 in
theorem wk_ok106 : wk_okm wk_mt wk_mw 106 wk_m106 = true := wq_m_ok rfl (by decide +kernel)
set_option maxRecDepth 100000 in
theorem wk_ok107 : wk_okm wk_mt wk_mw 107 wk_m107 = true := wq_m_ok rfl (by decide +kernel)
set_option maxRecDepth 100000 in
theorem wk_ok108 : wk_okm wk_mt wk_mw 108 wk_m108 = true := wq_m_ok rfl (by decide +kernel)
set_option maxRecDepth 100000 in
theorem wk_ok109 : wk_okm wk_mt wk_mw 109 wk_m109 = true := wq_m_ok rfl (by decide +kernel)
set_option maxRecDepth 100000 in
theorem wk_ok110 : wk_okm wk_mt wk_mw 110 wk_m110 = true := wq_m_ok rfl (by decide +kernel)
set_option maxRecDepth 100000 in
theorem wk_ok111 : wk_okm wk_mt wk_mw 111 wk_m111 = true := wq_m_ok rfl (by decide +kernel)
set_option maxRecDepth 100000 in
theorem wk_ok112 : wk_okm wk_mt wk_mw 112 wk_m112 = true := wq_m_ok rfl (by decide +kernel)
set_option maxRecDepth 100000 in
theorem wk_ok113 : wk_okm wk_mt wk_mw 113 wk_m113 = true := wq_m_ok rfl (by decide +kernel)
set_option maxRecDepth 100000 in
theorem wk_ok114 : wk_okm wk_mt wk_mw 114 wk_m114 = true := wq_m_ok rfl (by decide +kernel)
set_option maxRecDepth 100000 in
theorem wk_ok115 : wk_okm wk_mt wk_mw 115 wk_m115 = true := wq_m_ok rfl (by decide +kernel)
set_option maxRecDepth 100000 in
theorem wk_ok116 : wk_okm wk_mt wk_mw 116 wk_m116 = true := wq_m_ok rfl (by decide +kernel)
set_option maxRecDepth 100000 in
theorem wk_ok117 : wk_okm wk_mt wk_mw 117 wk_m117 = true := wq_m_ok rfl (by decide +kernel)
set_option maxRecDepth 100000 in
theorem wk_ok118 : wk_okm wk_mt wk_mw 118 wk_m118 = true := wq_m_ok rfl (by decide +kernel)
set_option maxRecDepth 100000 in
theorem wk_ok119 : wk_okm wk_mt wk_mw 119 wk_m119 = true := wq_m_ok rfl (by decide +kernel)
set_option maxRecDepth 100000 in
theorem wk_ok120 : wk_okm wk_mt wk_mw 120 wk_m120 = true := wq_m_ok rfl (by decide +kernel)
set_option maxRecDepth 100000 in
theorem wk_ok121 : wk_okm wk_mt wk_mw 121 wk_m121 = true := wq_m_ok rfl (by decide +kernel)
set_option maxRecDepth 100000 in
theorem wk_ok122 : wk_okm wk_mt wk_mw 122 wk_m122 = true := wq_m_ok rfl (by decide +kernel)
set_option maxRecDepth 100000 in
theorem wk_ok123 : wk_okm wk_mt wk_mw 123 wk_m123 = true := wq_m_ok rfl (by decide +kernel)
set_option maxRecDepth 100000 in
theorem wk_ok124 : wk_okm wk_mt wk_mw 124 wk_m124 = true := wq_m_ok rfl (by decide +kernel)
set_option maxRecDepth 100000 in
theorem wk_ok125 : wk_okm wk_mt wk_mw 125 wk_m125 = true := wq_m_ok rfl (by decide +kernel)
set_option maxRecDepth 100000 in
theorem wk_ok126 : wk_okm wk_mt wk_mw 126 wk_m126 = true := wq_m_ok rfl (by decide +kernel)
set_option maxRecDepth 100000 in
theorem wk_ok127 : wk_okm wk_mt wk_mw 127 wk_m127 = true := wq_m_ok rfl (by decide +kernel)
set_option maxRecDepth 100000 in
theorem wk_ok128 : wk_okm wk_mt wk_mw 128 wk_m128 = true := wq_m_ok rfl (by decide +kernel)
set_option maxRecDepth 100000 in
theorem wk_ok129 : wk_okm wk_mt wk_mw 129 wk_m129 = true := wq_m_ok rfl (by decide +kernel)
set_option maxRecDepth 100000 in
theorem wk_ok130 : wk_okm wk_mt wk_mw 130 wk_m130 = true := wq_m_ok rfl (by decide +kernel)
set_option maxRecDepth 100000 in
theorem wk_ok131 : wk_okm wk_mt wk_mw 131 wk_m131 = true := wq_m_ok rfl (by decide +kernel)
set_option maxRecDepth 100000 in
theorem wk_ok132 : wk_okm wk_mt wk_mw 132 wk_m132 = true := wq_m_ok rfl (by decide +kernel)
set_option maxRecDepth 100000 in
theorem wk_ok133 : wk_okm wk_mt wk_mw 133 wk_m133 = true := wq_m_ok rfl (by decide +kernel)
set_option maxRecDepth 100000 in
theorem wk_ok134 : wk_okm wk_mt wk_mw 134 wk_m134 = true := wq_m_ok rfl (by decide +kernel)
set_option maxRecDepth 100000 in
theorem wk_ok135 : wk_okm wk_mt wk_mw 135 wk_m135 = true := wq_m_ok rfl (by decide +kernel)
set_option maxRecDepth 100000 in
theorem wk_ok136 : wk_okm wk_mt wk_mw 136 wk_m136 = true := wq_m_ok rfl (by decide +kernel)
set_option maxRecDepth 100000 in
theorem wk_ok137 : wk_okm wk_mt wk_mw 137 wk_m137 = true := wq_m_ok rfl (by decide +kernel)
set_option maxRecDepth 100000 in
theorem wk_ok138 : wk_okm wk_mt wk_mw 138 wk_m138 = true := wq_m_ok rfl (by decide +kernel)
set_option maxRecDepth 100000 in
theorem wk_ok139 : wk_okm wk_mt wk_mw 139 wk_m139 = true := wq_m_ok rfl (by decide +kernel)
