/-! ===== the law's rows hold ===== -/
theorem wk_L_len : (wk_Mx wk_mL).length = 77 := by decide +kernel
set_option maxRecDepth 100000 in
theorem wk_okL0 : (match wk_at (wk_Mx wk_mL) 0 with | some r => r.all (wk_okx wk_mt wk_mw (wk_My wk_mL) (wk_Mb wk_mL)) | none => true) = true := by decide +kernel
set_option maxRecDepth 100000 in
theorem wk_okL1 : (match wk_at (wk_Mx wk_mL) 1 with | some r => r.all (wk_okx wk_mt wk_mw (wk_My wk_mL) (wk_Mb wk_mL)) | none => true) = true := by decide +kernel
set_option maxRecDepth 100000 in
theorem wk_okL2 : (match wk_at (wk_Mx wk_mL) 2 with | some r => r.all (wk_okx wk_mt wk_mw (wk_My wk_mL) (wk_Mb wk_mL)) | none => true) = true := by decide +kernel
set_option maxRecDepth 100000 in
theorem wk_okL3 : (match wk_at (wk_Mx wk_mL) 3 with | some r => r.all (wk_okx wk_mt wk_mw (wk_My wk_mL) (wk_Mb wk_mL)) | none => true) = true := by decide +kernel
set_option maxRecDepth 100000 in
theorem wk_okL4 : (match wk_at (wk_Mx wk_mL) 4 with | some r => r.all (wk_okx wk_mt wk_mw (wk_My wk_mL) (wk_Mb wk_mL)) | none => true) = true := by decide +kernel
set_option maxRecDepth 100000 in
theorem wk_okL5 : (match wk_at (wk_Mx wk_mL) 5 with | some r => r.all (wk_okx wk_mt wk_mw (wk_My wk_mL) (wk_Mb wk_mL)) | none => true) = true := by decide +kernel
set_option maxRecDepth 100000 in
theorem wk_okL6 : (match wk_at (wk_Mx wk_mL) 6 with | some r => r.all (wk_okx wk_mt wk_mw (wk_My wk_mL) (wk_Mb wk_mL)) | none => true) = true := by decide +kernel
set_option maxRecDepth 100000 in
theorem wk_okL7 : (match wk_at (wk_Mx wk_mL) 7 with | some r => r.all (wk_okx wk_mt wk_mw (wk_My wk_mL) (wk_Mb wk_mL)) | none => true) = true := by decide +kernel
set_option maxRecDepth 100000 in
theorem wk_okL8 : (match wk_at (wk_Mx wk_mL) 8 with | some r => r.all (wk_okx wk_mt wk_mw (wk_My wk_mL) (wk_Mb wk_mL)) | none => true) = true := by decide +kernel
set_option maxRecDepth 100000 in
theorem wk_okL9 : (match wk_at (wk_Mx wk_mL) 9 with | some r => r.all (wk_okx wk_mt wk_mw (wk_My wk_mL) (wk_Mb wk_mL)) | none => true) = true := by decide +kernel
set_option maxRecDepth 100000 in
theorem wk_okL10 : (match wk_at (wk_Mx wk_mL) 10 with | some r => r.all (wk_okx wk_mt wk_mw (wk_My wk_mL) (wk_Mb wk_mL)) | none => true) = true := by decide +kernel
set_option maxRecDepth 100000 in
theorem wk_okL11 : (match wk_at (wk_Mx wk_mL) 11 with | some r => r.all (wk_okx wk_mt wk_mw (wk_My wk_mL) (wk_Mb wk_mL)) | none => true) = true := by decide +kernel
set_option maxRecDepth 100000 in
theorem wk_okL12 : (match wk_at (wk_Mx wk_mL) 12 with | some r => r.all (wk_okx wk_mt wk_mw (wk_My wk_mL) (wk_Mb wk_mL)) | none => true) = true := by decide +kernel
set_option maxRecDepth 100000 in
theorem wk_okL13 : (match wk_at (wk_Mx wk_mL) 13 with | some r => r.all (wk_okx wk_mt wk_mw (wk_My wk_mL) (wk_Mb wk_mL)) | none => true) = true := by decide +kernel
set_option maxRecDepth 100000 in
theorem wk_okL14 : (match wk_at (wk_Mx wk_mL) 14 with | some r => r.all (wk_okx wk_mt wk_mw (wk_My wk_mL) (wk_Mb wk_mL)) | none => true) = true := by decide +kernel
set_option maxRecDepth 100000 in
theorem wk_okL15 : (match wk_at (wk_Mx wk_mL) 15 with | some r => r.all (wk_okx wk_mt wk_mw (wk_My wk_mL) (wk_Mb wk_mL)) | none => true) = true := by decide +kernel
set_option maxRecDepth 100000 in
theorem wk_okL16 : (match wk_at (wk_Mx wk_mL) 16 with | some r => r.all (wk_okx wk_mt wk_mw (wk_My wk_mL) (wk_Mb wk_mL)) | none => true) = true := by decide +kernel
set_option maxRecDepth 100000 in
theorem wk_okL17 : (match wk_at (wk_Mx wk_mL) 17 with | some r => r.all (wk_okx wk_mt wk_mw (wk_My wk_mL) (wk_Mb wk_mL)) | none => true) = true := by decide +kernel
set_option maxRecDepth 100000 in
theorem wk_okL18 : (match wk_at (wk_Mx wk_mL) 18 with | some r => r.all (wk_okx wk_mt wk_mw (wk_My wk_mL) (wk_Mb wk_mL)) | none => true) = true := by decide +kernel
set_option maxRecDepth 100000 in
theorem wk_okL19 : (match wk_at (wk_Mx wk_mL) 19 with | some r => r.all (wk_okx wk_mt wk_mw (wk_My wk_mL) (wk_Mb wk_mL)) | none => true) = true := by decide +kernel
set_option maxRecDepth 100000 in
theorem wk_okL20 : (match wk_at (wk_Mx wk_mL) 20 with | some r => r.all (wk_okx wk_mt wk_mw (wk_My wk_mL) (wk_Mb wk_mL)) | none => true) = true := by decide +kernel
set_option maxRecDepth 100000 in
theorem wk_okL21 : (match wk_at (wk_Mx wk_mL) 21 with | some r => r.all (wk_okx wk_mt wk_mw (wk_My wk_mL) (wk_Mb wk_mL)) | none => true) = true := by decide +kernel
set_option maxRecDepth 100000 in
theorem wk_okL22 : (match wk_at (wk_Mx wk_mL) 22 with | some r => r.all (wk_okx wk_mt wk_mw (wk_My wk_mL) (wk_Mb wk_mL)) | none => true) = true := by decide +kernel
set_option maxRecDepth 100000 in
theorem wk_okL23 : (match wk_at (wk_Mx wk_mL) 23 with | some r => r.all (wk_okx wk_mt wk_mw (wk_My wk_mL) (wk_Mb wk_mL)) | none => true) = true := by decide +kernel
set_option maxRecDepth 100000 in
theorem wk_okL24 : (match wk_at (wk_Mx wk_mL) 24 with | some r => r.all (wk_okx wk_mt wk_mw (wk_My wk_mL) (wk_Mb wk_mL)) | none => true) = true := by decide +kernel
set_option maxRecDepth 100000 in
theorem wk_okL25 : (match wk_at (wk_Mx wk_mL) 25 with | some r => r.all (wk_okx wk_mt wk_mw (wk_My wk_mL) (wk_Mb wk_mL)) | none => true) = true := by decide +kernel
set_option maxRecDepth 100000 in
theorem wk_okL26 : (match wk_at (wk_Mx wk_mL) 26 with | some r => r.all (wk_okx wk_mt wk_mw (wk_My wk_mL) (wk_Mb wk_mL)) | none => true) = true := by decide +kernel
set_option maxRecDepth 100000 in
theorem wk_okL27 : (match wk_at (wk_Mx wk_mL) 27 with | some r => r.all (wk_okx wk_mt wk_mw (wk_My wk_mL) (wk_Mb wk_mL)) | none => true) = true := by decide +kernel
set_option maxRecDepth 100000 in
theorem wk_okL28 : (match wk_at (wk_Mx wk_mL) 28 with | some r => r.all (wk_okx wk_mt wk_mw (wk_My wk_mL) (wk_Mb wk_mL)) | none => true) = true := by decide +kernel
set_option maxRecDepth 100000 in
theorem wk_okL29 : (match wk_at (wk_Mx wk_mL) 29 with | some r => r.all (wk_okx wk_mt wk_mw (wk_My wk_mL) (wk_Mb wk_mL)) | none => true) = true := by decide +kernel
set_option maxRecDepth 100000 in
theorem wk_okL30 : (match wk_at (wk_Mx wk_mL) 30 with | some r => r.all (wk_okx wk_mt wk_mw (wk_My wk_mL) (wk_Mb wk_mL)) | none => true) = true := by decide +kernel
set_option maxRecDepth 100000 in
theorem wk_okL31 : (match wk_at (wk_Mx wk_mL) 31 with | some r => r.all (wk_okx wk_mt wk_mw (wk_My wk_mL) (wk_Mb wk_mL)) | none => true) = true := by decide +kernel
set_option maxRecDepth 100000 in
theorem wk_okL32 : (match wk_at (wk_Mx wk_mL) 32 with | some r => r.all (wk_okx wk_mt wk_mw (wk_My wk_mL) (wk_Mb wk_mL)) | none => true) = true := by decide +kernel
set_option maxRecDepth 100000 in
theorem wk_okL33 : (match wk_at (wk_Mx wk_mL) 33 with | some r => r.all (wk_okx wk_mt wk_mw (wk_My wk_mL) (wk_Mb wk_mL)) | none => true) = true := by decide +kernel
set_option maxRecDepth 100000 in
theorem wk_okL34 : (match wk_at (wk_Mx wk_mL) 34 with | some r => r.all (wk_okx wk_mt wk_mw (wk_My wk_mL) (wk_Mb wk_mL)) | none => true) = true := by decide +kernel
set_option maxRecDepth 100000 in
theorem wk_okL35 : (match wk_at (wk_Mx wk_mL) 35 with | some r => r.all (wk_okx wk_mt wk_mw (wk_My wk_mL) (wk_Mb wk_mL)) | none => true) = true := by decide +kernel
set_option maxRecDepth 100000 in
theorem wk_okL36 : (match wk_at (wk_Mx wk_mL) 36 with | some r => r.all (wk_okx wk_mt wk_mw (wk_My wk_mL) (wk_Mb wk_mL)) | none => true) = true := by decide +kernel
set_option maxRecDepth 100000 in
theorem wk_okL37 : (match wk_at (wk_Mx wk_mL) 37 with | some r => r.all (wk_okx wk_mt wk_mw (wk_My wk_mL) (wk_Mb wk_mL)) | none => true) = true := by decide +kernel
set_option maxRecDepth 100000 in
theorem wk_okL38 : (match wk_at (wk_Mx wk_mL) 38 with | some r => r.all (wk_okx wk_mt wk_mw (wk_My wk_mL) (wk_Mb wk_mL)) | none => true) = true := by decide +kernel
set_option maxRecDepth 100000 in
theorem wk_okL39 : (match wk_at (wk_Mx wk_mL) 39 with | some r => r.all (wk_okx wk_mt wk_mw (wk_My wk_mL) (wk_Mb wk_mL)) | none => true) = true := by decide +kernel
set_option maxRecDepth 100000 in
theorem wk_okL40 : (match wk_at (wk_Mx wk_mL) 40 with | some r => r.all (wk_okx wk_mt wk_mw (wk_My wk_mL) (wk_Mb wk_mL)) | none => true) = true := by decide +kernel
set_option maxRecDepth 100000 in
theorem wk_okL41 : (match wk_at (wk_Mx wk_mL) 41 with | some r => r.all (wk_okx wk_mt wk_mw (wk_My wk_mL) (wk_Mb wk_mL)) | none => true) = true := by decide +kernel
set_option maxRecDepth 100000 in
theorem wk_okL42 : (match wk_at (wk_Mx wk_mL) 42 with | some r => r.all (wk_okx wk_mt wk_mw (wk_My wk_mL) (wk_Mb wk_mL)) | none => true) = true := by decide +kernel
set_option maxRecDepth 100000 in
theorem wk_okL43 : (match wk_at (wk_Mx wk_mL) 43 with | some r => r.all (wk_okx wk_mt wk_mw (wk_My wk_mL) (wk_Mb wk_mL)) | none => true) = true := by decide +kernel
set_option maxRecDepth 100000 in
theorem wk_okL44 : (match wk_at (wk_Mx wk_mL) 44 with | some r => r.all (wk_okx wk_mt wk_mw (wk_My wk_mL) (wk_Mb wk_mL)) | none => true) = true := by decide +kernel
set_option maxRecDepth 100000 in
theorem wk_okL45 : (match wk_at (wk_Mx wk_mL) 45 with | some r => r.all (wk_okx wk_mt wk_mw (wk_My wk_mL) (wk_Mb wk_mL)) | none => true) = true := by decide +kernel
set_option maxRecDepth 100000 in
theorem wk_okL46 : (match wk_at (wk_Mx wk_mL) 46 with | some r => r.all (wk_okx wk_mt wk_mw (wk_My wk_mL) (wk_Mb wk_mL)) | none => true) = true := by decide +kernel
set_option maxRecDepth 100000 in
theorem wk_okL47 : (match wk_at (wk_Mx wk_mL) 47 with | some r => r.all (wk_okx wk_mt wk_mw (wk_My wk_mL) (wk_Mb wk_mL)) | none => true) = true := by decide +kernel
set_option maxRecDepth 100000 in
theorem wk_okL48 : (match wk_at (wk_Mx wk_mL) 48 with | some r => r.all (wk_okx wk_mt wk_mw (wk_My wk_mL) (wk_Mb wk_mL)) | none => true) = true := by decide +kernel
set_option maxRecDepth 100000 in
theorem wk_okL49 : (match wk_at (wk_Mx wk_mL) 49 with | some r => r.all (wk_okx wk_mt wk_mw (wk_My wk_mL) (wk_Mb wk_mL)) | none => true) = true := by decide +kernel
set_option maxRecDepth 100000 in
theorem wk_okL50 : (match wk_at (wk_Mx wk_mL) 50 with | some r => r.all (wk_okx wk_mt wk_mw (wk_My wk_mL) (wk_Mb wk_mL)) | none => true) = true := by decide +kernel
set_option maxRecDepth 100000 in
theorem wk_okL51 : (match wk_at (wk_Mx wk_mL) 51 with | some r => r.all (wk_okx wk_mt wk_mw (wk_My wk_mL) (wk_Mb wk_mL)) | none => true) = true := by decide +kernel
set_option maxRecDepth 100000 in
theorem wk_okL52 : (match wk_at (wk_Mx wk_mL) 52 with | some r => r.all (wk_okx wk_mt wk_mw (wk_My wk_mL) (wk_Mb wk_mL)) | none => true) = true := by decide +kernel
set_option maxRecDepth 100000 in
theorem wk_okL53 : (match wk_at (wk_Mx wk_mL) 53 with | some r => r.all (wk_okx wk_mt wk_mw (wk_My wk_mL) (wk_Mb wk_mL)) | none => true) = true := by decide +kernel
set_option maxRecDepth 100000 in
theorem wk_okL54 : (match wk_at (wk_Mx wk_mL) 54 with | some r => r.all (wk_okx wk_mt wk_mw (wk_My wk_mL) (wk_Mb wk_mL)) | none => true) = true := by decide +kernel
set_option maxRecDepth 100000 in
theorem wk_okL55 : (match wk_at (wk_Mx wk_mL) 55 with | some r => r.all (wk_okx wk_mt wk_mw (wk_My wk_mL) (wk_Mb wk_mL)) | none => true) = true := by decide +kernel
set_option maxRecDepth 100000 in
theorem wk_okL56 : (match wk_at (wk_Mx wk_mL) 56 with | some r => r.all (wk_okx wk_mt wk_mw (wk_My wk_mL) (wk_Mb wk_mL)) | none => true) = true := by decide +kernel
set_option maxRecDepth 100000 in
theorem wk_okL57 : (match wk_at (wk_Mx wk_mL) 57 with | some r => r.all (wk_okx wk_mt wk_mw (wk_My wk_mL) (wk_Mb wk_mL)) | none => true) = true := by decide +kernel
set_option maxRecDepth 100000 in
theorem wk_okL58 : (match wk_at (wk_Mx wk_mL) 58 with | some r => r.all (wk_okx wk_mt wk_mw (wk_My wk_mL) (wk_Mb wk_mL)) | none => true) = true := by decide +kernel
set_option maxRecDepth 100000 in
theorem wk_okL59 : (match wk_at (wk_Mx wk_mL) 59 with | some r => r.all (wk_okx wk_mt wk_mw (wk_My wk_mL) (wk_Mb wk_mL)) | none => true) = true := by decide +kernel
set_option maxRecDepth 100000 in
theorem wk_okL60 : (match wk_at (wk_Mx wk_mL) 60 with | some r => r.all (wk_okx wk_mt wk_mw (wk_My wk_mL) (wk_Mb wk_mL)) | none => true) = true := by decide +kernel
set_option maxRecDepth 100000 in
theorem wk_okL61 : (match wk_at (wk_Mx wk_mL) 61 with | some r => r.all (wk_okx wk_mt wk_mw (wk_My wk_mL) (wk_Mb wk_mL)) | none => true) = true := by decide +kernel
set_option maxRecDepth 100000 in
theorem wk_okL62 : (match wk_at (wk_Mx wk_mL) 62 with | some r => r.all (wk_okx wk_mt wk_mw (wk_My wk_mL) (wk_Mb wk_mL)) | none => true) = true := by decide +kernel
set_option maxRecDepth 100000 in
theorem wk_okL63 : (match wk_at (wk_Mx wk_mL) 63 with | some r => r.all (wk_okx wk_mt wk_mw (wk_My wk_mL) (wk_Mb wk_mL)) | none => true) = true := by decide +kernel
set_option maxRecDepth 100000 in
theorem wk_okL64 : (match wk_at (wk_Mx wk_mL) 64 with | some r => r.all (wk_okx wk_mt wk_mw (wk_My wk_mL) (wk_Mb wk_mL)) | none => true) = true := by decide +kernel
set_option maxRecDepth 100000 in
theorem wk_okL65 : (match wk_at (wk_Mx wk_mL) 65 with | some r => r.all (wk_okx wk_mt wk_mw (wk_My wk_mL) (wk_Mb wk_mL)) | none => true) = true := by decide +kernel
set_option maxRecDepth 100000 in
theorem wk_okL66 : (match wk_at (wk_Mx wk_mL) 66 with | some r => r.all (wk_okx wk_mt wk_mw (wk_My wk_mL) (wk_Mb wk_mL)) | none => true) = true := by decide +kernel
set_option maxRecDepth 100000 in
theorem wk_okL67 : (match wk_at (wk_Mx wk_mL) 67 with | some r => r.all (wk_okx wk_mt wk_mw (wk_My wk_mL) (wk_Mb wk_mL)) | none => true) = true := by decide +kernel
set_option maxRecDepth 100000 in
theorem wk_okL68 : (match wk_at (wk_Mx wk_mL) 68 with | some r => r.all (wk_okx wk_mt wk_mw (wk_My wk_mL) (wk_Mb wk_mL)) | none => true) = true := by decide +kernel
set_option maxRecDepth 100000 in
theorem wk_okL69 : (match wk_at (wk_Mx wk_mL) 69 with | some r => r.all (wk_okx wk_mt wk_mw (wk_My wk_mL) (wk_Mb wk_mL)) | none => true) = true := by decide +kernel
set_option maxRecDepth 100000 in
theorem wk_okL70 : (match wk_at (wk_Mx wk_mL) 70 with | some r => r.all (wk_okx wk_mt wk_mw (wk_My wk_mL) (wk_Mb wk_mL)) | none => true) = true := by decide +kernel
set_option maxRecDepth 100000 in
theorem wk_okL71 : (match wk_at (wk_Mx wk_mL) 71 with | some r => r.all (wk_okx wk_mt wk_mw (wk_My wk_mL) (wk_Mb wk_mL)) | none => true) = true := by decide +kernel
set_option maxRecDepth 100000 in
theorem wk_okL72 : (match wk_at (wk_Mx wk_mL) 72 with | some r => r.all (wk_okx wk_mt wk_mw (wk_My wk_mL) (wk_Mb wk_mL)) | none => true) = true := by decide +kernel
set_option maxRecDepth 100000 in
theorem wk_okL73 : (match wk_at (wk_Mx wk_mL) 73 with | some r => r.all (wk_okx wk_mt wk_mw (wk_My wk_mL) (wk_Mb wk_mL)) | none => true) = true := by decide +kernel
set_option maxRecDepth 100000 in
theorem wk_okL74 : (match wk_at (wk_Mx wk_mL) 74 with | some r => r.all (wk_okx wk_mt wk_mw (wk_My wk_mL) (wk_Mb wk_mL)) | none => true) = true := by decide +kernel
set_option maxRecDepth 100000 in
theorem wk_okL75 : (match wk_at (wk_Mx wk_mL) 75 with | some r => r.all (wk_okx wk_mt wk_mw (wk_My wk_mL) (wk_Mb wk_mL)) | none => true) = true := by decide +kernel
set_option maxRecDepth 100000 in
theorem wk_okL76 : (match wk_at (wk_Mx wk_mL) 76 with | some r => r.all (wk_okx wk_mt wk_mw (wk_My wk_mL) (wk_Mb wk_mL)) | none => true) = true := by decide +kernel
theorem wk_L_ok : ∀ r ∈ wk_Mx wk_mL, ∀ row ∈ r, wk_okx wk_mt wk_mw (wk_My wk_mL) (wk_Mb wk_mL) row = true := by
  intro r hr row hrow
  obtain ⟨k, hk⟩ := List.getElem?_of_mem hr
  have hl : k < 77 := by have := (List.getElem?_eq_some_iff.mp hk).1; rw [wk_L_len] at this; exact this
  rw [← wk_at_eq] at hk
  have key : (match wk_at (wk_Mx wk_mL) k with | some r => r.all (wk_okx wk_mt wk_mw (wk_My wk_mL) (wk_Mb wk_mL)) | none => true) = true := by
    match k, hl with
    | 0, _ => exact wk_okL0
    | 1, _ => exact wk_okL1
    | 2, _ => exact wk_okL2
    | 3, _ => exact wk_okL3
    | 4, _ => exact wk_okL4
    | 5, _ => exact wk_okL5
    | 6, _ => exact wk_okL6
    | 7, _ => exact wk_okL7
    | 8, _ => exact wk_okL8
    | 9, _ => exact wk_okL9
    | 10, _ => exact wk_okL10
    | 11, _ => exact wk_okL11
    | 12, _ => exact wk_okL12
    | 13, _ => exact wk_okL13
    | 14, _ => exact wk_okL14
    | 15, _ => exact wk_okL15
    | 16, _ => exact wk_okL16
    | 17, _ => exact wk_okL17
    | 18, _ => exact wk_okL18
    | 19, _ => exact wk_okL19
    | 20, _ => exact wk_okL20
    | 21, _ => exact wk_okL21
    | 22, _ => exact wk_okL22
    | 23, _ => exact wk_okL23
    | 24, _ => exact wk_okL24
    | 25, _ => exact wk_okL25
    | 26, _ => exact wk_okL26
    | 27, _ => exact wk_okL27
    | 28, _ => exact wk_okL28
    | 29, _ => exact wk_okL29
    | 30, _ => exact wk_okL30
    | 31, _ => exact wk_okL31
    | 32, _ => exact wk_okL32
    | 33, _ => exact wk_okL33
    | 34, _ => exact wk_okL34
    | 35, _ => exact wk_okL35
    | 36, _ => exact wk_okL36
    | 37, _ => exact wk_okL37
    | 38, _ => exact wk_okL38
    | 39, _ => exact wk_okL39
    | 40, _ => exact wk_okL40
    | 41, _ => exact wk_okL41
    | 42, _ => exact wk_okL42
    | 43, _ => exact wk_okL43
    | 44, _ => exact wk_okL44
    | 45, _ => exact wk_okL45
    | 46, _ => exact wk_okL46
    | 47, _ => exact wk_okL47
    | 48, _ => exact wk_okL48
    | 49, _ => exact wk_okL49
    | 50, _ => exact wk_okL50
    | 51, _ => exact wk_okL51
    | 52, _ => exact wk_okL52
    | 53, _ => exact wk_okL53
    | 54, _ => exact wk_okL54
    | 55, _ => exact wk_okL55
    | 56, _ => exact wk_okL56
    | 57, _ => exact wk_okL57
    | 58, _ => exact wk_okL58
    | 59, _ => exact wk_okL59
    | 60, _ => exact wk_okL60
    | 61, _ => exact wk_okL61
    | 62, _ => exact wk_okL62
    | 63, _ => exact wk_okL63
    | 64, _ => exact wk_okL64
    | 65, _ => exact wk_okL65
    | 66, _ => exact wk_okL66
    | 67, _ => exact wk_okL67
    | 68, _ => exact wk_okL68
    | 69, _ => exact wk_okL69
    | 70, _ => exact wk_okL70
    | 71, _ => exact wk_okL71
    | 72, _ => exact wk_okL72
    | 73, _ => exact wk_okL73
    | 74, _ => exact wk_okL74
    | 75, _ => exact wk_okL75
    | 76, _ => exact wk_okL76
    | _ + 77, h => omega
  rw [hk] at key
  exact List.all_eq_true.mp key row hrow
