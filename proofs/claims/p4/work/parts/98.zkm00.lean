/-! ===== contracts, zkm 0 ===== -/
def kd_T130a : kd_Tc := ([(3, 259, 259), kb_mn 0], kb_pre 0, kd_P130)
def kd_T130b : kd_Tc := ([(3, 259, 259), kb_mn 1], kb_pre 1, kd_P130)
def kd_T130c : kd_Tc := ([(3, 259, 259), kb_mn 2], kb_pre 2, kd_P130)
def kd_P129 : List kd_P := [(some (0, 0, 4294967295), [], [(272, 278, 0, 0), (280, 282, 0, 4), (276, 278, 0, 5), (272, 272, 0, 9), (278, 279, 0, 9), (273, 277, 1, 1), (273, 277, 2, 2), (273, 277, 3, 3), (273, 277, 4, 4), (273, 277, 5, 5), (273, 275, 6, 6), (273, 275, 7, 7), (273, 275, 8, 8), (273, 275, 9, 9), (259, 259, 33, 33), (259, 259, 35, 35), (259, 259, 38, 39)])]
def kd_T129q0 : kd_Tc := ([(3, 259, 259), (0, 0, 4294967295)], [(260, 1, (0, 2147483648, 2147483648)), (260, 2, (0, 2147483648, 2147483648))], kd_P129)
def kd_C129q0 : List (Nat × kd_Tc) := [(130, kd_T130b), (121, kd_T121n0m0)]
def kd_S129q0 : List kd_St := []
theorem kd_e129q0 : kd_run0 kd_ty kd_x129 3 (kd_call kd_ty kd_xt (kd_ctl kd_C129q0) 600 1) kd_T129q0 600 kd_S129q0 = true := by decide +kernel
theorem kd_h129q0 {g : kc_G} (hg : kc_ok g) : kd_hold g 9 kd_ty 129 kd_T129q0 := kd_mk (d0 := 7) (di := 1) hg kd_xk129 rfl rfl rfl rfl (kd_al_r kd_C129q0 ⟨kd_hold_le (kd_h130b hg) (by decide), kd_hold_le (kd_h121n0m0 hg) (by decide), trivial⟩) (by decide) (by decide +kernel) kd_e129q0 (kd_al_r kd_S129q0 trivial)
def kd_T129q1 : kd_Tc := ([(3, 259, 259), (0, 0, 4294967295)], [(260, 1, (0, 2147483649, 2147483649)), (260, 2, (0, 2147483648, 2147483648))], kd_P129)
def kd_C129q1 : List (Nat × kd_Tc) := [(130, kd_T130a), (121, kd_T121n0m1)]
def kd_S129q1 : List kd_St := []
theorem kd_e129q1 : kd_run0 kd_ty kd_x129 3 (kd_call kd_ty kd_xt (kd_ctl kd_C129q1) 600 1) kd_T129q1 600 kd_S129q1 = true := by decide +kernel
theorem kd_h129q1 {g : kc_G} (hg : kc_ok g) : kd_hold g 9 kd_ty 129 kd_T129q1 := kd_mk (d0 := 7) (di := 1) hg kd_xk129 rfl rfl rfl rfl (kd_al_r kd_C129q1 ⟨kd_hold_le (kd_h130a hg) (by decide), kd_hold_le (kd_h121n0m1 hg) (by decide), trivial⟩) (by decide) (by decide +kernel) kd_e129q1 (kd_al_r kd_S129q1 trivial)
def kd_T129q2 : kd_Tc := ([(3, 259, 259), (0, 0, 4294967295)], [(260, 1, (0, 2147483650, 2147483650)), (260, 2, (0, 2147483648, 2147483648))], kd_P129)
def kd_C129q2 : List (Nat × kd_Tc) := [(130, kd_T130a), (121, kd_T121n0m2)]
def kd_S129q2 : List kd_St := []
theorem kd_e129q2 : kd_run0 kd_ty kd_x129 3 (kd_call kd_ty kd_xt (kd_ctl kd_C129q2) 600 1) kd_T129q2 600 kd_S129q2 = true := by decide +kernel
theorem kd_h129q2 {g : kc_G} (hg : kc_ok g) : kd_hold g 9 kd_ty 129 kd_T129q2 := kd_mk (d0 := 7) (di := 1) hg kd_xk129 rfl rfl rfl rfl (kd_al_r kd_C129q2 ⟨kd_hold_le (kd_h130a hg) (by decide), kd_hold_le (kd_h121n0m2 hg) (by decide), trivial⟩) (by decide) (by decide +kernel) kd_e129q2 (kd_al_r kd_S129q2 trivial)
def kd_T129q3 : kd_Tc := ([(3, 259, 259), (0, 0, 4294967295)], [(260, 1, (0, 2147483651, 2147483651)), (260, 2, (0, 2147483648, 2147483648))], kd_P129)
def kd_C129q3 : List (Nat × kd_Tc) := [(130, kd_T130a), (121, kd_T121n0m3)]
def kd_S129q3 : List kd_St := []
theorem kd_e129q3 : kd_run0 kd_ty kd_x129 3 (kd_call kd_ty kd_xt (kd_ctl kd_C129q3) 600 1) kd_T129q3 600 kd_S129q3 = true := by decide +kernel
theorem kd_h129q3 {g : kc_G} (hg : kc_ok g) : kd_hold g 9 kd_ty 129 kd_T129q3 := kd_mk (d0 := 7) (di := 1) hg kd_xk129 rfl rfl rfl rfl (kd_al_r kd_C129q3 ⟨kd_hold_le (kd_h130a hg) (by decide), kd_hold_le (kd_h121n0m3 hg) (by decide), trivial⟩) (by decide) (by decide +kernel) kd_e129q3 (kd_al_r kd_S129q3 trivial)
def kd_T129q4 : kd_Tc := ([(3, 259, 259), (0, 0, 4294967295)], [(260, 1, (0, 2147483648, 2147483648)), (260, 2, (0, 2147483649, 2147483649))], kd_P129)
def kd_C129q4 : List (Nat × kd_Tc) := [(130, kd_T130c), (121, kd_T121n1m0)]
def kd_S129q4 : List kd_St := []
theorem kd_e129q4 : kd_run0 kd_ty kd_x129 3 (kd_call kd_ty kd_xt (kd_ctl kd_C129q4) 600 1) kd_T129q4 600 kd_S129q4 = true := by decide +kernel
theorem kd_h129q4 {g : kc_G} (hg : kc_ok g) : kd_hold g 9 kd_ty 129 kd_T129q4 := kd_mk (d0 := 7) (di := 1) hg kd_xk129 rfl rfl rfl rfl (kd_al_r kd_C129q4 ⟨kd_hold_le (kd_h130c hg) (by decide), kd_hold_le (kd_h121n1m0 hg) (by decide), trivial⟩) (by decide) (by decide +kernel) kd_e129q4 (kd_al_r kd_S129q4 trivial)
def kd_T129q5 : kd_Tc := ([(3, 259, 259), (0, 0, 4294967295)], [(260, 1, (0, 2147483649, 2147483649)), (260, 2, (0, 2147483649, 2147483649))], kd_P129)
def kd_C129q5 : List (Nat × kd_Tc) := [(130, kd_T130a), (121, kd_T121n1m1)]
def kd_S129q5 : List kd_St := []
theorem kd_e129q5 : kd_run0 kd_ty kd_x129 3 (kd_call kd_ty kd_xt (kd_ctl kd_C129q5) 600 1) kd_T129q5 600 kd_S129q5 = true := by decide +kernel
theorem kd_h129q5 {g : kc_G} (hg : kc_ok g) : kd_hold g 9 kd_ty 129 kd_T129q5 := kd_mk (d0 := 7) (di := 1) hg kd_xk129 rfl rfl rfl rfl (kd_al_r kd_C129q5 ⟨kd_hold_le (kd_h130a hg) (by decide), kd_hold_le (kd_h121n1m1 hg) (by decide), trivial⟩) (by decide) (by decide +kernel) kd_e129q5 (kd_al_r kd_S129q5 trivial)
def kd_T129q6 : kd_Tc := ([(3, 259, 259), (0, 0, 4294967295)], [(260, 1, (0, 2147483650, 2147483650)), (260, 2, (0, 2147483649, 2147483649))], kd_P129)
def kd_C129q6 : List (Nat × kd_Tc) := [(130, kd_T130a), (121, kd_T121n1m2)]
def kd_S129q6 : List kd_St := []
theorem kd_e129q6 : kd_run0 kd_ty kd_x129 3 (kd_call kd_ty kd_xt (kd_ctl kd_C129q6) 600 1) kd_T129q6 600 kd_S129q6 = true := by decide +kernel
theorem kd_h129q6 {g : kc_G} (hg : kc_ok g) : kd_hold g 9 kd_ty 129 kd_T129q6 := kd_mk (d0 := 7) (di := 1) hg kd_xk129 rfl rfl rfl rfl (kd_al_r kd_C129q6 ⟨kd_hold_le (kd_h130a hg) (by decide), kd_hold_le (kd_h121n1m2 hg) (by decide), trivial⟩) (by decide) (by decide +kernel) kd_e129q6 (kd_al_r kd_S129q6 trivial)
def kd_T129q7 : kd_Tc := ([(3, 259, 259), (0, 0, 4294967295)], [(260, 1, (0, 2147483651, 2147483651)), (260, 2, (0, 2147483649, 2147483649))], kd_P129)
def kd_C129q7 : List (Nat × kd_Tc) := [(130, kd_T130a), (121, kd_T121n1m3)]
def kd_S129q7 : List kd_St := []
theorem kd_e129q7 : kd_run0 kd_ty kd_x129 3 (kd_call kd_ty kd_xt (kd_ctl kd_C129q7) 600 1) kd_T129q7 600 kd_S129q7 = true := by decide +kernel
theorem kd_h129q7 {g : kc_G} (hg : kc_ok g) : kd_hold g 9 kd_ty 129 kd_T129q7 := kd_mk (d0 := 7) (di := 1) hg kd_xk129 rfl rfl rfl rfl (kd_al_r kd_C129q7 ⟨kd_hold_le (kd_h130a hg) (by decide), kd_hold_le (kd_h121n1m3 hg) (by decide), trivial⟩) (by decide) (by decide +kernel) kd_e129q7 (kd_al_r kd_S129q7 trivial)
def kd_T129q8 : kd_Tc := ([(3, 259, 259), (0, 0, 4294967295)], [(260, 1, (0, 2147483648, 2147483648)), (260, 2, (0, 2147483650, 2147483650))], kd_P129)
def kd_C129q8 : List (Nat × kd_Tc) := [(130, kd_T130c), (121, kd_T121n2m0)]
def kd_S129q8 : List kd_St := []
theorem kd_e129q8 : kd_run0 kd_ty kd_x129 3 (kd_call kd_ty kd_xt (kd_ctl kd_C129q8) 600 1) kd_T129q8 600 kd_S129q8 = true := by decide +kernel
theorem kd_h129q8 {g : kc_G} (hg : kc_ok g) : kd_hold g 9 kd_ty 129 kd_T129q8 := kd_mk (d0 := 7) (di := 1) hg kd_xk129 rfl rfl rfl rfl (kd_al_r kd_C129q8 ⟨kd_hold_le (kd_h130c hg) (by decide), kd_hold_le (kd_h121n2m0 hg) (by decide), trivial⟩) (by decide) (by decide +kernel) kd_e129q8 (kd_al_r kd_S129q8 trivial)
def kd_T129q9 : kd_Tc := ([(3, 259, 259), (0, 0, 4294967295)], [(260, 1, (0, 2147483649, 2147483649)), (260, 2, (0, 2147483650, 2147483650))], kd_P129)
def kd_C129q9 : List (Nat × kd_Tc) := [(130, kd_T130a), (121, kd_T121n2m1)]
def kd_S129q9 : List kd_St := []
theorem kd_e129q9 : kd_run0 kd_ty kd_x129 3 (kd_call kd_ty kd_xt (kd_ctl kd_C129q9) 600 1) kd_T129q9 600 kd_S129q9 = true := by decide +kernel
theorem kd_h129q9 {g : kc_G} (hg : kc_ok g) : kd_hold g 9 kd_ty 129 kd_T129q9 := kd_mk (d0 := 7) (di := 1) hg kd_xk129 rfl rfl rfl rfl (kd_al_r kd_C129q9 ⟨kd_hold_le (kd_h130a hg) (by decide), kd_hold_le (kd_h121n2m1 hg) (by decide), trivial⟩) (by decide) (by decide +kernel) kd_e129q9 (kd_al_r kd_S129q9 trivial)
def kd_T129q10 : kd_Tc := ([(3, 259, 259), (0, 0, 4294967295)], [(260, 1, (0, 2147483650, 2147483650)), (260, 2, (0, 2147483650, 2147483650))], kd_P129)
def kd_C129q10 : List (Nat × kd_Tc) := [(130, kd_T130a), (121, kd_T121n2m2)]
def kd_S129q10 : List kd_St := []
theorem kd_e129q10 : kd_run0 kd_ty kd_x129 3 (kd_call kd_ty kd_xt (kd_ctl kd_C129q10) 600 1) kd_T129q10 600 kd_S129q10 = true := by decide +kernel
theorem kd_h129q10 {g : kc_G} (hg : kc_ok g) : kd_hold g 9 kd_ty 129 kd_T129q10 := kd_mk (d0 := 7) (di := 1) hg kd_xk129 rfl rfl rfl rfl (kd_al_r kd_C129q10 ⟨kd_hold_le (kd_h130a hg) (by decide), kd_hold_le (kd_h121n2m2 hg) (by decide), trivial⟩) (by decide) (by decide +kernel) kd_e129q10 (kd_al_r kd_S129q10 trivial)
def kd_T129q11 : kd_Tc := ([(3, 259, 259), (0, 0, 4294967295)], [(260, 1, (0, 2147483651, 2147483651)), (260, 2, (0, 2147483650, 2147483650))], kd_P129)
def kd_C129q11 : List (Nat × kd_Tc) := [(130, kd_T130a), (121, kd_T121n2m3)]
def kd_S129q11 : List kd_St := []
theorem kd_e129q11 : kd_run0 kd_ty kd_x129 3 (kd_call kd_ty kd_xt (kd_ctl kd_C129q11) 600 1) kd_T129q11 600 kd_S129q11 = true := by decide +kernel
theorem kd_h129q11 {g : kc_G} (hg : kc_ok g) : kd_hold g 9 kd_ty 129 kd_T129q11 := kd_mk (d0 := 7) (di := 1) hg kd_xk129 rfl rfl rfl rfl (kd_al_r kd_C129q11 ⟨kd_hold_le (kd_h130a hg) (by decide), kd_hold_le (kd_h121n2m3 hg) (by decide), trivial⟩) (by decide) (by decide +kernel) kd_e129q11 (kd_al_r kd_S129q11 trivial)
def kd_T129q12 : kd_Tc := ([(3, 259, 259), (0, 0, 4294967295)], [(260, 1, (0, 2147483648, 2147483648)), (260, 2, (0, 2147483651, 2147483651))], kd_P129)
def kd_C129q12 : List (Nat × kd_Tc) := [(130, kd_T130c), (121, kd_T121n3m0)]
def kd_S129q12 : List kd_St := []
theorem kd_e129q12 : kd_run0 kd_ty kd_x129 3 (kd_call kd_ty kd_xt (kd_ctl kd_C129q12) 600 1) kd_T129q12 600 kd_S129q12 = true := by decide +kernel
theorem kd_h129q12 {g : kc_G} (hg : kc_ok g) : kd_hold g 9 kd_ty 129 kd_T129q12 := kd_mk (d0 := 7) (di := 1) hg kd_xk129 rfl rfl rfl rfl (kd_al_r kd_C129q12 ⟨kd_hold_le (kd_h130c hg) (by decide), kd_hold_le (kd_h121n3m0 hg) (by decide), trivial⟩) (by decide) (by decide +kernel) kd_e129q12 (kd_al_r kd_S129q12 trivial)
def kd_T129q13 : kd_Tc := ([(3, 259, 259), (0, 0, 4294967295)], [(260, 1, (0, 2147483649, 2147483649)), (260, 2, (0, 2147483651, 2147483651))], kd_P129)
def kd_C129q13 : List (Nat × kd_Tc) := [(130, kd_T130a), (121, kd_T121n3m1)]
def kd_S129q13 : List kd_St := []
theorem kd_e129q13 : kd_run0 kd_ty kd_x129 3 (kd_call kd_ty kd_xt (kd_ctl kd_C129q13) 600 1) kd_T129q13 600 kd_S129q13 = true := by decide +kernel
theorem kd_h129q13 {g : kc_G} (hg : kc_ok g) : kd_hold g 9 kd_ty 129 kd_T129q13 := kd_mk (d0 := 7) (di := 1) hg kd_xk129 rfl rfl rfl rfl (kd_al_r kd_C129q13 ⟨kd_hold_le (kd_h130a hg) (by decide), kd_hold_le (kd_h121n3m1 hg) (by decide), trivial⟩) (by decide) (by decide +kernel) kd_e129q13 (kd_al_r kd_S129q13 trivial)
def kd_T129q14 : kd_Tc := ([(3, 259, 259), (0, 0, 4294967295)], [(260, 1, (0, 2147483650, 2147483650)), (260, 2, (0, 2147483651, 2147483651))], kd_P129)
def kd_C129q14 : List (Nat × kd_Tc) := [(130, kd_T130a), (121, kd_T121n3m2)]
def kd_S129q14 : List kd_St := []
theorem kd_e129q14 : kd_run0 kd_ty kd_x129 3 (kd_call kd_ty kd_xt (kd_ctl kd_C129q14) 600 1) kd_T129q14 600 kd_S129q14 = true := by decide +kernel
theorem kd_h129q14 {g : kc_G} (hg : kc_ok g) : kd_hold g 9 kd_ty 129 kd_T129q14 := kd_mk (d0 := 7) (di := 1) hg kd_xk129 rfl rfl rfl rfl (kd_al_r kd_C129q14 ⟨kd_hold_le (kd_h130a hg) (by decide), kd_hold_le (kd_h121n3m2 hg) (by decide), trivial⟩) (by decide) (by decide +kernel) kd_e129q14 (kd_al_r kd_S129q14 trivial)
def kd_T129q15 : kd_Tc := ([(3, 259, 259), (0, 0, 4294967295)], [(260, 1, (0, 2147483651, 2147483651)), (260, 2, (0, 2147483651, 2147483651))], kd_P129)
def kd_C129q15 : List (Nat × kd_Tc) := [(130, kd_T130a), (121, kd_T121n3m3)]
def kd_S129q15 : List kd_St := []
theorem kd_e129q15 : kd_run0 kd_ty kd_x129 3 (kd_call kd_ty kd_xt (kd_ctl kd_C129q15) 600 1) kd_T129q15 600 kd_S129q15 = true := by decide +kernel
theorem kd_h129q15 {g : kc_G} (hg : kc_ok g) : kd_hold g 9 kd_ty 129 kd_T129q15 := kd_mk (d0 := 7) (di := 1) hg kd_xk129 rfl rfl rfl rfl (kd_al_r kd_C129q15 ⟨kd_hold_le (kd_h130a hg) (by decide), kd_hold_le (kd_h121n3m3 hg) (by decide), trivial⟩) (by decide) (by decide +kernel) kd_e129q15 (kd_al_r kd_S129q15 trivial)
def kd_T129q16 : kd_Tc := ([(3, 259, 259), (0, 0, 4294967295)], [(260, 1, (0, 2147483648, 2147483648)), (260, 2, (0, 2147483652, 2147483652))], kd_P129)
def kd_C129q16 : List (Nat × kd_Tc) := [(130, kd_T130c), (121, kd_T121n4m0)]
def kd_S129q16 : List kd_St := []
theorem kd_e129q16 : kd_run0 kd_ty kd_x129 3 (kd_call kd_ty kd_xt (kd_ctl kd_C129q16) 600 1) kd_T129q16 600 kd_S129q16 = true := by decide +kernel
theorem kd_h129q16 {g : kc_G} (hg : kc_ok g) : kd_hold g 9 kd_ty 129 kd_T129q16 := kd_mk (d0 := 7) (di := 1) hg kd_xk129 rfl rfl rfl rfl (kd_al_r kd_C129q16 ⟨kd_hold_le (kd_h130c hg) (by decide), kd_hold_le (kd_h121n4m0 hg) (by decide), trivial⟩) (by decide) (by decide +kernel) kd_e129q16 (kd_al_r kd_S129q16 trivial)
def kd_T129q17 : kd_Tc := ([(3, 259, 259), (0, 0, 4294967295)], [(260, 1, (0, 2147483649, 2147483649)), (260, 2, (0, 2147483652, 2147483652))], kd_P129)
def kd_C129q17 : List (Nat × kd_Tc) := [(130, kd_T130a), (121, kd_T121n4m1)]
def kd_S129q17 : List kd_St := []
theorem kd_e129q17 : kd_run0 kd_ty kd_x129 3 (kd_call kd_ty kd_xt (kd_ctl kd_C129q17) 600 1) kd_T129q17 600 kd_S129q17 = true := by decide +kernel
theorem kd_h129q17 {g : kc_G} (hg : kc_ok g) : kd_hold g 9 kd_ty 129 kd_T129q17 := kd_mk (d0 := 7) (di := 1) hg kd_xk129 rfl rfl rfl rfl (kd_al_r kd_C129q17 ⟨kd_hold_le (kd_h130a hg) (by decide), kd_hold_le (kd_h121n4m1 hg) (by decide), trivial⟩) (by decide) (by decide +kernel) kd_e129q17 (kd_al_r kd_S129q17 trivial)
def kd_T129q18 : kd_Tc := ([(3, 259, 259), (0, 0, 4294967295)], [(260, 1, (0, 2147483650, 2147483650)), (260, 2, (0, 2147483652, 2147483652))], kd_P129)
def kd_C129q18 : List (Nat × kd_Tc) := [(130, kd_T130a), (121, kd_T121n4m2)]
def kd_S129q18 : List kd_St := []
theorem kd_e129q18 : kd_run0 kd_ty kd_x129 3 (kd_call kd_ty kd_xt (kd_ctl kd_C129q18) 600 1) kd_T129q18 600 kd_S129q18 = true := by decide +kernel
theorem kd_h129q18 {g : kc_G} (hg : kc_ok g) : kd_hold g 9 kd_ty 129 kd_T129q18 := kd_mk (d0 := 7) (di := 1) hg kd_xk129 rfl rfl rfl rfl (kd_al_r kd_C129q18 ⟨kd_hold_le (kd_h130a hg) (by decide), kd_hold_le (kd_h121n4m2 hg) (by decide), trivial⟩) (by decide) (by decide +kernel) kd_e129q18 (kd_al_r kd_S129q18 trivial)
def kd_T129q19 : kd_Tc := ([(3, 259, 259), (0, 0, 4294967295)], [(260, 1, (0, 2147483651, 2147483651)), (260, 2, (0, 2147483652, 2147483652))], kd_P129)
def kd_C129q19 : List (Nat × kd_Tc) := [(130, kd_T130a), (121, kd_T121n4m3)]
def kd_S129q19 : List kd_St := []
theorem kd_e129q19 : kd_run0 kd_ty kd_x129 3 (kd_call kd_ty kd_xt (kd_ctl kd_C129q19) 600 1) kd_T129q19 600 kd_S129q19 = true := by decide +kernel
theorem kd_h129q19 {g : kc_G} (hg : kc_ok g) : kd_hold g 9 kd_ty 129 kd_T129q19 := kd_mk (d0 := 7) (di := 1) hg kd_xk129 rfl rfl rfl rfl (kd_al_r kd_C129q19 ⟨kd_hold_le (kd_h130a hg) (by decide), kd_hold_le (kd_h121n4m3 hg) (by decide), trivial⟩) (by decide) (by decide +kernel) kd_e129q19 (kd_al_r kd_S129q19 trivial)
def kd_T129q20 : kd_Tc := ([(3, 259, 259), (0, 0, 4294967295)], [(260, 1, (0, 2147483648, 2147483648)), (260, 2, (0, 2147483653, 2147483653))], kd_P129)
def kd_C129q20 : List (Nat × kd_Tc) := [(130, kd_T130c), (121, kd_T121n5m0)]
def kd_S129q20 : List kd_St := []
theorem kd_e129q20 : kd_run0 kd_ty kd_x129 3 (kd_call kd_ty kd_xt (kd_ctl kd_C129q20) 600 1) kd_T129q20 600 kd_S129q20 = true := by decide +kernel
theorem kd_h129q20 {g : kc_G} (hg : kc_ok g) : kd_hold g 9 kd_ty 129 kd_T129q20 := kd_mk (d0 := 7) (di := 1) hg kd_xk129 rfl rfl rfl rfl (kd_al_r kd_C129q20 ⟨kd_hold_le (kd_h130c hg) (by decide), kd_hold_le (kd_h121n5m0 hg) (by decide), trivial⟩) (by decide) (by decide +kernel) kd_e129q20 (kd_al_r kd_S129q20 trivial)
def kd_T129q21 : kd_Tc := ([(3, 259, 259), (0, 0, 4294967295)], [(260, 1, (0, 2147483649, 2147483649)), (260, 2, (0, 2147483653, 2147483653))], kd_P129)
def kd_C129q21 : List (Nat × kd_Tc) := [(130, kd_T130a), (121, kd_T121n5m1)]
def kd_S129q21 : List kd_St := []
theorem kd_e129q21 : kd_run0 kd_ty kd_x129 3 (kd_call kd_ty kd_xt (kd_ctl kd_C129q21) 600 1) kd_T129q21 600 kd_S129q21 = true := by decide +kernel
theorem kd_h129q21 {g : kc_G} (hg : kc_ok g) : kd_hold g 9 kd_ty 129 kd_T129q21 := kd_mk (d0 := 7) (di := 1) hg kd_xk129 rfl rfl rfl rfl (kd_al_r kd_C129q21 ⟨kd_hold_le (kd_h130a hg) (by decide), kd_hold_le (kd_h121n5m1 hg) (by decide), trivial⟩) (by decide) (by decide +kernel) kd_e129q21 (kd_al_r kd_S129q21 trivial)
def kd_T129q22 : kd_Tc := ([(3, 259, 259), (0, 0, 4294967295)], [(260, 1, (0, 2147483650, 2147483650)), (260, 2, (0, 2147483653, 2147483653))], kd_P129)
def kd_C129q22 : List (Nat × kd_Tc) := [(130, kd_T130a), (121, kd_T121n5m2)]
def kd_S129q22 : List kd_St := []
theorem kd_e129q22 : kd_run0 kd_ty kd_x129 3 (kd_call kd_ty kd_xt (kd_ctl kd_C129q22) 600 1) kd_T129q22 600 kd_S129q22 = true := by decide +kernel
theorem kd_h129q22 {g : kc_G} (hg : kc_ok g) : kd_hold g 9 kd_ty 129 kd_T129q22 := kd_mk (d0 := 7) (di := 1) hg kd_xk129 rfl rfl rfl rfl (kd_al_r kd_C129q22 ⟨kd_hold_le (kd_h130a hg) (by decide), kd_hold_le (kd_h121n5m2 hg) (by decide), trivial⟩) (by decide) (by decide +kernel) kd_e129q22 (kd_al_r kd_S129q22 trivial)
def kd_T129q23 : kd_Tc := ([(3, 259, 259), (0, 0, 4294967295)], [(260, 1, (0, 2147483651, 2147483651)), (260, 2, (0, 2147483653, 2147483653))], kd_P129)
def kd_C129q23 : List (Nat × kd_Tc) := [(121, kd_T121n5m3)]
def kd_S129q23 : List kd_St := []
theorem kd_e129q23 : kd_run0 kd_ty kd_x129 3 (kd_call kd_ty kd_xt (kd_ctl kd_C129q23) 600 1) kd_T129q23 600 kd_S129q23 = true := by decide +kernel
theorem kd_h129q23 {g : kc_G} (hg : kc_ok g) : kd_hold g 3 kd_ty 129 kd_T129q23 := kd_mk (d0 := 1) (di := 1) hg kd_xk129 rfl rfl rfl rfl (kd_al_r kd_C129q23 ⟨kd_hold_le (kd_h121n5m3 hg) (by decide), trivial⟩) (by decide) (by decide +kernel) kd_e129q23 (kd_al_r kd_S129q23 trivial)
def kd_T129q24 : kd_Tc := ([(3, 259, 259), (0, 0, 4294967295)], [(260, 1, (0, 2147483648, 2147483648)), (260, 2, (0, 2147483654, 2147483654))], kd_P129)
def kd_C129q24 : List (Nat × kd_Tc) := [(130, kd_T130c), (121, kd_T121n6m0)]
def kd_S129q24 : List kd_St := []
theorem kd_e129q24 : kd_run0 kd_ty kd_x129 3 (kd_call kd_ty kd_xt (kd_ctl kd_C129q24) 600 1) kd_T129q24 600 kd_S129q24 = true := by decide +kernel
theorem kd_h129q24 {g : kc_G} (hg : kc_ok g) : kd_hold g 9 kd_ty 129 kd_T129q24 := kd_mk (d0 := 7) (di := 1) hg kd_xk129 rfl rfl rfl rfl (kd_al_r kd_C129q24 ⟨kd_hold_le (kd_h130c hg) (by decide), kd_hold_le (kd_h121n6m0 hg) (by decide), trivial⟩) (by decide) (by decide +kernel) kd_e129q24 (kd_al_r kd_S129q24 trivial)
def kd_T129q25 : kd_Tc := ([(3, 259, 259), (0, 0, 4294967295)], [(260, 1, (0, 2147483649, 2147483649)), (260, 2, (0, 2147483654, 2147483654))], kd_P129)
def kd_C129q25 : List (Nat × kd_Tc) := [(130, kd_T130a), (121, kd_T121n6m1)]
def kd_S129q25 : List kd_St := []
theorem kd_e129q25 : kd_run0 kd_ty kd_x129 3 (kd_call kd_ty kd_xt (kd_ctl kd_C129q25) 600 1) kd_T129q25 600 kd_S129q25 = true := by decide +kernel
theorem kd_h129q25 {g : kc_G} (hg : kc_ok g) : kd_hold g 9 kd_ty 129 kd_T129q25 := kd_mk (d0 := 7) (di := 1) hg kd_xk129 rfl rfl rfl rfl (kd_al_r kd_C129q25 ⟨kd_hold_le (kd_h130a hg) (by decide), kd_hold_le (kd_h121n6m1 hg) (by decide), trivial⟩) (by decide) (by decide +kernel) kd_e129q25 (kd_al_r kd_S129q25 trivial)
def kd_T129q26 : kd_Tc := ([(3, 259, 259), (0, 0, 4294967295)], [(260, 1, (0, 2147483650, 2147483650)), (260, 2, (0, 2147483654, 2147483654))], kd_P129)
def kd_C129q26 : List (Nat × kd_Tc) := [(130, kd_T130a), (121, kd_T121n6m2)]
def kd_S129q26 : List kd_St := []
theorem kd_e129q26 : kd_run0 kd_ty kd_x129 3 (kd_call kd_ty kd_xt (kd_ctl kd_C129q26) 600 1) kd_T129q26 600 kd_S129q26 = true := by decide +kernel
theorem kd_h129q26 {g : kc_G} (hg : kc_ok g) : kd_hold g 9 kd_ty 129 kd_T129q26 := kd_mk (d0 := 7) (di := 1) hg kd_xk129 rfl rfl rfl rfl (kd_al_r kd_C129q26 ⟨kd_hold_le (kd_h130a hg) (by decide), kd_hold_le (kd_h121n6m2 hg) (by decide), trivial⟩) (by decide) (by decide +kernel) kd_e129q26 (kd_al_r kd_S129q26 trivial)
def kd_T129q27 : kd_Tc := ([(3, 259, 259), (0, 0, 4294967295)], [(260, 1, (0, 2147483651, 2147483651)), (260, 2, (0, 2147483654, 2147483654))], kd_P129)
def kd_C129q27 : List (Nat × kd_Tc) := [(121, kd_T121n6m3)]
def kd_S129q27 : List kd_St := []
theorem kd_e129q27 : kd_run0 kd_ty kd_x129 3 (kd_call kd_ty kd_xt (kd_ctl kd_C129q27) 600 1) kd_T129q27 600 kd_S129q27 = true := by decide +kernel
theorem kd_h129q27 {g : kc_G} (hg : kc_ok g) : kd_hold g 3 kd_ty 129 kd_T129q27 := kd_mk (d0 := 1) (di := 1) hg kd_xk129 rfl rfl rfl rfl (kd_al_r kd_C129q27 ⟨kd_hold_le (kd_h121n6m3 hg) (by decide), trivial⟩) (by decide) (by decide +kernel) kd_e129q27 (kd_al_r kd_S129q27 trivial)
def kd_T129q28 : kd_Tc := ([(3, 259, 259), (0, 0, 4294967295)], [(260, 1, (0, 2147483648, 2147483648)), (260, 2, (0, 2147483655, 2147483655))], kd_P129)
def kd_C129q28 : List (Nat × kd_Tc) := [(130, kd_T130c), (121, kd_T121n7m0)]
def kd_S129q28 : List kd_St := []
theorem kd_e129q28 : kd_run0 kd_ty kd_x129 3 (kd_call kd_ty kd_xt (kd_ctl kd_C129q28) 600 1) kd_T129q28 600 kd_S129q28 = true := by decide +kernel
theorem kd_h129q28 {g : kc_G} (hg : kc_ok g) : kd_hold g 9 kd_ty 129 kd_T129q28 := kd_mk (d0 := 7) (di := 1) hg kd_xk129 rfl rfl rfl rfl (kd_al_r kd_C129q28 ⟨kd_hold_le (kd_h130c hg) (by decide), kd_hold_le (kd_h121n7m0 hg) (by decide), trivial⟩) (by decide) (by decide +kernel) kd_e129q28 (kd_al_r kd_S129q28 trivial)
def kd_T129q29 : kd_Tc := ([(3, 259, 259), (0, 0, 4294967295)], [(260, 1, (0, 2147483649, 2147483649)), (260, 2, (0, 2147483655, 2147483655))], kd_P129)
def kd_C129q29 : List (Nat × kd_Tc) := [(130, kd_T130a), (121, kd_T121n7m1)]
def kd_S129q29 : List kd_St := []
theorem kd_e129q29 : kd_run0 kd_ty kd_x129 3 (kd_call kd_ty kd_xt (kd_ctl kd_C129q29) 600 1) kd_T129q29 600 kd_S129q29 = true := by decide +kernel
theorem kd_h129q29 {g : kc_G} (hg : kc_ok g) : kd_hold g 9 kd_ty 129 kd_T129q29 := kd_mk (d0 := 7) (di := 1) hg kd_xk129 rfl rfl rfl rfl (kd_al_r kd_C129q29 ⟨kd_hold_le (kd_h130a hg) (by decide), kd_hold_le (kd_h121n7m1 hg) (by decide), trivial⟩) (by decide) (by decide +kernel) kd_e129q29 (kd_al_r kd_S129q29 trivial)
def kd_T129q30 : kd_Tc := ([(3, 259, 259), (0, 0, 4294967295)], [(260, 1, (0, 2147483650, 2147483650)), (260, 2, (0, 2147483655, 2147483655))], kd_P129)
def kd_C129q30 : List (Nat × kd_Tc) := [(121, kd_T121n7m2)]
def kd_S129q30 : List kd_St := []
theorem kd_e129q30 : kd_run0 kd_ty kd_x129 3 (kd_call kd_ty kd_xt (kd_ctl kd_C129q30) 600 1) kd_T129q30 600 kd_S129q30 = true := by decide +kernel
theorem kd_h129q30 {g : kc_G} (hg : kc_ok g) : kd_hold g 3 kd_ty 129 kd_T129q30 := kd_mk (d0 := 1) (di := 1) hg kd_xk129 rfl rfl rfl rfl (kd_al_r kd_C129q30 ⟨kd_hold_le (kd_h121n7m2 hg) (by decide), trivial⟩) (by decide) (by decide +kernel) kd_e129q30 (kd_al_r kd_S129q30 trivial)
def kd_T129q31 : kd_Tc := ([(3, 259, 259), (0, 0, 4294967295)], [(260, 1, (0, 2147483651, 2147483651)), (260, 2, (0, 2147483655, 2147483655))], kd_P129)
def kd_C129q31 : List (Nat × kd_Tc) := [(121, kd_T121n7m3)]
def kd_S129q31 : List kd_St := []
theorem kd_e129q31 : kd_run0 kd_ty kd_x129 3 (kd_call kd_ty kd_xt (kd_ctl kd_C129q31) 600 1) kd_T129q31 600 kd_S129q31 = true := by decide +kernel
theorem kd_h129q31 {g : kc_G} (hg : kc_ok g) : kd_hold g 3 kd_ty 129 kd_T129q31 := kd_mk (d0 := 1) (di := 1) hg kd_xk129 rfl rfl rfl rfl (kd_al_r kd_C129q31 ⟨kd_hold_le (kd_h121n7m3 hg) (by decide), trivial⟩) (by decide) (by decide +kernel) kd_e129q31 (kd_al_r kd_S129q31 trivial)
def kd_T129q32 : kd_Tc := ([(3, 259, 259), (0, 0, 4294967295)], [(260, 1, (0, 2147483648, 2147483648)), (260, 2, (0, 2147483656, 2147483656))], kd_P129)
def kd_C129q32 : List (Nat × kd_Tc) := [(130, kd_T130c), (121, kd_T121n8m0)]
def kd_S129q32 : List kd_St := []
theorem kd_e129q32 : kd_run0 kd_ty kd_x129 3 (kd_call kd_ty kd_xt (kd_ctl kd_C129q32) 600 1) kd_T129q32 600 kd_S129q32 = true := by decide +kernel
theorem kd_h129q32 {g : kc_G} (hg : kc_ok g) : kd_hold g 9 kd_ty 129 kd_T129q32 := kd_mk (d0 := 7) (di := 1) hg kd_xk129 rfl rfl rfl rfl (kd_al_r kd_C129q32 ⟨kd_hold_le (kd_h130c hg) (by decide), kd_hold_le (kd_h121n8m0 hg) (by decide), trivial⟩) (by decide) (by decide +kernel) kd_e129q32 (kd_al_r kd_S129q32 trivial)
def kd_T129q33 : kd_Tc := ([(3, 259, 259), (0, 0, 4294967295)], [(260, 1, (0, 2147483649, 2147483649)), (260, 2, (0, 2147483656, 2147483656))], kd_P129)
def kd_C129q33 : List (Nat × kd_Tc) := [(130, kd_T130a), (121, kd_T121n8m1)]
def kd_S129q33 : List kd_St := []
theorem kd_e129q33 : kd_run0 kd_ty kd_x129 3 (kd_call kd_ty kd_xt (kd_ctl kd_C129q33) 600 1) kd_T129q33 600 kd_S129q33 = true := by decide +kernel
theorem kd_h129q33 {g : kc_G} (hg : kc_ok g) : kd_hold g 9 kd_ty 129 kd_T129q33 := kd_mk (d0 := 7) (di := 1) hg kd_xk129 rfl rfl rfl rfl (kd_al_r kd_C129q33 ⟨kd_hold_le (kd_h130a hg) (by decide), kd_hold_le (kd_h121n8m1 hg) (by decide), trivial⟩) (by decide) (by decide +kernel) kd_e129q33 (kd_al_r kd_S129q33 trivial)
def kd_T129q34 : kd_Tc := ([(3, 259, 259), (0, 0, 4294967295)], [(260, 1, (0, 2147483650, 2147483650)), (260, 2, (0, 2147483656, 2147483656))], kd_P129)
def kd_C129q34 : List (Nat × kd_Tc) := [(121, kd_T121n8m2)]
def kd_S129q34 : List kd_St := []
theorem kd_e129q34 : kd_run0 kd_ty kd_x129 3 (kd_call kd_ty kd_xt (kd_ctl kd_C129q34) 600 1) kd_T129q34 600 kd_S129q34 = true := by decide +kernel
theorem kd_h129q34 {g : kc_G} (hg : kc_ok g) : kd_hold g 3 kd_ty 129 kd_T129q34 := kd_mk (d0 := 1) (di := 1) hg kd_xk129 rfl rfl rfl rfl (kd_al_r kd_C129q34 ⟨kd_hold_le (kd_h121n8m2 hg) (by decide), trivial⟩) (by decide) (by decide +kernel) kd_e129q34 (kd_al_r kd_S129q34 trivial)
def kd_T129q35 : kd_Tc := ([(3, 259, 259), (0, 0, 4294967295)], [(260, 1, (0, 2147483651, 2147483651)), (260, 2, (0, 2147483656, 2147483656))], kd_P129)
def kd_C129q35 : List (Nat × kd_Tc) := [(121, kd_T121n8m3)]
def kd_S129q35 : List kd_St := []
theorem kd_e129q35 : kd_run0 kd_ty kd_x129 3 (kd_call kd_ty kd_xt (kd_ctl kd_C129q35) 600 1) kd_T129q35 600 kd_S129q35 = true := by decide +kernel
theorem kd_h129q35 {g : kc_G} (hg : kc_ok g) : kd_hold g 3 kd_ty 129 kd_T129q35 := kd_mk (d0 := 1) (di := 1) hg kd_xk129 rfl rfl rfl rfl (kd_al_r kd_C129q35 ⟨kd_hold_le (kd_h121n8m3 hg) (by decide), trivial⟩) (by decide) (by decide +kernel) kd_e129q35 (kd_al_r kd_S129q35 trivial)
def kd_T129q36 : kd_Tc := ([(3, 259, 259), (0, 0, 4294967295)], [(260, 1, (0, 2147483648, 2147483648)), (260, 2, (0, 2147483657, 2147483657))], kd_P129)
def kd_C129q36 : List (Nat × kd_Tc) := [(130, kd_T130c), (121, kd_T121n9m0)]
def kd_S129q36 : List kd_St := []
theorem kd_e129q36 : kd_run0 kd_ty kd_x129 3 (kd_call kd_ty kd_xt (kd_ctl kd_C129q36) 600 1) kd_T129q36 600 kd_S129q36 = true := by decide +kernel
theorem kd_h129q36 {g : kc_G} (hg : kc_ok g) : kd_hold g 9 kd_ty 129 kd_T129q36 := kd_mk (d0 := 7) (di := 1) hg kd_xk129 rfl rfl rfl rfl (kd_al_r kd_C129q36 ⟨kd_hold_le (kd_h130c hg) (by decide), kd_hold_le (kd_h121n9m0 hg) (by decide), trivial⟩) (by decide) (by decide +kernel) kd_e129q36 (kd_al_r kd_S129q36 trivial)
def kd_T129q37 : kd_Tc := ([(3, 259, 259), (0, 0, 4294967295)], [(260, 1, (0, 2147483649, 2147483649)), (260, 2, (0, 2147483657, 2147483657))], kd_P129)
def kd_C129q37 : List (Nat × kd_Tc) := [(130, kd_T130a), (121, kd_T121n9m1)]
def kd_S129q37 : List kd_St := []
theorem kd_e129q37 : kd_run0 kd_ty kd_x129 3 (kd_call kd_ty kd_xt (kd_ctl kd_C129q37) 600 1) kd_T129q37 600 kd_S129q37 = true := by decide +kernel
theorem kd_h129q37 {g : kc_G} (hg : kc_ok g) : kd_hold g 9 kd_ty 129 kd_T129q37 := kd_mk (d0 := 7) (di := 1) hg kd_xk129 rfl rfl rfl rfl (kd_al_r kd_C129q37 ⟨kd_hold_le (kd_h130a hg) (by decide), kd_hold_le (kd_h121n9m1 hg) (by decide), trivial⟩) (by decide) (by decide +kernel) kd_e129q37 (kd_al_r kd_S129q37 trivial)
def kd_T129q38 : kd_Tc := ([(3, 259, 259), (0, 0, 4294967295)], [(260, 1, (0, 2147483650, 2147483650)), (260, 2, (0, 2147483657, 2147483657))], kd_P129)
def kd_C129q38 : List (Nat × kd_Tc) := [(121, kd_T121n9m2)]
def kd_S129q38 : List kd_St := []
theorem kd_e129q38 : kd_run0 kd_ty kd_x129 3 (kd_call kd_ty kd_xt (kd_ctl kd_C129q38) 600 1) kd_T129q38 600 kd_S129q38 = true := by decide +kernel
theorem kd_h129q38 {g : kc_G} (hg : kc_ok g) : kd_hold g 3 kd_ty 129 kd_T129q38 := kd_mk (d0 := 1) (di := 1) hg kd_xk129 rfl rfl rfl rfl (kd_al_r kd_C129q38 ⟨kd_hold_le (kd_h121n9m2 hg) (by decide), trivial⟩) (by decide) (by decide +kernel) kd_e129q38 (kd_al_r kd_S129q38 trivial)
def kd_T129q39 : kd_Tc := ([(3, 259, 259), (0, 0, 4294967295)], [(260, 1, (0, 2147483651, 2147483651)), (260, 2, (0, 2147483657, 2147483657))], kd_P129)
def kd_C129q39 : List (Nat × kd_Tc) := [(121, kd_T121n9m3)]
def kd_S129q39 : List kd_St := []
theorem kd_e129q39 : kd_run0 kd_ty kd_x129 3 (kd_call kd_ty kd_xt (kd_ctl kd_C129q39) 600 1) kd_T129q39 600 kd_S129q39 = true := by decide +kernel
theorem kd_h129q39 {g : kc_G} (hg : kc_ok g) : kd_hold g 3 kd_ty 129 kd_T129q39 := kd_mk (d0 := 1) (di := 1) hg kd_xk129 rfl rfl rfl rfl (kd_al_r kd_C129q39 ⟨kd_hold_le (kd_h121n9m3 hg) (by decide), trivial⟩) (by decide) (by decide +kernel) kd_e129q39 (kd_al_r kd_S129q39 trivial)
def kd_T129q40 : kd_Tc := ([(3, 259, 259), (0, 0, 4294967295)], [(260, 1, (0, 2147483648, 2147483648)), (260, 2, (0, 2147483658, 2147483658))], kd_P129)
def kd_C129q40 : List (Nat × kd_Tc) := [(130, kd_T130c), (121, kd_T121n10m0)]
def kd_S129q40 : List kd_St := []
theorem kd_e129q40 : kd_run0 kd_ty kd_x129 3 (kd_call kd_ty kd_xt (kd_ctl kd_C129q40) 600 1) kd_T129q40 600 kd_S129q40 = true := by decide +kernel
theorem kd_h129q40 {g : kc_G} (hg : kc_ok g) : kd_hold g 9 kd_ty 129 kd_T129q40 := kd_mk (d0 := 7) (di := 1) hg kd_xk129 rfl rfl rfl rfl (kd_al_r kd_C129q40 ⟨kd_hold_le (kd_h130c hg) (by decide), kd_hold_le (kd_h121n10m0 hg) (by decide), trivial⟩) (by decide) (by decide +kernel) kd_e129q40 (kd_al_r kd_S129q40 trivial)
def kd_T129q41 : kd_Tc := ([(3, 259, 259), (0, 0, 4294967295)], [(260, 1, (0, 2147483649, 2147483649)), (260, 2, (0, 2147483658, 2147483658))], kd_P129)
def kd_C129q41 : List (Nat × kd_Tc) := [(130, kd_T130a), (121, kd_T121n10m1)]
def kd_S129q41 : List kd_St := []
theorem kd_e129q41 : kd_run0 kd_ty kd_x129 3 (kd_call kd_ty kd_xt (kd_ctl kd_C129q41) 600 1) kd_T129q41 600 kd_S129q41 = true := by decide +kernel
theorem kd_h129q41 {g : kc_G} (hg : kc_ok g) : kd_hold g 9 kd_ty 129 kd_T129q41 := kd_mk (d0 := 7) (di := 1) hg kd_xk129 rfl rfl rfl rfl (kd_al_r kd_C129q41 ⟨kd_hold_le (kd_h130a hg) (by decide), kd_hold_le (kd_h121n10m1 hg) (by decide), trivial⟩) (by decide) (by decide +kernel) kd_e129q41 (kd_al_r kd_S129q41 trivial)
def kd_T129q42 : kd_Tc := ([(3, 259, 259), (0, 0, 4294967295)], [(260, 1, (0, 2147483650, 2147483650)), (260, 2, (0, 2147483658, 2147483658))], kd_P129)
def kd_C129q42 : List (Nat × kd_Tc) := [(121, kd_T121n10m2)]
def kd_S129q42 : List kd_St := []
theorem kd_e129q42 : kd_run0 kd_ty kd_x129 3 (kd_call kd_ty kd_xt (kd_ctl kd_C129q42) 600 1) kd_T129q42 600 kd_S129q42 = true := by decide +kernel
theorem kd_h129q42 {g : kc_G} (hg : kc_ok g) : kd_hold g 3 kd_ty 129 kd_T129q42 := kd_mk (d0 := 1) (di := 1) hg kd_xk129 rfl rfl rfl rfl (kd_al_r kd_C129q42 ⟨kd_hold_le (kd_h121n10m2 hg) (by decide), trivial⟩) (by decide) (by decide +kernel) kd_e129q42 (kd_al_r kd_S129q42 trivial)
def kd_T129q43 : kd_Tc := ([(3, 259, 259), (0, 0, 4294967295)], [(260, 1, (0, 2147483651, 2147483651)), (260, 2, (0, 2147483658, 2147483658))], kd_P129)
def kd_C129q43 : List (Nat × kd_Tc) := [(121, kd_T121n10m3)]
def kd_S129q43 : List kd_St := []
theorem kd_e129q43 : kd_run0 kd_ty kd_x129 3 (kd_call kd_ty kd_xt (kd_ctl kd_C129q43) 600 1) kd_T129q43 600 kd_S129q43 = true := by decide +kernel
theorem kd_h129q43 {g : kc_G} (hg : kc_ok g) : kd_hold g 3 kd_ty 129 kd_T129q43 := kd_mk (d0 := 1) (di := 1) hg kd_xk129 rfl rfl rfl rfl (kd_al_r kd_C129q43 ⟨kd_hold_le (kd_h121n10m3 hg) (by decide), trivial⟩) (by decide) (by decide +kernel) kd_e129q43 (kd_al_r kd_S129q43 trivial)
def kd_T129 : kd_Tc := ([(3, 259, 259), (0, 0, 4294967295)], [], kd_P129)
theorem kd_h129 {g : kc_G} (hg : kc_ok g) : kd_hold g 9 kd_ty 129 kd_T129 := kd_hold_fact (a := 2147483648) (b := 2147483658) 260 2 [(2147483648, 2147483648), (2147483649, 2147483649), (2147483650, 2147483650), (2147483651, 2147483651), (2147483652, 2147483652), (2147483653, 2147483653), (2147483654, 2147483654), (2147483655, 2147483655), (2147483656, 2147483656), (2147483657, 2147483657), (2147483658, 2147483658)] (by decide +kernel) (by decide +kernel) (kd_al_r [(2147483648, 2147483648), (2147483649, 2147483649), (2147483650, 2147483650), (2147483651, 2147483651), (2147483652, 2147483652), (2147483653, 2147483653), (2147483654, 2147483654), (2147483655, 2147483655), (2147483656, 2147483656), (2147483657, 2147483657), (2147483658, 2147483658)] ⟨(kd_hold_fact (a := 2147483648) (b := 2147483651) 260 1 [(2147483648, 2147483648), (2147483649, 2147483649), (2147483650, 2147483650), (2147483651, 2147483651)] (by decide +kernel) (by decide +kernel) (kd_al_r [(2147483648, 2147483648), (2147483649, 2147483649), (2147483650, 2147483650), (2147483651, 2147483651)] ⟨(kd_hold_le (kd_h129q0 hg) (by decide)), (kd_hold_le (kd_h129q1 hg) (by decide)), (kd_hold_le (kd_h129q2 hg) (by decide)), (kd_hold_le (kd_h129q3 hg) (by decide)), trivial⟩)), (kd_hold_fact (a := 2147483648) (b := 2147483651) 260 1 [(2147483648, 2147483648), (2147483649, 2147483649), (2147483650, 2147483650), (2147483651, 2147483651)] (by decide +kernel) (by decide +kernel) (kd_al_r [(2147483648, 2147483648), (2147483649, 2147483649), (2147483650, 2147483650), (2147483651, 2147483651)] ⟨(kd_hold_le (kd_h129q4 hg) (by decide)), (kd_hold_le (kd_h129q5 hg) (by decide)), (kd_hold_le (kd_h129q6 hg) (by decide)), (kd_hold_le (kd_h129q7 hg) (by decide)), trivial⟩)), (kd_hold_fact (a := 2147483648) (b := 2147483651) 260 1 [(2147483648, 2147483648), (2147483649, 2147483649), (2147483650, 2147483650), (2147483651, 2147483651)] (by decide +kernel) (by decide +kernel) (kd_al_r [(2147483648, 2147483648), (2147483649, 2147483649), (2147483650, 2147483650), (2147483651, 2147483651)] ⟨(kd_hold_le (kd_h129q8 hg) (by decide)), (kd_hold_le (kd_h129q9 hg) (by decide)), (kd_hold_le (kd_h129q10 hg) (by decide)), (kd_hold_le (kd_h129q11 hg) (by decide)), trivial⟩)), (kd_hold_fact (a := 2147483648) (b := 2147483651) 260 1 [(2147483648, 2147483648), (2147483649, 2147483649), (2147483650, 2147483650), (2147483651, 2147483651)] (by decide +kernel) (by decide +kernel) (kd_al_r [(2147483648, 2147483648), (2147483649, 2147483649), (2147483650, 2147483650), (2147483651, 2147483651)] ⟨(kd_hold_le (kd_h129q12 hg) (by decide)), (kd_hold_le (kd_h129q13 hg) (by decide)), (kd_hold_le (kd_h129q14 hg) (by decide)), (kd_hold_le (kd_h129q15 hg) (by decide)), trivial⟩)), (kd_hold_fact (a := 2147483648) (b := 2147483651) 260 1 [(2147483648, 2147483648), (2147483649, 2147483649), (2147483650, 2147483650), (2147483651, 2147483651)] (by decide +kernel) (by decide +kernel) (kd_al_r [(2147483648, 2147483648), (2147483649, 2147483649), (2147483650, 2147483650), (2147483651, 2147483651)] ⟨(kd_hold_le (kd_h129q16 hg) (by decide)), (kd_hold_le (kd_h129q17 hg) (by decide)), (kd_hold_le (kd_h129q18 hg) (by decide)), (kd_hold_le (kd_h129q19 hg) (by decide)), trivial⟩)), (kd_hold_fact (a := 2147483648) (b := 2147483651) 260 1 [(2147483648, 2147483648), (2147483649, 2147483649), (2147483650, 2147483650), (2147483651, 2147483651)] (by decide +kernel) (by decide +kernel) (kd_al_r [(2147483648, 2147483648), (2147483649, 2147483649), (2147483650, 2147483650), (2147483651, 2147483651)] ⟨(kd_hold_le (kd_h129q20 hg) (by decide)), (kd_hold_le (kd_h129q21 hg) (by decide)), (kd_hold_le (kd_h129q22 hg) (by decide)), (kd_hold_le (kd_h129q23 hg) (by decide)), trivial⟩)), (kd_hold_fact (a := 2147483648) (b := 2147483651) 260 1 [(2147483648, 2147483648), (2147483649, 2147483649), (2147483650, 2147483650), (2147483651, 2147483651)] (by decide +kernel) (by decide +kernel) (kd_al_r [(2147483648, 2147483648), (2147483649, 2147483649), (2147483650, 2147483650), (2147483651, 2147483651)] ⟨(kd_hold_le (kd_h129q24 hg) (by decide)), (kd_hold_le (kd_h129q25 hg) (by decide)), (kd_hold_le (kd_h129q26 hg) (by decide)), (kd_hold_le (kd_h129q27 hg) (by decide)), trivial⟩)), (kd_hold_fact (a := 2147483648) (b := 2147483651) 260 1 [(2147483648, 2147483648), (2147483649, 2147483649), (2147483650, 2147483650), (2147483651, 2147483651)] (by decide +kernel) (by decide +kernel) (kd_al_r [(2147483648, 2147483648), (2147483649, 2147483649), (2147483650, 2147483650), (2147483651, 2147483651)] ⟨(kd_hold_le (kd_h129q28 hg) (by decide)), (kd_hold_le (kd_h129q29 hg) (by decide)), (kd_hold_le (kd_h129q30 hg) (by decide)), (kd_hold_le (kd_h129q31 hg) (by decide)), trivial⟩)), (kd_hold_fact (a := 2147483648) (b := 2147483651) 260 1 [(2147483648, 2147483648), (2147483649, 2147483649), (2147483650, 2147483650), (2147483651, 2147483651)] (by decide +kernel) (by decide +kernel) (kd_al_r [(2147483648, 2147483648), (2147483649, 2147483649), (2147483650, 2147483650), (2147483651, 2147483651)] ⟨(kd_hold_le (kd_h129q32 hg) (by decide)), (kd_hold_le (kd_h129q33 hg) (by decide)), (kd_hold_le (kd_h129q34 hg) (by decide)), (kd_hold_le (kd_h129q35 hg) (by decide)), trivial⟩)), (kd_hold_fact (a := 2147483648) (b := 2147483651) 260 1 [(2147483648, 2147483648), (2147483649, 2147483649), (2147483650, 2147483650), (2147483651, 2147483651)] (by decide +kernel) (by decide +kernel) (kd_al_r [(2147483648, 2147483648), (2147483649, 2147483649), (2147483650, 2147483650), (2147483651, 2147483651)] ⟨(kd_hold_le (kd_h129q36 hg) (by decide)), (kd_hold_le (kd_h129q37 hg) (by decide)), (kd_hold_le (kd_h129q38 hg) (by decide)), (kd_hold_le (kd_h129q39 hg) (by decide)), trivial⟩)), (kd_hold_fact (a := 2147483648) (b := 2147483651) 260 1 [(2147483648, 2147483648), (2147483649, 2147483649), (2147483650, 2147483650), (2147483651, 2147483651)] (by decide +kernel) (by decide +kernel) (kd_al_r [(2147483648, 2147483648), (2147483649, 2147483649), (2147483650, 2147483650), (2147483651, 2147483651)] ⟨(kd_hold_le (kd_h129q40 hg) (by decide)), (kd_hold_le (kd_h129q41 hg) (by decide)), (kd_hold_le (kd_h129q42 hg) (by decide)), (kd_hold_le (kd_h129q43 hg) (by decide)), trivial⟩)), trivial⟩)
