/-! ===== contracts, km 1 ===== -/
def kd_P56 : List kd_P := [(some (0, 2147483644, 2147483888), [], [(260, 260, 160, 161), (260, 260, 170, 649)])]
def kd_T56q0 : kd_Tc := ([(3, 259, 259), (0, 0, 2147483647), (2, 0, 18446744073709551615), (0, 0, 2147483648)], [], kd_P56)
def kd_C56q0 : List (Nat × kd_Tc) := []
def kd_S56q0 : List kd_St := []
theorem kd_e56q0 : kd_run0 kd_ty kd_x56 6 (kd_call kd_ty kd_xt (kd_ctl kd_C56q0) 600 2) kd_T56q0 600 kd_S56q0 = true := by decide +kernel
theorem kd_h56q0 {g : kc_G} (hg : kc_ok g) : kd_hold g 3 kd_ty 56 kd_T56q0 := kd_mk (d0 := 0) (di := 2) hg kd_xk56 rfl rfl rfl rfl (kd_al_r kd_C56q0 trivial) (by decide) (by decide +kernel) kd_e56q0 (kd_al_r kd_S56q0 trivial)
def kd_T56q1 : kd_Tc := ([(3, 259, 259), (0, 0, 2147483647), (2, 0, 18446744073709551615), (0, 2147483649, 2147483649)], [], kd_P56)
def kd_C56q1 : List (Nat × kd_Tc) := []
def kd_S56q1 : List kd_St := []
theorem kd_e56q1 : kd_run0 kd_ty kd_x56 6 (kd_call kd_ty kd_xt (kd_ctl kd_C56q1) 600 2) kd_T56q1 600 kd_S56q1 = true := by decide +kernel
theorem kd_h56q1 {g : kc_G} (hg : kc_ok g) : kd_hold g 3 kd_ty 56 kd_T56q1 := kd_mk (d0 := 0) (di := 2) hg kd_xk56 rfl rfl rfl rfl (kd_al_r kd_C56q1 trivial) (by decide) (by decide +kernel) kd_e56q1 (kd_al_r kd_S56q1 trivial)
def kd_T56q2 : kd_Tc := ([(3, 259, 259), (0, 0, 2147483647), (2, 0, 18446744073709551615), (0, 2147483650, 2147483650)], [], kd_P56)
def kd_C56q2 : List (Nat × kd_Tc) := []
def kd_S56q2 : List kd_St := []
theorem kd_e56q2 : kd_run0 kd_ty kd_x56 6 (kd_call kd_ty kd_xt (kd_ctl kd_C56q2) 600 2) kd_T56q2 600 kd_S56q2 = true := by decide +kernel
theorem kd_h56q2 {g : kc_G} (hg : kc_ok g) : kd_hold g 3 kd_ty 56 kd_T56q2 := kd_mk (d0 := 0) (di := 2) hg kd_xk56 rfl rfl rfl rfl (kd_al_r kd_C56q2 trivial) (by decide) (by decide +kernel) kd_e56q2 (kd_al_r kd_S56q2 trivial)
def kd_T56q3 : kd_Tc := ([(3, 259, 259), (0, 0, 2147483647), (2, 0, 18446744073709551615), (0, 2147483651, 2147483651)], [], kd_P56)
def kd_C56q3 : List (Nat × kd_Tc) := []
def kd_S56q3 : List kd_St := []
theorem kd_e56q3 : kd_run0 kd_ty kd_x56 6 (kd_call kd_ty kd_xt (kd_ctl kd_C56q3) 600 2) kd_T56q3 600 kd_S56q3 = true := by decide +kernel
theorem kd_h56q3 {g : kc_G} (hg : kc_ok g) : kd_hold g 3 kd_ty 56 kd_T56q3 := kd_mk (d0 := 0) (di := 2) hg kd_xk56 rfl rfl rfl rfl (kd_al_r kd_C56q3 trivial) (by decide) (by decide +kernel) kd_e56q3 (kd_al_r kd_S56q3 trivial)
def kd_T56q4 : kd_Tc := ([(3, 259, 259), (0, 0, 2147483647), (2, 0, 18446744073709551615), (0, 2147483652, 2147483652)], [], kd_P56)
def kd_C56q4 : List (Nat × kd_Tc) := []
def kd_S56q4 : List kd_St := []
theorem kd_e56q4 : kd_run0 kd_ty kd_x56 6 (kd_call kd_ty kd_xt (kd_ctl kd_C56q4) 600 2) kd_T56q4 600 kd_S56q4 = true := by decide +kernel
theorem kd_h56q4 {g : kc_G} (hg : kc_ok g) : kd_hold g 3 kd_ty 56 kd_T56q4 := kd_mk (d0 := 0) (di := 2) hg kd_xk56 rfl rfl rfl rfl (kd_al_r kd_C56q4 trivial) (by decide) (by decide +kernel) kd_e56q4 (kd_al_r kd_S56q4 trivial)
def kd_T56q5 : kd_Tc := ([(3, 259, 259), (0, 0, 2147483647), (2, 0, 18446744073709551615), (0, 2147483653, 2147483653)], [], kd_P56)
def kd_C56q5 : List (Nat × kd_Tc) := []
def kd_S56q5 : List kd_St := []
theorem kd_e56q5 : kd_run0 kd_ty kd_x56 6 (kd_call kd_ty kd_xt (kd_ctl kd_C56q5) 600 2) kd_T56q5 600 kd_S56q5 = true := by decide +kernel
theorem kd_h56q5 {g : kc_G} (hg : kc_ok g) : kd_hold g 3 kd_ty 56 kd_T56q5 := kd_mk (d0 := 0) (di := 2) hg kd_xk56 rfl rfl rfl rfl (kd_al_r kd_C56q5 trivial) (by decide) (by decide +kernel) kd_e56q5 (kd_al_r kd_S56q5 trivial)
def kd_T56q6 : kd_Tc := ([(3, 259, 259), (0, 0, 2147483647), (2, 0, 18446744073709551615), (0, 2147483654, 2147483654)], [], kd_P56)
def kd_C56q6 : List (Nat × kd_Tc) := []
def kd_S56q6 : List kd_St := []
theorem kd_e56q6 : kd_run0 kd_ty kd_x56 6 (kd_call kd_ty kd_xt (kd_ctl kd_C56q6) 600 2) kd_T56q6 600 kd_S56q6 = true := by decide +kernel
theorem kd_h56q6 {g : kc_G} (hg : kc_ok g) : kd_hold g 3 kd_ty 56 kd_T56q6 := kd_mk (d0 := 0) (di := 2) hg kd_xk56 rfl rfl rfl rfl (kd_al_r kd_C56q6 trivial) (by decide) (by decide +kernel) kd_e56q6 (kd_al_r kd_S56q6 trivial)
def kd_T56q7 : kd_Tc := ([(3, 259, 259), (0, 0, 2147483647), (2, 0, 18446744073709551615), (0, 2147483655, 2147483655)], [], kd_P56)
def kd_C56q7 : List (Nat × kd_Tc) := []
def kd_S56q7 : List kd_St := []
theorem kd_e56q7 : kd_run0 kd_ty kd_x56 6 (kd_call kd_ty kd_xt (kd_ctl kd_C56q7) 600 2) kd_T56q7 600 kd_S56q7 = true := by decide +kernel
theorem kd_h56q7 {g : kc_G} (hg : kc_ok g) : kd_hold g 3 kd_ty 56 kd_T56q7 := kd_mk (d0 := 0) (di := 2) hg kd_xk56 rfl rfl rfl rfl (kd_al_r kd_C56q7 trivial) (by decide) (by decide +kernel) kd_e56q7 (kd_al_r kd_S56q7 trivial)
def kd_T56q8 : kd_Tc := ([(3, 259, 259), (0, 0, 2147483647), (2, 0, 18446744073709551615), (0, 2147483656, 2147483656)], [], kd_P56)
def kd_C56q8 : List (Nat × kd_Tc) := []
def kd_S56q8 : List kd_St := []
theorem kd_e56q8 : kd_run0 kd_ty kd_x56 6 (kd_call kd_ty kd_xt (kd_ctl kd_C56q8) 600 2) kd_T56q8 600 kd_S56q8 = true := by decide +kernel
theorem kd_h56q8 {g : kc_G} (hg : kc_ok g) : kd_hold g 3 kd_ty 56 kd_T56q8 := kd_mk (d0 := 0) (di := 2) hg kd_xk56 rfl rfl rfl rfl (kd_al_r kd_C56q8 trivial) (by decide) (by decide +kernel) kd_e56q8 (kd_al_r kd_S56q8 trivial)
def kd_T56q9 : kd_Tc := ([(3, 259, 259), (0, 0, 2147483647), (2, 0, 18446744073709551615), (0, 2147483657, 4294967295)], [], kd_P56)
def kd_C56q9 : List (Nat × kd_Tc) := []
def kd_S56q9 : List kd_St := []
theorem kd_e56q9 : kd_run0 kd_ty kd_x56 6 (kd_call kd_ty kd_xt (kd_ctl kd_C56q9) 600 2) kd_T56q9 600 kd_S56q9 = true := by decide +kernel
theorem kd_h56q9 {g : kc_G} (hg : kc_ok g) : kd_hold g 3 kd_ty 56 kd_T56q9 := kd_mk (d0 := 0) (di := 2) hg kd_xk56 rfl rfl rfl rfl (kd_al_r kd_C56q9 trivial) (by decide) (by decide +kernel) kd_e56q9 (kd_al_r kd_S56q9 trivial)
def kd_T56q10 : kd_Tc := ([(3, 259, 259), (0, 2147483648, 2147483648), (2, 0, 18446744073709551615), (0, 0, 2147483648)], [], kd_P56)
def kd_C56q10 : List (Nat × kd_Tc) := []
def kd_S56q10 : List kd_St := []
theorem kd_e56q10 : kd_run0 kd_ty kd_x56 6 (kd_call kd_ty kd_xt (kd_ctl kd_C56q10) 600 2) kd_T56q10 600 kd_S56q10 = true := by decide +kernel
theorem kd_h56q10 {g : kc_G} (hg : kc_ok g) : kd_hold g 3 kd_ty 56 kd_T56q10 := kd_mk (d0 := 0) (di := 2) hg kd_xk56 rfl rfl rfl rfl (kd_al_r kd_C56q10 trivial) (by decide) (by decide +kernel) kd_e56q10 (kd_al_r kd_S56q10 trivial)
def kd_T56q11 : kd_Tc := ([(3, 259, 259), (0, 2147483648, 2147483648), (2, 0, 18446744073709551615), (0, 2147483649, 2147483649)], [], kd_P56)
def kd_C56q11 : List (Nat × kd_Tc) := []
def kd_S56q11_0 : kd_St := (51, [(2147483648, 2147483887)], 1, [(3, 259, 259), (0, 2147483648, 2147483648), (2, 0, 18446744073709551615), (9, 0, 0), (0, 2147483649, 2147483649), (0, 2147483648, 2147483648)], [(260, 160, (1, 0, 2147483648))], [], [(0, (0, 52, 52)), (1, (0, 2147483648, 2147483648))])
def kd_S56q11_1 : kd_St := (51, [(2147483649, 2147483888)], 1, [(3, 259, 259), (0, 2147483648, 2147483648), (2, 0, 18446744073709551615), (9, 0, 0), (0, 2147483649, 2147483649), (0, 2147483647, 2147483647)], [(260, 160, (1, 0, 2147483648))], [(260, 260, 160, 160), (260, 260, 170, 409)], [(0, (0, 52, 52)), (1, (0, 2147483647, 2147483647))])
def kd_S56q11 : List kd_St := [kd_S56q11_0, kd_S56q11_1]
theorem kd_e56q11 : kd_run0 kd_ty kd_x56 6 (kd_call kd_ty kd_xt (kd_ctl kd_C56q11) 600 2) kd_T56q11 600 kd_S56q11 = true := by decide +kernel
theorem kd_r56q11_0 : kd_run1 kd_ty kd_x56 6 (kd_call kd_ty kd_xt (kd_ctl kd_C56q11) 600 2) kd_T56q11.2.2 600 kd_S56q11 kd_S56q11_0 = true := by decide +kernel
theorem kd_r56q11_1 : kd_run1 kd_ty kd_x56 6 (kd_call kd_ty kd_xt (kd_ctl kd_C56q11) 600 2) kd_T56q11.2.2 600 kd_S56q11 kd_S56q11_1 = true := by decide +kernel
theorem kd_h56q11 {g : kc_G} (hg : kc_ok g) : kd_hold g 3 kd_ty 56 kd_T56q11 := kd_mk (d0 := 0) (di := 2) hg kd_xk56 rfl rfl rfl rfl (kd_al_r kd_C56q11 trivial) (by decide) (by decide +kernel) kd_e56q11 (kd_al_r kd_S56q11 ⟨kd_r56q11_0, kd_r56q11_1, trivial⟩)
def kd_T56q12 : kd_Tc := ([(3, 259, 259), (0, 2147483648, 2147483648), (2, 0, 18446744073709551615), (0, 2147483650, 2147483650)], [], kd_P56)
def kd_C56q12 : List (Nat × kd_Tc) := []
def kd_S56q12_0 : kd_St := (51, [(2147483648, 2147483886)], 1, [(3, 259, 259), (0, 2147483648, 2147483648), (2, 0, 18446744073709551615), (9, 0, 0), (0, 2147483650, 2147483650), (0, 2147483649, 2147483649)], [(260, 160, (1, 0, 2147483648))], [], [(0, (0, 52, 52)), (1, (0, 2147483649, 2147483649))])
def kd_S56q12_1 : kd_St := (51, [(2147483649, 2147483887)], 1, [(3, 259, 259), (0, 2147483648, 2147483648), (2, 0, 18446744073709551615), (9, 0, 0), (0, 2147483650, 2147483650), (0, 2147483648, 2147483648)], [(260, 160, (1, 0, 2147483648))], [(260, 260, 160, 160), (260, 260, 170, 408)], [(0, (0, 52, 52)), (1, (0, 2147483648, 2147483648))])
def kd_S56q12_2 : kd_St := (51, [(2147483650, 2147483888)], 1, [(3, 259, 259), (0, 2147483648, 2147483648), (2, 0, 18446744073709551615), (9, 0, 0), (0, 2147483650, 2147483650), (0, 2147483647, 2147483647)], [(260, 160, (1, 0, 2147483648))], [(260, 260, 160, 160), (260, 260, 170, 409)], [(0, (0, 52, 52)), (1, (0, 2147483647, 2147483647))])
def kd_S56q12 : List kd_St := [kd_S56q12_0, kd_S56q12_1, kd_S56q12_2]
theorem kd_e56q12 : kd_run0 kd_ty kd_x56 6 (kd_call kd_ty kd_xt (kd_ctl kd_C56q12) 600 2) kd_T56q12 600 kd_S56q12 = true := by decide +kernel
theorem kd_r56q12_0 : kd_run1 kd_ty kd_x56 6 (kd_call kd_ty kd_xt (kd_ctl kd_C56q12) 600 2) kd_T56q12.2.2 600 kd_S56q12 kd_S56q12_0 = true := by decide +kernel
theorem kd_r56q12_1 : kd_run1 kd_ty kd_x56 6 (kd_call kd_ty kd_xt (kd_ctl kd_C56q12) 600 2) kd_T56q12.2.2 600 kd_S56q12 kd_S56q12_1 = true := by decide +kernel
theorem kd_r56q12_2 : kd_run1 kd_ty kd_x56 6 (kd_call kd_ty kd_xt (kd_ctl kd_C56q12) 600 2) kd_T56q12.2.2 600 kd_S56q12 kd_S56q12_2 = true := by decide +kernel
theorem kd_h56q12 {g : kc_G} (hg : kc_ok g) : kd_hold g 3 kd_ty 56 kd_T56q12 := kd_mk (d0 := 0) (di := 2) hg kd_xk56 rfl rfl rfl rfl (kd_al_r kd_C56q12 trivial) (by decide) (by decide +kernel) kd_e56q12 (kd_al_r kd_S56q12 ⟨kd_r56q12_0, kd_r56q12_1, kd_r56q12_2, trivial⟩)
def kd_T56q13 : kd_Tc := ([(3, 259, 259), (0, 2147483648, 2147483648), (2, 0, 18446744073709551615), (0, 2147483651, 2147483651)], [], kd_P56)
def kd_C56q13 : List (Nat × kd_Tc) := []
def kd_S56q13_0 : kd_St := (51, [(2147483648, 2147483885)], 1, [(3, 259, 259), (0, 2147483648, 2147483648), (2, 0, 18446744073709551615), (9, 0, 0), (0, 2147483651, 2147483651), (0, 2147483650, 2147483650)], [(260, 160, (1, 0, 2147483648))], [], [(0, (0, 52, 52)), (1, (0, 2147483650, 2147483650))])
def kd_S56q13_1 : kd_St := (51, [(2147483649, 2147483886)], 1, [(3, 259, 259), (0, 2147483648, 2147483648), (2, 0, 18446744073709551615), (9, 0, 0), (0, 2147483651, 2147483651), (0, 2147483649, 2147483649)], [(260, 160, (1, 0, 2147483648))], [(260, 260, 160, 160), (260, 260, 170, 407)], [(0, (0, 52, 52)), (1, (0, 2147483649, 2147483649))])
def kd_S56q13_2 : kd_St := (51, [(2147483650, 2147483887)], 1, [(3, 259, 259), (0, 2147483648, 2147483648), (2, 0, 18446744073709551615), (9, 0, 0), (0, 2147483651, 2147483651), (0, 2147483648, 2147483648)], [(260, 160, (1, 0, 2147483648))], [(260, 260, 160, 160), (260, 260, 170, 408)], [(0, (0, 52, 52)), (1, (0, 2147483648, 2147483648))])
def kd_S56q13_3 : kd_St := (51, [(2147483651, 2147483888)], 1, [(3, 259, 259), (0, 2147483648, 2147483648), (2, 0, 18446744073709551615), (9, 0, 0), (0, 2147483651, 2147483651), (0, 2147483647, 2147483647)], [(260, 160, (1, 0, 2147483648))], [(260, 260, 160, 160), (260, 260, 170, 409)], [(0, (0, 52, 52)), (1, (0, 2147483647, 2147483647))])
def kd_S56q13 : List kd_St := [kd_S56q13_0, kd_S56q13_1, kd_S56q13_2, kd_S56q13_3]
theorem kd_e56q13 : kd_run0 kd_ty kd_x56 6 (kd_call kd_ty kd_xt (kd_ctl kd_C56q13) 600 2) kd_T56q13 600 kd_S56q13 = true := by decide +kernel
theorem kd_r56q13_0 : kd_run1 kd_ty kd_x56 6 (kd_call kd_ty kd_xt (kd_ctl kd_C56q13) 600 2) kd_T56q13.2.2 600 kd_S56q13 kd_S56q13_0 = true := by decide +kernel
theorem kd_r56q13_1 : kd_run1 kd_ty kd_x56 6 (kd_call kd_ty kd_xt (kd_ctl kd_C56q13) 600 2) kd_T56q13.2.2 600 kd_S56q13 kd_S56q13_1 = true := by decide +kernel
theorem kd_r56q13_2 : kd_run1 kd_ty kd_x56 6 (kd_call kd_ty kd_xt (kd_ctl kd_C56q13) 600 2) kd_T56q13.2.2 600 kd_S56q13 kd_S56q13_2 = true := by decide +kernel
theorem kd_r56q13_3 : kd_run1 kd_ty kd_x56 6 (kd_call kd_ty kd_xt (kd_ctl kd_C56q13) 600 2) kd_T56q13.2.2 600 kd_S56q13 kd_S56q13_3 = true := by decide +kernel
theorem kd_h56q13 {g : kc_G} (hg : kc_ok g) : kd_hold g 3 kd_ty 56 kd_T56q13 := kd_mk (d0 := 0) (di := 2) hg kd_xk56 rfl rfl rfl rfl (kd_al_r kd_C56q13 trivial) (by decide) (by decide +kernel) kd_e56q13 (kd_al_r kd_S56q13 ⟨kd_r56q13_0, kd_r56q13_1, kd_r56q13_2, kd_r56q13_3, trivial⟩)
def kd_T56q14 : kd_Tc := ([(3, 259, 259), (0, 2147483648, 2147483648), (2, 0, 18446744073709551615), (0, 2147483652, 2147483652)], [], kd_P56)
def kd_C56q14 : List (Nat × kd_Tc) := []
def kd_S56q14_0 : kd_St := (51, [(2147483648, 2147483884)], 1, [(3, 259, 259), (0, 2147483648, 2147483648), (2, 0, 18446744073709551615), (9, 0, 0), (0, 2147483652, 2147483652), (0, 2147483651, 2147483651)], [(260, 160, (1, 0, 2147483648))], [], [(0, (0, 52, 52)), (1, (0, 2147483651, 2147483651))])
def kd_S56q14_1 : kd_St := (51, [(2147483649, 2147483885)], 1, [(3, 259, 259), (0, 2147483648, 2147483648), (2, 0, 18446744073709551615), (9, 0, 0), (0, 2147483652, 2147483652), (0, 2147483650, 2147483650)], [(260, 160, (1, 0, 2147483648))], [(260, 260, 160, 160), (260, 260, 170, 406)], [(0, (0, 52, 52)), (1, (0, 2147483650, 2147483650))])
def kd_S56q14_2 : kd_St := (51, [(2147483650, 2147483886)], 1, [(3, 259, 259), (0, 2147483648, 2147483648), (2, 0, 18446744073709551615), (9, 0, 0), (0, 2147483652, 2147483652), (0, 2147483649, 2147483649)], [(260, 160, (1, 0, 2147483648))], [(260, 260, 160, 160), (260, 260, 170, 407)], [(0, (0, 52, 52)), (1, (0, 2147483649, 2147483649))])
def kd_S56q14_3 : kd_St := (51, [(2147483651, 2147483887)], 1, [(3, 259, 259), (0, 2147483648, 2147483648), (2, 0, 18446744073709551615), (9, 0, 0), (0, 2147483652, 2147483652), (0, 2147483648, 2147483648)], [(260, 160, (1, 0, 2147483648))], [(260, 260, 160, 160), (260, 260, 170, 408)], [(0, (0, 52, 52)), (1, (0, 2147483648, 2147483648))])
def kd_S56q14_4 : kd_St := (51, [(2147483652, 2147483888)], 1, [(3, 259, 259), (0, 2147483648, 2147483648), (2, 0, 18446744073709551615), (9, 0, 0), (0, 2147483652, 2147483652), (0, 2147483647, 2147483647)], [(260, 160, (1, 0, 2147483648))], [(260, 260, 160, 160), (260, 260, 170, 409)], [(0, (0, 52, 52)), (1, (0, 2147483647, 2147483647))])
def kd_S56q14 : List kd_St := [kd_S56q14_0, kd_S56q14_1, kd_S56q14_2, kd_S56q14_3, kd_S56q14_4]
theorem kd_e56q14 : kd_run0 kd_ty kd_x56 6 (kd_call kd_ty kd_xt (kd_ctl kd_C56q14) 600 2) kd_T56q14 600 kd_S56q14 = true := by decide +kernel
theorem kd_r56q14_0 : kd_run1 kd_ty kd_x56 6 (kd_call kd_ty kd_xt (kd_ctl kd_C56q14) 600 2) kd_T56q14.2.2 600 kd_S56q14 kd_S56q14_0 = true := by decide +kernel
theorem kd_r56q14_1 : kd_run1 kd_ty kd_x56 6 (kd_call kd_ty kd_xt (kd_ctl kd_C56q14) 600 2) kd_T56q14.2.2 600 kd_S56q14 kd_S56q14_1 = true := by decide +kernel
theorem kd_r56q14_2 : kd_run1 kd_ty kd_x56 6 (kd_call kd_ty kd_xt (kd_ctl kd_C56q14) 600 2) kd_T56q14.2.2 600 kd_S56q14 kd_S56q14_2 = true := by decide +kernel
theorem kd_r56q14_3 : kd_run1 kd_ty kd_x56 6 (kd_call kd_ty kd_xt (kd_ctl kd_C56q14) 600 2) kd_T56q14.2.2 600 kd_S56q14 kd_S56q14_3 = true := by decide +kernel
theorem kd_r56q14_4 : kd_run1 kd_ty kd_x56 6 (kd_call kd_ty kd_xt (kd_ctl kd_C56q14) 600 2) kd_T56q14.2.2 600 kd_S56q14 kd_S56q14_4 = true := by decide +kernel
theorem kd_h56q14 {g : kc_G} (hg : kc_ok g) : kd_hold g 3 kd_ty 56 kd_T56q14 := kd_mk (d0 := 0) (di := 2) hg kd_xk56 rfl rfl rfl rfl (kd_al_r kd_C56q14 trivial) (by decide) (by decide +kernel) kd_e56q14 (kd_al_r kd_S56q14 ⟨kd_r56q14_0, kd_r56q14_1, kd_r56q14_2, kd_r56q14_3, kd_r56q14_4, trivial⟩)
def kd_T56q15 : kd_Tc := ([(3, 259, 259), (0, 2147483648, 2147483648), (2, 0, 18446744073709551615), (0, 2147483653, 2147483653)], [], kd_P56)
def kd_C56q15 : List (Nat × kd_Tc) := []
def kd_S56q15_0 : kd_St := (51, [(2147483648, 2147483883)], 1, [(3, 259, 259), (0, 2147483648, 2147483648), (2, 0, 18446744073709551615), (9, 0, 0), (0, 2147483653, 2147483653), (0, 2147483652, 2147483652)], [(260, 160, (1, 0, 2147483648))], [], [(0, (0, 52, 52)), (1, (0, 2147483652, 2147483652))])
def kd_S56q15_1 : kd_St := (51, [(2147483649, 2147483884)], 1, [(3, 259, 259), (0, 2147483648, 2147483648), (2, 0, 18446744073709551615), (9, 0, 0), (0, 2147483653, 2147483653), (0, 2147483651, 2147483651)], [(260, 160, (1, 0, 2147483648))], [(260, 260, 160, 160), (260, 260, 170, 405)], [(0, (0, 52, 52)), (1, (0, 2147483651, 2147483651))])
def kd_S56q15_2 : kd_St := (51, [(2147483650, 2147483885)], 1, [(3, 259, 259), (0, 2147483648, 2147483648), (2, 0, 18446744073709551615), (9, 0, 0), (0, 2147483653, 2147483653), (0, 2147483650, 2147483650)], [(260, 160, (1, 0, 2147483648))], [(260, 260, 160, 160), (260, 260, 170, 406)], [(0, (0, 52, 52)), (1, (0, 2147483650, 2147483650))])
def kd_S56q15_3 : kd_St := (51, [(2147483651, 2147483886)], 1, [(3, 259, 259), (0, 2147483648, 2147483648), (2, 0, 18446744073709551615), (9, 0, 0), (0, 2147483653, 2147483653), (0, 2147483649, 2147483649)], [(260, 160, (1, 0, 2147483648))], [(260, 260, 160, 160), (260, 260, 170, 407)], [(0, (0, 52, 52)), (1, (0, 2147483649, 2147483649))])
def kd_S56q15_4 : kd_St := (51, [(2147483652, 2147483887)], 1, [(3, 259, 259), (0, 2147483648, 2147483648), (2, 0, 18446744073709551615), (9, 0, 0), (0, 2147483653, 2147483653), (0, 2147483648, 2147483648)], [(260, 160, (1, 0, 2147483648))], [(260, 260, 160, 160), (260, 260, 170, 408)], [(0, (0, 52, 52)), (1, (0, 2147483648, 2147483648))])
def kd_S56q15_5 : kd_St := (51, [(2147483653, 2147483888)], 1, [(3, 259, 259), (0, 2147483648, 2147483648), (2, 0, 18446744073709551615), (9, 0, 0), (0, 2147483653, 2147483653), (0, 2147483647, 2147483647)], [(260, 160, (1, 0, 2147483648))], [(260, 260, 160, 160), (260, 260, 170, 409)], [(0, (0, 52, 52)), (1, (0, 2147483647, 2147483647))])
def kd_S56q15 : List kd_St := [kd_S56q15_0, kd_S56q15_1, kd_S56q15_2, kd_S56q15_3, kd_S56q15_4, kd_S56q15_5]
theorem kd_e56q15 : kd_run0 kd_ty kd_x56 6 (kd_call kd_ty kd_xt (kd_ctl kd_C56q15) 600 2) kd_T56q15 600 kd_S56q15 = true := by decide +kernel
theorem kd_r56q15_0 : kd_run1 kd_ty kd_x56 6 (kd_call kd_ty kd_xt (kd_ctl kd_C56q15) 600 2) kd_T56q15.2.2 600 kd_S56q15 kd_S56q15_0 = true := by decide +kernel
theorem kd_r56q15_1 : kd_run1 kd_ty kd_x56 6 (kd_call kd_ty kd_xt (kd_ctl kd_C56q15) 600 2) kd_T56q15.2.2 600 kd_S56q15 kd_S56q15_1 = true := by decide +kernel
theorem kd_r56q15_2 : kd_run1 kd_ty kd_x56 6 (kd_call kd_ty kd_xt (kd_ctl kd_C56q15) 600 2) kd_T56q15.2.2 600 kd_S56q15 kd_S56q15_2 = true := by decide +kernel
theorem kd_r56q15_3 : kd_run1 kd_ty kd_x56 6 (kd_call kd_ty kd_xt (kd_ctl kd_C56q15) 600 2) kd_T56q15.2.2 600 kd_S56q15 kd_S56q15_3 = true := by decide +kernel
theorem kd_r56q15_4 : kd_run1 kd_ty kd_x56 6 (kd_call kd_ty kd_xt (kd_ctl kd_C56q15) 600 2) kd_T56q15.2.2 600 kd_S56q15 kd_S56q15_4 = true := by decide +kernel
theorem kd_r56q15_5 : kd_run1 kd_ty kd_x56 6 (kd_call kd_ty kd_xt (kd_ctl kd_C56q15) 600 2) kd_T56q15.2.2 600 kd_S56q15 kd_S56q15_5 = true := by decide +kernel
theorem kd_h56q15 {g : kc_G} (hg : kc_ok g) : kd_hold g 3 kd_ty 56 kd_T56q15 := kd_mk (d0 := 0) (di := 2) hg kd_xk56 rfl rfl rfl rfl (kd_al_r kd_C56q15 trivial) (by decide) (by decide +kernel) kd_e56q15 (kd_al_r kd_S56q15 ⟨kd_r56q15_0, kd_r56q15_1, kd_r56q15_2, kd_r56q15_3, kd_r56q15_4, kd_r56q15_5, trivial⟩)
def kd_T56q16 : kd_Tc := ([(3, 259, 259), (0, 2147483648, 2147483648), (2, 0, 18446744073709551615), (0, 2147483654, 2147483654)], [], kd_P56)
def kd_C56q16 : List (Nat × kd_Tc) := []
def kd_S56q16_0 : kd_St := (51, [(2147483648, 2147483882)], 1, [(3, 259, 259), (0, 2147483648, 2147483648), (2, 0, 18446744073709551615), (9, 0, 0), (0, 2147483654, 2147483654), (0, 2147483653, 2147483653)], [(260, 160, (1, 0, 2147483648))], [], [(0, (0, 52, 52)), (1, (0, 2147483653, 2147483653))])
def kd_S56q16_1 : kd_St := (51, [(2147483649, 2147483883)], 1, [(3, 259, 259), (0, 2147483648, 2147483648), (2, 0, 18446744073709551615), (9, 0, 0), (0, 2147483654, 2147483654), (0, 2147483652, 2147483652)], [(260, 160, (1, 0, 2147483648))], [(260, 260, 160, 160), (260, 260, 170, 404)], [(0, (0, 52, 52)), (1, (0, 2147483652, 2147483652))])
def kd_S56q16_2 : kd_St := (51, [(2147483650, 2147483884)], 1, [(3, 259, 259), (0, 2147483648, 2147483648), (2, 0, 18446744073709551615), (9, 0, 0), (0, 2147483654, 2147483654), (0, 2147483651, 2147483651)], [(260, 160, (1, 0, 2147483648))], [(260, 260, 160, 160), (260, 260, 170, 405)], [(0, (0, 52, 52)), (1, (0, 2147483651, 2147483651))])
def kd_S56q16_3 : kd_St := (51, [(2147483651, 2147483885)], 1, [(3, 259, 259), (0, 2147483648, 2147483648), (2, 0, 18446744073709551615), (9, 0, 0), (0, 2147483654, 2147483654), (0, 2147483650, 2147483650)], [(260, 160, (1, 0, 2147483648))], [(260, 260, 160, 160), (260, 260, 170, 406)], [(0, (0, 52, 52)), (1, (0, 2147483650, 2147483650))])
def kd_S56q16_4 : kd_St := (51, [(2147483652, 2147483886)], 1, [(3, 259, 259), (0, 2147483648, 2147483648), (2, 0, 18446744073709551615), (9, 0, 0), (0, 2147483654, 2147483654), (0, 2147483649, 2147483649)], [(260, 160, (1, 0, 2147483648))], [(260, 260, 160, 160), (260, 260, 170, 407)], [(0, (0, 52, 52)), (1, (0, 2147483649, 2147483649))])
def kd_S56q16_5 : kd_St := (51, [(2147483653, 2147483887)], 1, [(3, 259, 259), (0, 2147483648, 2147483648), (2, 0, 18446744073709551615), (9, 0, 0), (0, 2147483654, 2147483654), (0, 2147483648, 2147483648)], [(260, 160, (1, 0, 2147483648))], [(260, 260, 160, 160), (260, 260, 170, 408)], [(0, (0, 52, 52)), (1, (0, 2147483648, 2147483648))])
def kd_S56q16_6 : kd_St := (51, [(2147483654, 2147483888)], 1, [(3, 259, 259), (0, 2147483648, 2147483648), (2, 0, 18446744073709551615), (9, 0, 0), (0, 2147483654, 2147483654), (0, 2147483647, 2147483647)], [(260, 160, (1, 0, 2147483648))], [(260, 260, 160, 160), (260, 260, 170, 409)], [(0, (0, 52, 52)), (1, (0, 2147483647, 2147483647))])
def kd_S56q16 : List kd_St := [kd_S56q16_0, kd_S56q16_1, kd_S56q16_2, kd_S56q16_3, kd_S56q16_4, kd_S56q16_5, kd_S56q16_6]
theorem kd_e56q16 : kd_run0 kd_ty kd_x56 6 (kd_call kd_ty kd_xt (kd_ctl kd_C56q16) 600 2) kd_T56q16 600 kd_S56q16 = true := by decide +kernel
theorem kd_r56q16_0 : kd_run1 kd_ty kd_x56 6 (kd_call kd_ty kd_xt (kd_ctl kd_C56q16) 600 2) kd_T56q16.2.2 600 kd_S56q16 kd_S56q16_0 = true := by decide +kernel
theorem kd_r56q16_1 : kd_run1 kd_ty kd_x56 6 (kd_call kd_ty kd_xt (kd_ctl kd_C56q16) 600 2) kd_T56q16.2.2 600 kd_S56q16 kd_S56q16_1 = true := by decide +kernel
theorem kd_r56q16_2 : kd_run1 kd_ty kd_x56 6 (kd_call kd_ty kd_xt (kd_ctl kd_C56q16) 600 2) kd_T56q16.2.2 600 kd_S56q16 kd_S56q16_2 = true := by decide +kernel
theorem kd_r56q16_3 : kd_run1 kd_ty kd_x56 6 (kd_call kd_ty kd_xt (kd_ctl kd_C56q16) 600 2) kd_T56q16.2.2 600 kd_S56q16 kd_S56q16_3 = true := by decide +kernel
theorem kd_r56q16_4 : kd_run1 kd_ty kd_x56 6 (kd_call kd_ty kd_xt (kd_ctl kd_C56q16) 600 2) kd_T56q16.2.2 600 kd_S56q16 kd_S56q16_4 = true := by decide +kernel
theorem kd_r56q16_5 : kd_run1 kd_ty kd_x56 6 (kd_call kd_ty kd_xt (kd_ctl kd_C56q16) 600 2) kd_T56q16.2.2 600 kd_S56q16 kd_S56q16_5 = true := by decide +kernel
theorem kd_r56q16_6 : kd_run1 kd_ty kd_x56 6 (kd_call kd_ty kd_xt (kd_ctl kd_C56q16) 600 2) kd_T56q16.2.2 600 kd_S56q16 kd_S56q16_6 = true := by decide +kernel
theorem kd_h56q16 {g : kc_G} (hg : kc_ok g) : kd_hold g 3 kd_ty 56 kd_T56q16 := kd_mk (d0 := 0) (di := 2) hg kd_xk56 rfl rfl rfl rfl (kd_al_r kd_C56q16 trivial) (by decide) (by decide +kernel) kd_e56q16 (kd_al_r kd_S56q16 ⟨kd_r56q16_0, kd_r56q16_1, kd_r56q16_2, kd_r56q16_3, kd_r56q16_4, kd_r56q16_5, kd_r56q16_6, trivial⟩)
def kd_T56q17 : kd_Tc := ([(3, 259, 259), (0, 2147483648, 2147483648), (2, 0, 18446744073709551615), (0, 2147483655, 2147483655)], [], kd_P56)
def kd_C56q17 : List (Nat × kd_Tc) := []
def kd_S56q17_0 : kd_St := (51, [(2147483648, 2147483881)], 1, [(3, 259, 259), (0, 2147483648, 2147483648), (2, 0, 18446744073709551615), (9, 0, 0), (0, 2147483655, 2147483655), (0, 2147483654, 2147483654)], [(260, 160, (1, 0, 2147483648))], [], [(0, (0, 52, 52)), (1, (0, 2147483654, 2147483654))])
def kd_S56q17_1 : kd_St := (51, [(2147483649, 2147483882)], 1, [(3, 259, 259), (0, 2147483648, 2147483648), (2, 0, 18446744073709551615), (9, 0, 0), (0, 2147483655, 2147483655), (0, 2147483653, 2147483653)], [(260, 160, (1, 0, 2147483648))], [(260, 260, 160, 160), (260, 260, 170, 403)], [(0, (0, 52, 52)), (1, (0, 2147483653, 2147483653))])
def kd_S56q17_2 : kd_St := (51, [(2147483650, 2147483883)], 1, [(3, 259, 259), (0, 2147483648, 2147483648), (2, 0, 18446744073709551615), (9, 0, 0), (0, 2147483655, 2147483655), (0, 2147483652, 2147483652)], [(260, 160, (1, 0, 2147483648))], [(260, 260, 160, 160), (260, 260, 170, 404)], [(0, (0, 52, 52)), (1, (0, 2147483652, 2147483652))])
def kd_S56q17_3 : kd_St := (51, [(2147483651, 2147483884)], 1, [(3, 259, 259), (0, 2147483648, 2147483648), (2, 0, 18446744073709551615), (9, 0, 0), (0, 2147483655, 2147483655), (0, 2147483651, 2147483651)], [(260, 160, (1, 0, 2147483648))], [(260, 260, 160, 160), (260, 260, 170, 405)], [(0, (0, 52, 52)), (1, (0, 2147483651, 2147483651))])
def kd_S56q17_4 : kd_St := (51, [(2147483652, 2147483885)], 1, [(3, 259, 259), (0, 2147483648, 2147483648), (2, 0, 18446744073709551615), (9, 0, 0), (0, 2147483655, 2147483655), (0, 2147483650, 2147483650)], [(260, 160, (1, 0, 2147483648))], [(260, 260, 160, 160), (260, 260, 170, 406)], [(0, (0, 52, 52)), (1, (0, 2147483650, 2147483650))])
def kd_S56q17_5 : kd_St := (51, [(2147483653, 2147483886)], 1, [(3, 259, 259), (0, 2147483648, 2147483648), (2, 0, 18446744073709551615), (9, 0, 0), (0, 2147483655, 2147483655), (0, 2147483649, 2147483649)], [(260, 160, (1, 0, 2147483648))], [(260, 260, 160, 160), (260, 260, 170, 407)], [(0, (0, 52, 52)), (1, (0, 2147483649, 2147483649))])
def kd_S56q17_6 : kd_St := (51, [(2147483654, 2147483887)], 1, [(3, 259, 259), (0, 2147483648, 2147483648), (2, 0, 18446744073709551615), (9, 0, 0), (0, 2147483655, 2147483655), (0, 2147483648, 2147483648)], [(260, 160, (1, 0, 2147483648))], [(260, 260, 160, 160), (260, 260, 170, 408)], [(0, (0, 52, 52)), (1, (0, 2147483648, 2147483648))])
def kd_S56q17_7 : kd_St := (51, [(2147483655, 2147483888)], 1, [(3, 259, 259), (0, 2147483648, 2147483648), (2, 0, 18446744073709551615), (9, 0, 0), (0, 2147483655, 2147483655), (0, 2147483647, 2147483647)], [(260, 160, (1, 0, 2147483648))], [(260, 260, 160, 160), (260, 260, 170, 409)], [(0, (0, 52, 52)), (1, (0, 2147483647, 2147483647))])
def kd_S56q17 : List kd_St := [kd_S56q17_0, kd_S56q17_1, kd_S56q17_2, kd_S56q17_3, kd_S56q17_4, kd_S56q17_5, kd_S56q17_6, kd_S56q17_7]
theorem kd_e56q17 : kd_run0 kd_ty kd_x56 6 (kd_call kd_ty kd_xt (kd_ctl kd_C56q17) 600 2) kd_T56q17 600 kd_S56q17 = true := by decide +kernel
theorem kd_r56q17_0 : kd_run1 kd_ty kd_x56 6 (kd_call kd_ty kd_xt (kd_ctl kd_C56q17) 600 2) kd_T56q17.2.2 600 kd_S56q17 kd_S56q17_0 = true := by decide +kernel
theorem kd_r56q17_1 : kd_run1 kd_ty kd_x56 6 (kd_call kd_ty kd_xt (kd_ctl kd_C56q17) 600 2) kd_T56q17.2.2 600 kd_S56q17 kd_S56q17_1 = true := by decide +kernel
theorem kd_r56q17_2 : kd_run1 kd_ty kd_x56 6 (kd_call kd_ty kd_xt (kd_ctl kd_C56q17) 600 2) kd_T56q17.2.2 600 kd_S56q17 kd_S56q17_2 = true := by decide +kernel
theorem kd_r56q17_3 : kd_run1 kd_ty kd_x56 6 (kd_call kd_ty kd_xt (kd_ctl kd_C56q17) 600 2) kd_T56q17.2.2 600 kd_S56q17 kd_S56q17_3 = true := by decide +kernel
theorem kd_r56q17_4 : kd_run1 kd_ty kd_x56 6 (kd_call kd_ty kd_xt (kd_ctl kd_C56q17) 600 2) kd_T56q17.2.2 600 kd_S56q17 kd_S56q17_4 = true := by decide +kernel
theorem kd_r56q17_5 : kd_run1 kd_ty kd_x56 6 (kd_call kd_ty kd_xt (kd_ctl kd_C56q17) 600 2) kd_T56q17.2.2 600 kd_S56q17 kd_S56q17_5 = true := by decide +kernel
theorem kd_r56q17_6 : kd_run1 kd_ty kd_x56 6 (kd_call kd_ty kd_xt (kd_ctl kd_C56q17) 600 2) kd_T56q17.2.2 600 kd_S56q17 kd_S56q17_6 = true := by decide +kernel
theorem kd_r56q17_7 : kd_run1 kd_ty kd_x56 6 (kd_call kd_ty kd_xt (kd_ctl kd_C56q17) 600 2) kd_T56q17.2.2 600 kd_S56q17 kd_S56q17_7 = true := by decide +kernel
theorem kd_h56q17 {g : kc_G} (hg : kc_ok g) : kd_hold g 3 kd_ty 56 kd_T56q17 := kd_mk (d0 := 0) (di := 2) hg kd_xk56 rfl rfl rfl rfl (kd_al_r kd_C56q17 trivial) (by decide) (by decide +kernel) kd_e56q17 (kd_al_r kd_S56q17 ⟨kd_r56q17_0, kd_r56q17_1, kd_r56q17_2, kd_r56q17_3, kd_r56q17_4, kd_r56q17_5, kd_r56q17_6, kd_r56q17_7, trivial⟩)
def kd_T56q18 : kd_Tc := ([(3, 259, 259), (0, 2147483648, 2147483648), (2, 0, 18446744073709551615), (0, 2147483656, 2147483656)], [], kd_P56)
def kd_C56q18 : List (Nat × kd_Tc) := []
def kd_S56q18_0 : kd_St := (51, [(2147483648, 2147483880)], 1, [(3, 259, 259), (0, 2147483648, 2147483648), (2, 0, 18446744073709551615), (9, 0, 0), (0, 2147483656, 2147483656), (0, 2147483655, 2147483655)], [(260, 160, (1, 0, 2147483648))], [], [(0, (0, 52, 52)), (1, (0, 2147483655, 2147483655))])
def kd_S56q18_1 : kd_St := (51, [(2147483649, 2147483881)], 1, [(3, 259, 259), (0, 2147483648, 2147483648), (2, 0, 18446744073709551615), (9, 0, 0), (0, 2147483656, 2147483656), (0, 2147483654, 2147483654)], [(260, 160, (1, 0, 2147483648))], [(260, 260, 160, 160), (260, 260, 170, 402)], [(0, (0, 52, 52)), (1, (0, 2147483654, 2147483654))])
def kd_S56q18_2 : kd_St := (51, [(2147483650, 2147483882)], 1, [(3, 259, 259), (0, 2147483648, 2147483648), (2, 0, 18446744073709551615), (9, 0, 0), (0, 2147483656, 2147483656), (0, 2147483653, 2147483653)], [(260, 160, (1, 0, 2147483648))], [(260, 260, 160, 160), (260, 260, 170, 403)], [(0, (0, 52, 52)), (1, (0, 2147483653, 2147483653))])
def kd_S56q18_3 : kd_St := (51, [(2147483651, 2147483883)], 1, [(3, 259, 259), (0, 2147483648, 2147483648), (2, 0, 18446744073709551615), (9, 0, 0), (0, 2147483656, 2147483656), (0, 2147483652, 2147483652)], [(260, 160, (1, 0, 2147483648))], [(260, 260, 160, 160), (260, 260, 170, 404)], [(0, (0, 52, 52)), (1, (0, 2147483652, 2147483652))])
def kd_S56q18_4 : kd_St := (51, [(2147483652, 2147483884)], 1, [(3, 259, 259), (0, 2147483648, 2147483648), (2, 0, 18446744073709551615), (9, 0, 0), (0, 2147483656, 2147483656), (0, 2147483651, 2147483651)], [(260, 160, (1, 0, 2147483648))], [(260, 260, 160, 160), (260, 260, 170, 405)], [(0, (0, 52, 52)), (1, (0, 2147483651, 2147483651))])
def kd_S56q18_5 : kd_St := (51, [(2147483653, 2147483885)], 1, [(3, 259, 259), (0, 2147483648, 2147483648), (2, 0, 18446744073709551615), (9, 0, 0), (0, 2147483656, 2147483656), (0, 2147483650, 2147483650)], [(260, 160, (1, 0, 2147483648))], [(260, 260, 160, 160), (260, 260, 170, 406)], [(0, (0, 52, 52)), (1, (0, 2147483650, 2147483650))])
def kd_S56q18_6 : kd_St := (51, [(2147483654, 2147483886)], 1, [(3, 259, 259), (0, 2147483648, 2147483648), (2, 0, 18446744073709551615), (9, 0, 0), (0, 2147483656, 2147483656), (0, 2147483649, 2147483649)], [(260, 160, (1, 0, 2147483648))], [(260, 260, 160, 160), (260, 260, 170, 407)], [(0, (0, 52, 52)), (1, (0, 2147483649, 2147483649))])
def kd_S56q18_7 : kd_St := (51, [(2147483655, 2147483887)], 1, [(3, 259, 259), (0, 2147483648, 2147483648), (2, 0, 18446744073709551615), (9, 0, 0), (0, 2147483656, 2147483656), (0, 2147483648, 2147483648)], [(260, 160, (1, 0, 2147483648))], [(260, 260, 160, 160), (260, 260, 170, 408)], [(0, (0, 52, 52)), (1, (0, 2147483648, 2147483648))])
def kd_S56q18_8 : kd_St := (51, [(2147483656, 2147483888)], 1, [(3, 259, 259), (0, 2147483648, 2147483648), (2, 0, 18446744073709551615), (9, 0, 0), (0, 2147483656, 2147483656), (0, 2147483647, 2147483647)], [(260, 160, (1, 0, 2147483648))], [(260, 260, 160, 160), (260, 260, 170, 409)], [(0, (0, 52, 52)), (1, (0, 2147483647, 2147483647))])
def kd_S56q18 : List kd_St := [kd_S56q18_0, kd_S56q18_1, kd_S56q18_2, kd_S56q18_3, kd_S56q18_4, kd_S56q18_5, kd_S56q18_6, kd_S56q18_7, kd_S56q18_8]
theorem kd_e56q18 : kd_run0 kd_ty kd_x56 6 (kd_call kd_ty kd_xt (kd_ctl kd_C56q18) 600 2) kd_T56q18 600 kd_S56q18 = true := by decide +kernel
theorem kd_r56q18_0 : kd_run1 kd_ty kd_x56 6 (kd_call kd_ty kd_xt (kd_ctl kd_C56q18) 600 2) kd_T56q18.2.2 600 kd_S56q18 kd_S56q18_0 = true := by decide +kernel
theorem kd_r56q18_1 : kd_run1 kd_ty kd_x56 6 (kd_call kd_ty kd_xt (kd_ctl kd_C56q18) 600 2) kd_T56q18.2.2 600 kd_S56q18 kd_S56q18_1 = true := by decide +kernel
theorem kd_r56q18_2 : kd_run1 kd_ty kd_x56 6 (kd_call kd_ty kd_xt (kd_ctl kd_C56q18) 600 2) kd_T56q18.2.2 600 kd_S56q18 kd_S56q18_2 = true := by decide +kernel
theorem kd_r56q18_3 : kd_run1 kd_ty kd_x56 6 (kd_call kd_ty kd_xt (kd_ctl kd_C56q18) 600 2) kd_T56q18.2.2 600 kd_S56q18 kd_S56q18_3 = true := by decide +kernel
theorem kd_r56q18_4 : kd_run1 kd_ty kd_x56 6 (kd_call kd_ty kd_xt (kd_ctl kd_C56q18) 600 2) kd_T56q18.2.2 600 kd_S56q18 kd_S56q18_4 = true := by decide +kernel
theorem kd_r56q18_5 : kd_run1 kd_ty kd_x56 6 (kd_call kd_ty kd_xt (kd_ctl kd_C56q18) 600 2) kd_T56q18.2.2 600 kd_S56q18 kd_S56q18_5 = true := by decide +kernel
theorem kd_r56q18_6 : kd_run1 kd_ty kd_x56 6 (kd_call kd_ty kd_xt (kd_ctl kd_C56q18) 600 2) kd_T56q18.2.2 600 kd_S56q18 kd_S56q18_6 = true := by decide +kernel
theorem kd_r56q18_7 : kd_run1 kd_ty kd_x56 6 (kd_call kd_ty kd_xt (kd_ctl kd_C56q18) 600 2) kd_T56q18.2.2 600 kd_S56q18 kd_S56q18_7 = true := by decide +kernel
theorem kd_r56q18_8 : kd_run1 kd_ty kd_x56 6 (kd_call kd_ty kd_xt (kd_ctl kd_C56q18) 600 2) kd_T56q18.2.2 600 kd_S56q18 kd_S56q18_8 = true := by decide +kernel
theorem kd_h56q18 {g : kc_G} (hg : kc_ok g) : kd_hold g 3 kd_ty 56 kd_T56q18 := kd_mk (d0 := 0) (di := 2) hg kd_xk56 rfl rfl rfl rfl (kd_al_r kd_C56q18 trivial) (by decide) (by decide +kernel) kd_e56q18 (kd_al_r kd_S56q18 ⟨kd_r56q18_0, kd_r56q18_1, kd_r56q18_2, kd_r56q18_3, kd_r56q18_4, kd_r56q18_5, kd_r56q18_6, kd_r56q18_7, kd_r56q18_8, trivial⟩)
def kd_T56q19 : kd_Tc := ([(3, 259, 259), (0, 2147483648, 2147483648), (2, 0, 18446744073709551615), (0, 2147483657, 4294967295)], [], kd_P56)
def kd_C56q19 : List (Nat × kd_Tc) := []
def kd_S56q19 : List kd_St := []
theorem kd_e56q19 : kd_run0 kd_ty kd_x56 6 (kd_call kd_ty kd_xt (kd_ctl kd_C56q19) 600 2) kd_T56q19 600 kd_S56q19 = true := by decide +kernel
theorem kd_h56q19 {g : kc_G} (hg : kc_ok g) : kd_hold g 3 kd_ty 56 kd_T56q19 := kd_mk (d0 := 0) (di := 2) hg kd_xk56 rfl rfl rfl rfl (kd_al_r kd_C56q19 trivial) (by decide) (by decide +kernel) kd_e56q19 (kd_al_r kd_S56q19 trivial)
def kd_T56q20 : kd_Tc := ([(3, 259, 259), (0, 2147483649, 2147483649), (2, 0, 18446744073709551615), (0, 0, 2147483648)], [], kd_P56)
def kd_C56q20 : List (Nat × kd_Tc) := []
def kd_S56q20 : List kd_St := []
theorem kd_e56q20 : kd_run0 kd_ty kd_x56 6 (kd_call kd_ty kd_xt (kd_ctl kd_C56q20) 600 2) kd_T56q20 600 kd_S56q20 = true := by decide +kernel
theorem kd_h56q20 {g : kc_G} (hg : kc_ok g) : kd_hold g 3 kd_ty 56 kd_T56q20 := kd_mk (d0 := 0) (di := 2) hg kd_xk56 rfl rfl rfl rfl (kd_al_r kd_C56q20 trivial) (by decide) (by decide +kernel) kd_e56q20 (kd_al_r kd_S56q20 trivial)
def kd_T56q21 : kd_Tc := ([(3, 259, 259), (0, 2147483649, 2147483649), (2, 0, 18446744073709551615), (0, 2147483649, 2147483649)], [], kd_P56)
def kd_C56q21 : List (Nat × kd_Tc) := []
def kd_S56q21_0 : kd_St := (51, [(2147483648, 2147483887)], 1, [(3, 259, 259), (0, 2147483649, 2147483649), (2, 0, 18446744073709551615), (9, 0, 0), (0, 2147483649, 2147483649), (0, 2147483648, 2147483648)], [(260, 161, (1, 0, 2147483648))], [], [(0, (0, 52, 52)), (1, (0, 2147483648, 2147483648))])
def kd_S56q21_1 : kd_St := (51, [(2147483649, 2147483888)], 1, [(3, 259, 259), (0, 2147483649, 2147483649), (2, 0, 18446744073709551615), (9, 0, 0), (0, 2147483649, 2147483649), (0, 2147483647, 2147483647)], [(260, 161, (1, 0, 2147483648))], [(260, 260, 161, 161), (260, 260, 410, 649)], [(0, (0, 52, 52)), (1, (0, 2147483647, 2147483647))])
def kd_S56q21 : List kd_St := [kd_S56q21_0, kd_S56q21_1]
theorem kd_e56q21 : kd_run0 kd_ty kd_x56 6 (kd_call kd_ty kd_xt (kd_ctl kd_C56q21) 600 2) kd_T56q21 600 kd_S56q21 = true := by decide +kernel
theorem kd_r56q21_0 : kd_run1 kd_ty kd_x56 6 (kd_call kd_ty kd_xt (kd_ctl kd_C56q21) 600 2) kd_T56q21.2.2 600 kd_S56q21 kd_S56q21_0 = true := by decide +kernel
theorem kd_r56q21_1 : kd_run1 kd_ty kd_x56 6 (kd_call kd_ty kd_xt (kd_ctl kd_C56q21) 600 2) kd_T56q21.2.2 600 kd_S56q21 kd_S56q21_1 = true := by decide +kernel
theorem kd_h56q21 {g : kc_G} (hg : kc_ok g) : kd_hold g 3 kd_ty 56 kd_T56q21 := kd_mk (d0 := 0) (di := 2) hg kd_xk56 rfl rfl rfl rfl (kd_al_r kd_C56q21 trivial) (by decide) (by decide +kernel) kd_e56q21 (kd_al_r kd_S56q21 ⟨kd_r56q21_0, kd_r56q21_1, trivial⟩)
def kd_T56q22 : kd_Tc := ([(3, 259, 259), (0, 2147483649, 2147483649), (2, 0, 18446744073709551615), (0, 2147483650, 2147483650)], [], kd_P56)
def kd_C56q22 : List (Nat × kd_Tc) := []
def kd_S56q22_0 : kd_St := (51, [(2147483648, 2147483886)], 1, [(3, 259, 259), (0, 2147483649, 2147483649), (2, 0, 18446744073709551615), (9, 0, 0), (0, 2147483650, 2147483650), (0, 2147483649, 2147483649)], [(260, 161, (1, 0, 2147483648))], [], [(0, (0, 52, 52)), (1, (0, 2147483649, 2147483649))])
def kd_S56q22_1 : kd_St := (51, [(2147483649, 2147483887)], 1, [(3, 259, 259), (0, 2147483649, 2147483649), (2, 0, 18446744073709551615), (9, 0, 0), (0, 2147483650, 2147483650), (0, 2147483648, 2147483648)], [(260, 161, (1, 0, 2147483648))], [(260, 260, 161, 161), (260, 260, 410, 648)], [(0, (0, 52, 52)), (1, (0, 2147483648, 2147483648))])
def kd_S56q22_2 : kd_St := (51, [(2147483650, 2147483888)], 1, [(3, 259, 259), (0, 2147483649, 2147483649), (2, 0, 18446744073709551615), (9, 0, 0), (0, 2147483650, 2147483650), (0, 2147483647, 2147483647)], [(260, 161, (1, 0, 2147483648))], [(260, 260, 161, 161), (260, 260, 410, 649)], [(0, (0, 52, 52)), (1, (0, 2147483647, 2147483647))])
def kd_S56q22 : List kd_St := [kd_S56q22_0, kd_S56q22_1, kd_S56q22_2]
theorem kd_e56q22 : kd_run0 kd_ty kd_x56 6 (kd_call kd_ty kd_xt (kd_ctl kd_C56q22) 600 2) kd_T56q22 600 kd_S56q22 = true := by decide +kernel
theorem kd_r56q22_0 : kd_run1 kd_ty kd_x56 6 (kd_call kd_ty kd_xt (kd_ctl kd_C56q22) 600 2) kd_T56q22.2.2 600 kd_S56q22 kd_S56q22_0 = true := by decide +kernel
theorem kd_r56q22_1 : kd_run1 kd_ty kd_x56 6 (kd_call kd_ty kd_xt (kd_ctl kd_C56q22) 600 2) kd_T56q22.2.2 600 kd_S56q22 kd_S56q22_1 = true := by decide +kernel
theorem kd_r56q22_2 : kd_run1 kd_ty kd_x56 6 (kd_call kd_ty kd_xt (kd_ctl kd_C56q22) 600 2) kd_T56q22.2.2 600 kd_S56q22 kd_S56q22_2 = true := by decide +kernel
theorem kd_h56q22 {g : kc_G} (hg : kc_ok g) : kd_hold g 3 kd_ty 56 kd_T56q22 := kd_mk (d0 := 0) (di := 2) hg kd_xk56 rfl rfl rfl rfl (kd_al_r kd_C56q22 trivial) (by decide) (by decide +kernel) kd_e56q22 (kd_al_r kd_S56q22 ⟨kd_r56q22_0, kd_r56q22_1, kd_r56q22_2, trivial⟩)
def kd_T56q23 : kd_Tc := ([(3, 259, 259), (0, 2147483649, 2147483649), (2, 0, 18446744073709551615), (0, 2147483651, 2147483651)], [], kd_P56)
def kd_C56q23 : List (Nat × kd_Tc) := []
def kd_S56q23_0 : kd_St := (51, [(2147483648, 2147483885)], 1, [(3, 259, 259), (0, 2147483649, 2147483649), (2, 0, 18446744073709551615), (9, 0, 0), (0, 2147483651, 2147483651), (0, 2147483650, 2147483650)], [(260, 161, (1, 0, 2147483648))], [], [(0, (0, 52, 52)), (1, (0, 2147483650, 2147483650))])
def kd_S56q23_1 : kd_St := (51, [(2147483649, 2147483886)], 1, [(3, 259, 259), (0, 2147483649, 2147483649), (2, 0, 18446744073709551615), (9, 0, 0), (0, 2147483651, 2147483651), (0, 2147483649, 2147483649)], [(260, 161, (1, 0, 2147483648))], [(260, 260, 161, 161), (260, 260, 410, 647)], [(0, (0, 52, 52)), (1, (0, 2147483649, 2147483649))])
def kd_S56q23_2 : kd_St := (51, [(2147483650, 2147483887)], 1, [(3, 259, 259), (0, 2147483649, 2147483649), (2, 0, 18446744073709551615), (9, 0, 0), (0, 2147483651, 2147483651), (0, 2147483648, 2147483648)], [(260, 161, (1, 0, 2147483648))], [(260, 260, 161, 161), (260, 260, 410, 648)], [(0, (0, 52, 52)), (1, (0, 2147483648, 2147483648))])
def kd_S56q23_3 : kd_St := (51, [(2147483651, 2147483888)], 1, [(3, 259, 259), (0, 2147483649, 2147483649), (2, 0, 18446744073709551615), (9, 0, 0), (0, 2147483651, 2147483651), (0, 2147483647, 2147483647)], [(260, 161, (1, 0, 2147483648))], [(260, 260, 161, 161), (260, 260, 410, 649)], [(0, (0, 52, 52)), (1, (0, 2147483647, 2147483647))])
def kd_S56q23 : List kd_St := [kd_S56q23_0, kd_S56q23_1, kd_S56q23_2, kd_S56q23_3]
theorem kd_e56q23 : kd_run0 kd_ty kd_x56 6 (kd_call kd_ty kd_xt (kd_ctl kd_C56q23) 600 2) kd_T56q23 600 kd_S56q23 = true := by decide +kernel
theorem kd_r56q23_0 : kd_run1 kd_ty kd_x56 6 (kd_call kd_ty kd_xt (kd_ctl kd_C56q23) 600 2) kd_T56q23.2.2 600 kd_S56q23 kd_S56q23_0 = true := by decide +kernel
theorem kd_r56q23_1 : kd_run1 kd_ty kd_x56 6 (kd_call kd_ty kd_xt (kd_ctl kd_C56q23) 600 2) kd_T56q23.2.2 600 kd_S56q23 kd_S56q23_1 = true := by decide +kernel
theorem kd_r56q23_2 : kd_run1 kd_ty kd_x56 6 (kd_call kd_ty kd_xt (kd_ctl kd_C56q23) 600 2) kd_T56q23.2.2 600 kd_S56q23 kd_S56q23_2 = true := by decide +kernel
theorem kd_r56q23_3 : kd_run1 kd_ty kd_x56 6 (kd_call kd_ty kd_xt (kd_ctl kd_C56q23) 600 2) kd_T56q23.2.2 600 kd_S56q23 kd_S56q23_3 = true := by decide +kernel
theorem kd_h56q23 {g : kc_G} (hg : kc_ok g) : kd_hold g 3 kd_ty 56 kd_T56q23 := kd_mk (d0 := 0) (di := 2) hg kd_xk56 rfl rfl rfl rfl (kd_al_r kd_C56q23 trivial) (by decide) (by decide +kernel) kd_e56q23 (kd_al_r kd_S56q23 ⟨kd_r56q23_0, kd_r56q23_1, kd_r56q23_2, kd_r56q23_3, trivial⟩)
def kd_T56q24 : kd_Tc := ([(3, 259, 259), (0, 2147483649, 2147483649), (2, 0, 18446744073709551615), (0, 2147483652, 2147483652)], [], kd_P56)
def kd_C56q24 : List (Nat × kd_Tc) := []
def kd_S56q24_0 : kd_St := (51, [(2147483648, 2147483884)], 1, [(3, 259, 259), (0, 2147483649, 2147483649), (2, 0, 18446744073709551615), (9, 0, 0), (0, 2147483652, 2147483652), (0, 2147483651, 2147483651)], [(260, 161, (1, 0, 2147483648))], [], [(0, (0, 52, 52)), (1, (0, 2147483651, 2147483651))])
def kd_S56q24_1 : kd_St := (51, [(2147483649, 2147483885)], 1, [(3, 259, 259), (0, 2147483649, 2147483649), (2, 0, 18446744073709551615), (9, 0, 0), (0, 2147483652, 2147483652), (0, 2147483650, 2147483650)], [(260, 161, (1, 0, 2147483648))], [(260, 260, 161, 161), (260, 260, 410, 646)], [(0, (0, 52, 52)), (1, (0, 2147483650, 2147483650))])
def kd_S56q24_2 : kd_St := (51, [(2147483650, 2147483886)], 1, [(3, 259, 259), (0, 2147483649, 2147483649), (2, 0, 18446744073709551615), (9, 0, 0), (0, 2147483652, 2147483652), (0, 2147483649, 2147483649)], [(260, 161, (1, 0, 2147483648))], [(260, 260, 161, 161), (260, 260, 410, 647)], [(0, (0, 52, 52)), (1, (0, 2147483649, 2147483649))])
def kd_S56q24_3 : kd_St := (51, [(2147483651, 2147483887)], 1, [(3, 259, 259), (0, 2147483649, 2147483649), (2, 0, 18446744073709551615), (9, 0, 0), (0, 2147483652, 2147483652), (0, 2147483648, 2147483648)], [(260, 161, (1, 0, 2147483648))], [(260, 260, 161, 161), (260, 260, 410, 648)], [(0, (0, 52, 52)), (1, (0, 2147483648, 2147483648))])
def kd_S56q24_4 : kd_St := (51, [(2147483652, 2147483888)], 1, [(3, 259, 259), (0, 2147483649, 2147483649), (2, 0, 18446744073709551615), (9, 0, 0), (0, 2147483652, 2147483652), (0, 2147483647, 2147483647)], [(260, 161, (1, 0, 2147483648))], [(260, 260, 161, 161), (260, 260, 410, 649)], [(0, (0, 52, 52)), (1, (0, 2147483647, 2147483647))])
def kd_S56q24 : List kd_St := [kd_S56q24_0, kd_S56q24_1, kd_S56q24_2, kd_S56q24_3, kd_S56q24_4]
theorem kd_e56q24 : kd_run0 kd_ty kd_x56 6 (kd_call kd_ty kd_xt (kd_ctl kd_C56q24) 600 2) kd_T56q24 600 kd_S56q24 = true := by decide +kernel
theorem kd_r56q24_0 : kd_run1 kd_ty kd_x56 6 (kd_call kd_ty kd_xt (kd_ctl kd_C56q24) 600 2) kd_T56q24.2.2 600 kd_S56q24 kd_S56q24_0 = true := by decide +kernel
theorem kd_r56q24_1 : kd_run1 kd_ty kd_x56 6 (kd_call kd_ty kd_xt (kd_ctl kd_C56q24) 600 2) kd_T56q24.2.2 600 kd_S56q24 kd_S56q24_1 = true := by decide +kernel
theorem kd_r56q24_2 : kd_run1 kd_ty kd_x56 6 (kd_call kd_ty kd_xt (kd_ctl kd_C56q24) 600 2) kd_T56q24.2.2 600 kd_S56q24 kd_S56q24_2 = true := by decide +kernel
theorem kd_r56q24_3 : kd_run1 kd_ty kd_x56 6 (kd_call kd_ty kd_xt (kd_ctl kd_C56q24) 600 2) kd_T56q24.2.2 600 kd_S56q24 kd_S56q24_3 = true := by decide +kernel
theorem kd_r56q24_4 : kd_run1 kd_ty kd_x56 6 (kd_call kd_ty kd_xt (kd_ctl kd_C56q24) 600 2) kd_T56q24.2.2 600 kd_S56q24 kd_S56q24_4 = true := by decide +kernel
theorem kd_h56q24 {g : kc_G} (hg : kc_ok g) : kd_hold g 3 kd_ty 56 kd_T56q24 := kd_mk (d0 := 0) (di := 2) hg kd_xk56 rfl rfl rfl rfl (kd_al_r kd_C56q24 trivial) (by decide) (by decide +kernel) kd_e56q24 (kd_al_r kd_S56q24 ⟨kd_r56q24_0, kd_r56q24_1, kd_r56q24_2, kd_r56q24_3, kd_r56q24_4, trivial⟩)
def kd_T56q25 : kd_Tc := ([(3, 259, 259), (0, 2147483649, 2147483649), (2, 0, 18446744073709551615), (0, 2147483653, 2147483653)], [], kd_P56)
def kd_C56q25 : List (Nat × kd_Tc) := []
def kd_S56q25_0 : kd_St := (51, [(2147483648, 2147483883)], 1, [(3, 259, 259), (0, 2147483649, 2147483649), (2, 0, 18446744073709551615), (9, 0, 0), (0, 2147483653, 2147483653), (0, 2147483652, 2147483652)], [(260, 161, (1, 0, 2147483648))], [], [(0, (0, 52, 52)), (1, (0, 2147483652, 2147483652))])
def kd_S56q25_1 : kd_St := (51, [(2147483649, 2147483884)], 1, [(3, 259, 259), (0, 2147483649, 2147483649), (2, 0, 18446744073709551615), (9, 0, 0), (0, 2147483653, 2147483653), (0, 2147483651, 2147483651)], [(260, 161, (1, 0, 2147483648))], [(260, 260, 161, 161), (260, 260, 410, 645)], [(0, (0, 52, 52)), (1, (0, 2147483651, 2147483651))])
def kd_S56q25_2 : kd_St := (51, [(2147483650, 2147483885)], 1, [(3, 259, 259), (0, 2147483649, 2147483649), (2, 0, 18446744073709551615), (9, 0, 0), (0, 2147483653, 2147483653), (0, 2147483650, 2147483650)], [(260, 161, (1, 0, 2147483648))], [(260, 260, 161, 161), (260, 260, 410, 646)], [(0, (0, 52, 52)), (1, (0, 2147483650, 2147483650))])
def kd_S56q25_3 : kd_St := (51, [(2147483651, 2147483886)], 1, [(3, 259, 259), (0, 2147483649, 2147483649), (2, 0, 18446744073709551615), (9, 0, 0), (0, 2147483653, 2147483653), (0, 2147483649, 2147483649)], [(260, 161, (1, 0, 2147483648))], [(260, 260, 161, 161), (260, 260, 410, 647)], [(0, (0, 52, 52)), (1, (0, 2147483649, 2147483649))])
def kd_S56q25_4 : kd_St := (51, [(2147483652, 2147483887)], 1, [(3, 259, 259), (0, 2147483649, 2147483649), (2, 0, 18446744073709551615), (9, 0, 0), (0, 2147483653, 2147483653), (0, 2147483648, 2147483648)], [(260, 161, (1, 0, 2147483648))], [(260, 260, 161, 161), (260, 260, 410, 648)], [(0, (0, 52, 52)), (1, (0, 2147483648, 2147483648))])
def kd_S56q25_5 : kd_St := (51, [(2147483653, 2147483888)], 1, [(3, 259, 259), (0, 2147483649, 2147483649), (2, 0, 18446744073709551615), (9, 0, 0), (0, 2147483653, 2147483653), (0, 2147483647, 2147483647)], [(260, 161, (1, 0, 2147483648))], [(260, 260, 161, 161), (260, 260, 410, 649)], [(0, (0, 52, 52)), (1, (0, 2147483647, 2147483647))])
def kd_S56q25 : List kd_St := [kd_S56q25_0, kd_S56q25_1, kd_S56q25_2, kd_S56q25_3, kd_S56q25_4, kd_S56q25_5]
theorem kd_e56q25 : kd_run0 kd_ty kd_x56 6 (kd_call kd_ty kd_xt (kd_ctl kd_C56q25) 600 2) kd_T56q25 600 kd_S56q25 = true := by decide +kernel
theorem kd_r56q25_0 : kd_run1 kd_ty kd_x56 6 (kd_call kd_ty kd_xt (kd_ctl kd_C56q25) 600 2) kd_T56q25.2.2 600 kd_S56q25 kd_S56q25_0 = true := by decide +kernel
theorem kd_r56q25_1 : kd_run1 kd_ty kd_x56 6 (kd_call kd_ty kd_xt (kd_ctl kd_C56q25) 600 2) kd_T56q25.2.2 600 kd_S56q25 kd_S56q25_1 = true := by decide +kernel
theorem kd_r56q25_2 : kd_run1 kd_ty kd_x56 6 (kd_call kd_ty kd_xt (kd_ctl kd_C56q25) 600 2) kd_T56q25.2.2 600 kd_S56q25 kd_S56q25_2 = true := by decide +kernel
theorem kd_r56q25_3 : kd_run1 kd_ty kd_x56 6 (kd_call kd_ty kd_xt (kd_ctl kd_C56q25) 600 2) kd_T56q25.2.2 600 kd_S56q25 kd_S56q25_3 = true := by decide +kernel
theorem kd_r56q25_4 : kd_run1 kd_ty kd_x56 6 (kd_call kd_ty kd_xt (kd_ctl kd_C56q25) 600 2) kd_T56q25.2.2 600 kd_S56q25 kd_S56q25_4 = true := by decide +kernel
theorem kd_r56q25_5 : kd_run1 kd_ty kd_x56 6 (kd_call kd_ty kd_xt (kd_ctl kd_C56q25) 600 2) kd_T56q25.2.2 600 kd_S56q25 kd_S56q25_5 = true := by decide +kernel
theorem kd_h56q25 {g : kc_G} (hg : kc_ok g) : kd_hold g 3 kd_ty 56 kd_T56q25 := kd_mk (d0 := 0) (di := 2) hg kd_xk56 rfl rfl rfl rfl (kd_al_r kd_C56q25 trivial) (by decide) (by decide +kernel) kd_e56q25 (kd_al_r kd_S56q25 ⟨kd_r56q25_0, kd_r56q25_1, kd_r56q25_2, kd_r56q25_3, kd_r56q25_4, kd_r56q25_5, trivial⟩)
def kd_T56q26 : kd_Tc := ([(3, 259, 259), (0, 2147483649, 2147483649), (2, 0, 18446744073709551615), (0, 2147483654, 2147483654)], [], kd_P56)
def kd_C56q26 : List (Nat × kd_Tc) := []
def kd_S56q26_0 : kd_St := (51, [(2147483648, 2147483882)], 1, [(3, 259, 259), (0, 2147483649, 2147483649), (2, 0, 18446744073709551615), (9, 0, 0), (0, 2147483654, 2147483654), (0, 2147483653, 2147483653)], [(260, 161, (1, 0, 2147483648))], [], [(0, (0, 52, 52)), (1, (0, 2147483653, 2147483653))])
def kd_S56q26_1 : kd_St := (51, [(2147483649, 2147483883)], 1, [(3, 259, 259), (0, 2147483649, 2147483649), (2, 0, 18446744073709551615), (9, 0, 0), (0, 2147483654, 2147483654), (0, 2147483652, 2147483652)], [(260, 161, (1, 0, 2147483648))], [(260, 260, 161, 161), (260, 260, 410, 644)], [(0, (0, 52, 52)), (1, (0, 2147483652, 2147483652))])
def kd_S56q26_2 : kd_St := (51, [(2147483650, 2147483884)], 1, [(3, 259, 259), (0, 2147483649, 2147483649), (2, 0, 18446744073709551615), (9, 0, 0), (0, 2147483654, 2147483654), (0, 2147483651, 2147483651)], [(260, 161, (1, 0, 2147483648))], [(260, 260, 161, 161), (260, 260, 410, 645)], [(0, (0, 52, 52)), (1, (0, 2147483651, 2147483651))])
def kd_S56q26_3 : kd_St := (51, [(2147483651, 2147483885)], 1, [(3, 259, 259), (0, 2147483649, 2147483649), (2, 0, 18446744073709551615), (9, 0, 0), (0, 2147483654, 2147483654), (0, 2147483650, 2147483650)], [(260, 161, (1, 0, 2147483648))], [(260, 260, 161, 161), (260, 260, 410, 646)], [(0, (0, 52, 52)), (1, (0, 2147483650, 2147483650))])
def kd_S56q26_4 : kd_St := (51, [(2147483652, 2147483886)], 1, [(3, 259, 259), (0, 2147483649, 2147483649), (2, 0, 18446744073709551615), (9, 0, 0), (0, 2147483654, 2147483654), (0, 2147483649, 2147483649)], [(260, 161, (1, 0, 2147483648))], [(260, 260, 161, 161), (260, 260, 410, 647)], [(0, (0, 52, 52)), (1, (0, 2147483649, 2147483649))])
def kd_S56q26_5 : kd_St := (51, [(2147483653, 2147483887)], 1, [(3, 259, 259), (0, 2147483649, 2147483649), (2, 0, 18446744073709551615), (9, 0, 0), (0, 2147483654, 2147483654), (0, 2147483648, 2147483648)], [(260, 161, (1, 0, 2147483648))], [(260, 260, 161, 161), (260, 260, 410, 648)], [(0, (0, 52, 52)), (1, (0, 2147483648, 2147483648))])
def kd_S56q26_6 : kd_St := (51, [(2147483654, 2147483888)], 1, [(3, 259, 259), (0, 2147483649, 2147483649), (2, 0, 18446744073709551615), (9, 0, 0), (0, 2147483654, 2147483654), (0, 2147483647, 2147483647)], [(260, 161, (1, 0, 2147483648))], [(260, 260, 161, 161), (260, 260, 410, 649)], [(0, (0, 52, 52)), (1, (0, 2147483647, 2147483647))])
def kd_S56q26 : List kd_St := [kd_S56q26_0, kd_S56q26_1, kd_S56q26_2, kd_S56q26_3, kd_S56q26_4, kd_S56q26_5, kd_S56q26_6]
theorem kd_e56q26 : kd_run0 kd_ty kd_x56 6 (kd_call kd_ty kd_xt (kd_ctl kd_C56q26) 600 2) kd_T56q26 600 kd_S56q26 = true := by decide +kernel
theorem kd_r56q26_0 : kd_run1 kd_ty kd_x56 6 (kd_call kd_ty kd_xt (kd_ctl kd_C56q26) 600 2) kd_T56q26.2.2 600 kd_S56q26 kd_S56q26_0 = true := by decide +kernel
theorem kd_r56q26_1 : kd_run1 kd_ty kd_x56 6 (kd_call kd_ty kd_xt (kd_ctl kd_C56q26) 600 2) kd_T56q26.2.2 600 kd_S56q26 kd_S56q26_1 = true := by decide +kernel
theorem kd_r56q26_2 : kd_run1 kd_ty kd_x56 6 (kd_call kd_ty kd_xt (kd_ctl kd_C56q26) 600 2) kd_T56q26.2.2 600 kd_S56q26 kd_S56q26_2 = true := by decide +kernel
theorem kd_r56q26_3 : kd_run1 kd_ty kd_x56 6 (kd_call kd_ty kd_xt (kd_ctl kd_C56q26) 600 2) kd_T56q26.2.2 600 kd_S56q26 kd_S56q26_3 = true := by decide +kernel
theorem kd_r56q26_4 : kd_run1 kd_ty kd_x56 6 (kd_call kd_ty kd_xt (kd_ctl kd_C56q26) 600 2) kd_T56q26.2.2 600 kd_S56q26 kd_S56q26_4 = true := by decide +kernel
theorem kd_r56q26_5 : kd_run1 kd_ty kd_x56 6 (kd_call kd_ty kd_xt (kd_ctl kd_C56q26) 600 2) kd_T56q26.2.2 600 kd_S56q26 kd_S56q26_5 = true := by decide +kernel
theorem kd_r56q26_6 : kd_run1 kd_ty kd_x56 6 (kd_call kd_ty kd_xt (kd_ctl kd_C56q26) 600 2) kd_T56q26.2.2 600 kd_S56q26 kd_S56q26_6 = true := by decide +kernel
theorem kd_h56q26 {g : kc_G} (hg : kc_ok g) : kd_hold g 3 kd_ty 56 kd_T56q26 := kd_mk (d0 := 0) (di := 2) hg kd_xk56 rfl rfl rfl rfl (kd_al_r kd_C56q26 trivial) (by decide) (by decide +kernel) kd_e56q26 (kd_al_r kd_S56q26 ⟨kd_r56q26_0, kd_r56q26_1, kd_r56q26_2, kd_r56q26_3, kd_r56q26_4, kd_r56q26_5, kd_r56q26_6, trivial⟩)
def kd_T56q27 : kd_Tc := ([(3, 259, 259), (0, 2147483649, 2147483649), (2, 0, 18446744073709551615), (0, 2147483655, 2147483655)], [], kd_P56)
def kd_C56q27 : List (Nat × kd_Tc) := []
def kd_S56q27_0 : kd_St := (51, [(2147483648, 2147483881)], 1, [(3, 259, 259), (0, 2147483649, 2147483649), (2, 0, 18446744073709551615), (9, 0, 0), (0, 2147483655, 2147483655), (0, 2147483654, 2147483654)], [(260, 161, (1, 0, 2147483648))], [], [(0, (0, 52, 52)), (1, (0, 2147483654, 2147483654))])
def kd_S56q27_1 : kd_St := (51, [(2147483649, 2147483882)], 1, [(3, 259, 259), (0, 2147483649, 2147483649), (2, 0, 18446744073709551615), (9, 0, 0), (0, 2147483655, 2147483655), (0, 2147483653, 2147483653)], [(260, 161, (1, 0, 2147483648))], [(260, 260, 161, 161), (260, 260, 410, 643)], [(0, (0, 52, 52)), (1, (0, 2147483653, 2147483653))])
def kd_S56q27_2 : kd_St := (51, [(2147483650, 2147483883)], 1, [(3, 259, 259), (0, 2147483649, 2147483649), (2, 0, 18446744073709551615), (9, 0, 0), (0, 2147483655, 2147483655), (0, 2147483652, 2147483652)], [(260, 161, (1, 0, 2147483648))], [(260, 260, 161, 161), (260, 260, 410, 644)], [(0, (0, 52, 52)), (1, (0, 2147483652, 2147483652))])
def kd_S56q27_3 : kd_St := (51, [(2147483651, 2147483884)], 1, [(3, 259, 259), (0, 2147483649, 2147483649), (2, 0, 18446744073709551615), (9, 0, 0), (0, 2147483655, 2147483655), (0, 2147483651, 2147483651)], [(260, 161, (1, 0, 2147483648))], [(260, 260, 161, 161), (260, 260, 410, 645)], [(0, (0, 52, 52)), (1, (0, 2147483651, 2147483651))])
def kd_S56q27_4 : kd_St := (51, [(2147483652, 2147483885)], 1, [(3, 259, 259), (0, 2147483649, 2147483649), (2, 0, 18446744073709551615), (9, 0, 0), (0, 2147483655, 2147483655), (0, 2147483650, 2147483650)], [(260, 161, (1, 0, 2147483648))], [(260, 260, 161, 161), (260, 260, 410, 646)], [(0, (0, 52, 52)), (1, (0, 2147483650, 2147483650))])
def kd_S56q27_5 : kd_St := (51, [(2147483653, 2147483886)], 1, [(3, 259, 259), (0, 2147483649, 2147483649), (2, 0, 18446744073709551615), (9, 0, 0), (0, 2147483655, 2147483655), (0, 2147483649, 2147483649)], [(260, 161, (1, 0, 2147483648))], [(260, 260, 161, 161), (260, 260, 410, 647)], [(0, (0, 52, 52)), (1, (0, 2147483649, 2147483649))])
def kd_S56q27_6 : kd_St := (51, [(2147483654, 2147483887)], 1, [(3, 259, 259), (0, 2147483649, 2147483649), (2, 0, 18446744073709551615), (9, 0, 0), (0, 2147483655, 2147483655), (0, 2147483648, 2147483648)], [(260, 161, (1, 0, 2147483648))], [(260, 260, 161, 161), (260, 260, 410, 648)], [(0, (0, 52, 52)), (1, (0, 2147483648, 2147483648))])
def kd_S56q27_7 : kd_St := (51, [(2147483655, 2147483888)], 1, [(3, 259, 259), (0, 2147483649, 2147483649), (2, 0, 18446744073709551615), (9, 0, 0), (0, 2147483655, 2147483655), (0, 2147483647, 2147483647)], [(260, 161, (1, 0, 2147483648))], [(260, 260, 161, 161), (260, 260, 410, 649)], [(0, (0, 52, 52)), (1, (0, 2147483647, 2147483647))])
def kd_S56q27 : List kd_St := [kd_S56q27_0, kd_S56q27_1, kd_S56q27_2, kd_S56q27_3, kd_S56q27_4, kd_S56q27_5, kd_S56q27_6, kd_S56q27_7]
theorem kd_e56q27 : kd_run0 kd_ty kd_x56 6 (kd_call kd_ty kd_xt (kd_ctl kd_C56q27) 600 2) kd_T56q27 600 kd_S56q27 = true := by decide +kernel
theorem kd_r56q27_0 : kd_run1 kd_ty kd_x56 6 (kd_call kd_ty kd_xt (kd_ctl kd_C56q27) 600 2) kd_T56q27.2.2 600 kd_S56q27 kd_S56q27_0 = true := by decide +kernel
theorem kd_r56q27_1 : kd_run1 kd_ty kd_x56 6 (kd_call kd_ty kd_xt (kd_ctl kd_C56q27) 600 2) kd_T56q27.2.2 600 kd_S56q27 kd_S56q27_1 = true := by decide +kernel
theorem kd_r56q27_2 : kd_run1 kd_ty kd_x56 6 (kd_call kd_ty kd_xt (kd_ctl kd_C56q27) 600 2) kd_T56q27.2.2 600 kd_S56q27 kd_S56q27_2 = true := by decide +kernel
theorem kd_r56q27_3 : kd_run1 kd_ty kd_x56 6 (kd_call kd_ty kd_xt (kd_ctl kd_C56q27) 600 2) kd_T56q27.2.2 600 kd_S56q27 kd_S56q27_3 = true := by decide +kernel
theorem kd_r56q27_4 : kd_run1 kd_ty kd_x56 6 (kd_call kd_ty kd_xt (kd_ctl kd_C56q27) 600 2) kd_T56q27.2.2 600 kd_S56q27 kd_S56q27_4 = true := by decide +kernel
theorem kd_r56q27_5 : kd_run1 kd_ty kd_x56 6 (kd_call kd_ty kd_xt (kd_ctl kd_C56q27) 600 2) kd_T56q27.2.2 600 kd_S56q27 kd_S56q27_5 = true := by decide +kernel
theorem kd_r56q27_6 : kd_run1 kd_ty kd_x56 6 (kd_call kd_ty kd_xt (kd_ctl kd_C56q27) 600 2) kd_T56q27.2.2 600 kd_S56q27 kd_S56q27_6 = true := by decide +kernel
theorem kd_r56q27_7 : kd_run1 kd_ty kd_x56 6 (kd_call kd_ty kd_xt (kd_ctl kd_C56q27) 600 2) kd_T56q27.2.2 600 kd_S56q27 kd_S56q27_7 = true := by decide +kernel
theorem kd_h56q27 {g : kc_G} (hg : kc_ok g) : kd_hold g 3 kd_ty 56 kd_T56q27 := kd_mk (d0 := 0) (di := 2) hg kd_xk56 rfl rfl rfl rfl (kd_al_r kd_C56q27 trivial) (by decide) (by decide +kernel) kd_e56q27 (kd_al_r kd_S56q27 ⟨kd_r56q27_0, kd_r56q27_1, kd_r56q27_2, kd_r56q27_3, kd_r56q27_4, kd_r56q27_5, kd_r56q27_6, kd_r56q27_7, trivial⟩)
def kd_T56q28 : kd_Tc := ([(3, 259, 259), (0, 2147483649, 2147483649), (2, 0, 18446744073709551615), (0, 2147483656, 2147483656)], [], kd_P56)
def kd_C56q28 : List (Nat × kd_Tc) := []
def kd_S56q28_0 : kd_St := (51, [(2147483648, 2147483880)], 1, [(3, 259, 259), (0, 2147483649, 2147483649), (2, 0, 18446744073709551615), (9, 0, 0), (0, 2147483656, 2147483656), (0, 2147483655, 2147483655)], [(260, 161, (1, 0, 2147483648))], [], [(0, (0, 52, 52)), (1, (0, 2147483655, 2147483655))])
def kd_S56q28_1 : kd_St := (51, [(2147483649, 2147483881)], 1, [(3, 259, 259), (0, 2147483649, 2147483649), (2, 0, 18446744073709551615), (9, 0, 0), (0, 2147483656, 2147483656), (0, 2147483654, 2147483654)], [(260, 161, (1, 0, 2147483648))], [(260, 260, 161, 161), (260, 260, 410, 642)], [(0, (0, 52, 52)), (1, (0, 2147483654, 2147483654))])
def kd_S56q28_2 : kd_St := (51, [(2147483650, 2147483882)], 1, [(3, 259, 259), (0, 2147483649, 2147483649), (2, 0, 18446744073709551615), (9, 0, 0), (0, 2147483656, 2147483656), (0, 2147483653, 2147483653)], [(260, 161, (1, 0, 2147483648))], [(260, 260, 161, 161), (260, 260, 410, 643)], [(0, (0, 52, 52)), (1, (0, 2147483653, 2147483653))])
def kd_S56q28_3 : kd_St := (51, [(2147483651, 2147483883)], 1, [(3, 259, 259), (0, 2147483649, 2147483649), (2, 0, 18446744073709551615), (9, 0, 0), (0, 2147483656, 2147483656), (0, 2147483652, 2147483652)], [(260, 161, (1, 0, 2147483648))], [(260, 260, 161, 161), (260, 260, 410, 644)], [(0, (0, 52, 52)), (1, (0, 2147483652, 2147483652))])
def kd_S56q28_4 : kd_St := (51, [(2147483652, 2147483884)], 1, [(3, 259, 259), (0, 2147483649, 2147483649), (2, 0, 18446744073709551615), (9, 0, 0), (0, 2147483656, 2147483656), (0, 2147483651, 2147483651)], [(260, 161, (1, 0, 2147483648))], [(260, 260, 161, 161), (260, 260, 410, 645)], [(0, (0, 52, 52)), (1, (0, 2147483651, 2147483651))])
def kd_S56q28_5 : kd_St := (51, [(2147483653, 2147483885)], 1, [(3, 259, 259), (0, 2147483649, 2147483649), (2, 0, 18446744073709551615), (9, 0, 0), (0, 2147483656, 2147483656), (0, 2147483650, 2147483650)], [(260, 161, (1, 0, 2147483648))], [(260, 260, 161, 161), (260, 260, 410, 646)], [(0, (0, 52, 52)), (1, (0, 2147483650, 2147483650))])
def kd_S56q28_6 : kd_St := (51, [(2147483654, 2147483886)], 1, [(3, 259, 259), (0, 2147483649, 2147483649), (2, 0, 18446744073709551615), (9, 0, 0), (0, 2147483656, 2147483656), (0, 2147483649, 2147483649)], [(260, 161, (1, 0, 2147483648))], [(260, 260, 161, 161), (260, 260, 410, 647)], [(0, (0, 52, 52)), (1, (0, 2147483649, 2147483649))])
def kd_S56q28_7 : kd_St := (51, [(2147483655, 2147483887)], 1, [(3, 259, 259), (0, 2147483649, 2147483649), (2, 0, 18446744073709551615), (9, 0, 0), (0, 2147483656, 2147483656), (0, 2147483648, 2147483648)], [(260, 161, (1, 0, 2147483648))], [(260, 260, 161, 161), (260, 260, 410, 648)], [(0, (0, 52, 52)), (1, (0, 2147483648, 2147483648))])
def kd_S56q28_8 : kd_St := (51, [(2147483656, 2147483888)], 1, [(3, 259, 259), (0, 2147483649, 2147483649), (2, 0, 18446744073709551615), (9, 0, 0), (0, 2147483656, 2147483656), (0, 2147483647, 2147483647)], [(260, 161, (1, 0, 2147483648))], [(260, 260, 161, 161), (260, 260, 410, 649)], [(0, (0, 52, 52)), (1, (0, 2147483647, 2147483647))])
def kd_S56q28 : List kd_St := [kd_S56q28_0, kd_S56q28_1, kd_S56q28_2, kd_S56q28_3, kd_S56q28_4, kd_S56q28_5, kd_S56q28_6, kd_S56q28_7, kd_S56q28_8]
theorem kd_e56q28 : kd_run0 kd_ty kd_x56 6 (kd_call kd_ty kd_xt (kd_ctl kd_C56q28) 600 2) kd_T56q28 600 kd_S56q28 = true := by decide +kernel
theorem kd_r56q28_0 : kd_run1 kd_ty kd_x56 6 (kd_call kd_ty kd_xt (kd_ctl kd_C56q28) 600 2) kd_T56q28.2.2 600 kd_S56q28 kd_S56q28_0 = true := by decide +kernel
theorem kd_r56q28_1 : kd_run1 kd_ty kd_x56 6 (kd_call kd_ty kd_xt (kd_ctl kd_C56q28) 600 2) kd_T56q28.2.2 600 kd_S56q28 kd_S56q28_1 = true := by decide +kernel
theorem kd_r56q28_2 : kd_run1 kd_ty kd_x56 6 (kd_call kd_ty kd_xt (kd_ctl kd_C56q28) 600 2) kd_T56q28.2.2 600 kd_S56q28 kd_S56q28_2 = true := by decide +kernel
theorem kd_r56q28_3 : kd_run1 kd_ty kd_x56 6 (kd_call kd_ty kd_xt (kd_ctl kd_C56q28) 600 2) kd_T56q28.2.2 600 kd_S56q28 kd_S56q28_3 = true := by decide +kernel
theorem kd_r56q28_4 : kd_run1 kd_ty kd_x56 6 (kd_call kd_ty kd_xt (kd_ctl kd_C56q28) 600 2) kd_T56q28.2.2 600 kd_S56q28 kd_S56q28_4 = true := by decide +kernel
theorem kd_r56q28_5 : kd_run1 kd_ty kd_x56 6 (kd_call kd_ty kd_xt (kd_ctl kd_C56q28) 600 2) kd_T56q28.2.2 600 kd_S56q28 kd_S56q28_5 = true := by decide +kernel
theorem kd_r56q28_6 : kd_run1 kd_ty kd_x56 6 (kd_call kd_ty kd_xt (kd_ctl kd_C56q28) 600 2) kd_T56q28.2.2 600 kd_S56q28 kd_S56q28_6 = true := by decide +kernel
theorem kd_r56q28_7 : kd_run1 kd_ty kd_x56 6 (kd_call kd_ty kd_xt (kd_ctl kd_C56q28) 600 2) kd_T56q28.2.2 600 kd_S56q28 kd_S56q28_7 = true := by decide +kernel
theorem kd_r56q28_8 : kd_run1 kd_ty kd_x56 6 (kd_call kd_ty kd_xt (kd_ctl kd_C56q28) 600 2) kd_T56q28.2.2 600 kd_S56q28 kd_S56q28_8 = true := by decide +kernel
theorem kd_h56q28 {g : kc_G} (hg : kc_ok g) : kd_hold g 3 kd_ty 56 kd_T56q28 := kd_mk (d0 := 0) (di := 2) hg kd_xk56 rfl rfl rfl rfl (kd_al_r kd_C56q28 trivial) (by decide) (by decide +kernel) kd_e56q28 (kd_al_r kd_S56q28 ⟨kd_r56q28_0, kd_r56q28_1, kd_r56q28_2, kd_r56q28_3, kd_r56q28_4, kd_r56q28_5, kd_r56q28_6, kd_r56q28_7, kd_r56q28_8, trivial⟩)
def kd_T56q29 : kd_Tc := ([(3, 259, 259), (0, 2147483649, 2147483649), (2, 0, 18446744073709551615), (0, 2147483657, 4294967295)], [], kd_P56)
def kd_C56q29 : List (Nat × kd_Tc) := []
def kd_S56q29 : List kd_St := []
theorem kd_e56q29 : kd_run0 kd_ty kd_x56 6 (kd_call kd_ty kd_xt (kd_ctl kd_C56q29) 600 2) kd_T56q29 600 kd_S56q29 = true := by decide +kernel
theorem kd_h56q29 {g : kc_G} (hg : kc_ok g) : kd_hold g 3 kd_ty 56 kd_T56q29 := kd_mk (d0 := 0) (di := 2) hg kd_xk56 rfl rfl rfl rfl (kd_al_r kd_C56q29 trivial) (by decide) (by decide +kernel) kd_e56q29 (kd_al_r kd_S56q29 trivial)
def kd_T56q30 : kd_Tc := ([(3, 259, 259), (0, 2147483650, 4294967295), (2, 0, 18446744073709551615), (0, 0, 2147483648)], [], kd_P56)
def kd_C56q30 : List (Nat × kd_Tc) := []
def kd_S56q30 : List kd_St := []
theorem kd_e56q30 : kd_run0 kd_ty kd_x56 6 (kd_call kd_ty kd_xt (kd_ctl kd_C56q30) 600 2) kd_T56q30 600 kd_S56q30 = true := by decide +kernel
theorem kd_h56q30 {g : kc_G} (hg : kc_ok g) : kd_hold g 3 kd_ty 56 kd_T56q30 := kd_mk (d0 := 0) (di := 2) hg kd_xk56 rfl rfl rfl rfl (kd_al_r kd_C56q30 trivial) (by decide) (by decide +kernel) kd_e56q30 (kd_al_r kd_S56q30 trivial)
def kd_T56q31 : kd_Tc := ([(3, 259, 259), (0, 2147483650, 4294967295), (2, 0, 18446744073709551615), (0, 2147483649, 2147483649)], [], kd_P56)
def kd_C56q31 : List (Nat × kd_Tc) := []
def kd_S56q31 : List kd_St := []
theorem kd_e56q31 : kd_run0 kd_ty kd_x56 6 (kd_call kd_ty kd_xt (kd_ctl kd_C56q31) 600 2) kd_T56q31 600 kd_S56q31 = true := by decide +kernel
theorem kd_h56q31 {g : kc_G} (hg : kc_ok g) : kd_hold g 3 kd_ty 56 kd_T56q31 := kd_mk (d0 := 0) (di := 2) hg kd_xk56 rfl rfl rfl rfl (kd_al_r kd_C56q31 trivial) (by decide) (by decide +kernel) kd_e56q31 (kd_al_r kd_S56q31 trivial)
def kd_T56q32 : kd_Tc := ([(3, 259, 259), (0, 2147483650, 4294967295), (2, 0, 18446744073709551615), (0, 2147483650, 2147483650)], [], kd_P56)
def kd_C56q32 : List (Nat × kd_Tc) := []
def kd_S56q32 : List kd_St := []
theorem kd_e56q32 : kd_run0 kd_ty kd_x56 6 (kd_call kd_ty kd_xt (kd_ctl kd_C56q32) 600 2) kd_T56q32 600 kd_S56q32 = true := by decide +kernel
theorem kd_h56q32 {g : kc_G} (hg : kc_ok g) : kd_hold g 3 kd_ty 56 kd_T56q32 := kd_mk (d0 := 0) (di := 2) hg kd_xk56 rfl rfl rfl rfl (kd_al_r kd_C56q32 trivial) (by decide) (by decide +kernel) kd_e56q32 (kd_al_r kd_S56q32 trivial)
def kd_T56q33 : kd_Tc := ([(3, 259, 259), (0, 2147483650, 4294967295), (2, 0, 18446744073709551615), (0, 2147483651, 2147483651)], [], kd_P56)
def kd_C56q33 : List (Nat × kd_Tc) := []
def kd_S56q33 : List kd_St := []
theorem kd_e56q33 : kd_run0 kd_ty kd_x56 6 (kd_call kd_ty kd_xt (kd_ctl kd_C56q33) 600 2) kd_T56q33 600 kd_S56q33 = true := by decide +kernel
theorem kd_h56q33 {g : kc_G} (hg : kc_ok g) : kd_hold g 3 kd_ty 56 kd_T56q33 := kd_mk (d0 := 0) (di := 2) hg kd_xk56 rfl rfl rfl rfl (kd_al_r kd_C56q33 trivial) (by decide) (by decide +kernel) kd_e56q33 (kd_al_r kd_S56q33 trivial)
def kd_T56q34 : kd_Tc := ([(3, 259, 259), (0, 2147483650, 4294967295), (2, 0, 18446744073709551615), (0, 2147483652, 2147483652)], [], kd_P56)
def kd_C56q34 : List (Nat × kd_Tc) := []
def kd_S56q34 : List kd_St := []
theorem kd_e56q34 : kd_run0 kd_ty kd_x56 6 (kd_call kd_ty kd_xt (kd_ctl kd_C56q34) 600 2) kd_T56q34 600 kd_S56q34 = true := by decide +kernel
theorem kd_h56q34 {g : kc_G} (hg : kc_ok g) : kd_hold g 3 kd_ty 56 kd_T56q34 := kd_mk (d0 := 0) (di := 2) hg kd_xk56 rfl rfl rfl rfl (kd_al_r kd_C56q34 trivial) (by decide) (by decide +kernel) kd_e56q34 (kd_al_r kd_S56q34 trivial)
def kd_T56q35 : kd_Tc := ([(3, 259, 259), (0, 2147483650, 4294967295), (2, 0, 18446744073709551615), (0, 2147483653, 2147483653)], [], kd_P56)
def kd_C56q35 : List (Nat × kd_Tc) := []
def kd_S56q35 : List kd_St := []
theorem kd_e56q35 : kd_run0 kd_ty kd_x56 6 (kd_call kd_ty kd_xt (kd_ctl kd_C56q35) 600 2) kd_T56q35 600 kd_S56q35 = true := by decide +kernel
theorem kd_h56q35 {g : kc_G} (hg : kc_ok g) : kd_hold g 3 kd_ty 56 kd_T56q35 := kd_mk (d0 := 0) (di := 2) hg kd_xk56 rfl rfl rfl rfl (kd_al_r kd_C56q35 trivial) (by decide) (by decide +kernel) kd_e56q35 (kd_al_r kd_S56q35 trivial)
def kd_T56q36 : kd_Tc := ([(3, 259, 259), (0, 2147483650, 4294967295), (2, 0, 18446744073709551615), (0, 2147483654, 2147483654)], [], kd_P56)
def kd_C56q36 : List (Nat × kd_Tc) := []
def kd_S56q36 : List kd_St := []
theorem kd_e56q36 : kd_run0 kd_ty kd_x56 6 (kd_call kd_ty kd_xt (kd_ctl kd_C56q36) 600 2) kd_T56q36 600 kd_S56q36 = true := by decide +kernel
theorem kd_h56q36 {g : kc_G} (hg : kc_ok g) : kd_hold g 3 kd_ty 56 kd_T56q36 := kd_mk (d0 := 0) (di := 2) hg kd_xk56 rfl rfl rfl rfl (kd_al_r kd_C56q36 trivial) (by decide) (by decide +kernel) kd_e56q36 (kd_al_r kd_S56q36 trivial)
def kd_T56q37 : kd_Tc := ([(3, 259, 259), (0, 2147483650, 4294967295), (2, 0, 18446744073709551615), (0, 2147483655, 2147483655)], [], kd_P56)
def kd_C56q37 : List (Nat × kd_Tc) := []
def kd_S56q37 : List kd_St := []
theorem kd_e56q37 : kd_run0 kd_ty kd_x56 6 (kd_call kd_ty kd_xt (kd_ctl kd_C56q37) 600 2) kd_T56q37 600 kd_S56q37 = true := by decide +kernel
theorem kd_h56q37 {g : kc_G} (hg : kc_ok g) : kd_hold g 3 kd_ty 56 kd_T56q37 := kd_mk (d0 := 0) (di := 2) hg kd_xk56 rfl rfl rfl rfl (kd_al_r kd_C56q37 trivial) (by decide) (by decide +kernel) kd_e56q37 (kd_al_r kd_S56q37 trivial)
def kd_T56q38 : kd_Tc := ([(3, 259, 259), (0, 2147483650, 4294967295), (2, 0, 18446744073709551615), (0, 2147483656, 2147483656)], [], kd_P56)
def kd_C56q38 : List (Nat × kd_Tc) := []
def kd_S56q38 : List kd_St := []
theorem kd_e56q38 : kd_run0 kd_ty kd_x56 6 (kd_call kd_ty kd_xt (kd_ctl kd_C56q38) 600 2) kd_T56q38 600 kd_S56q38 = true := by decide +kernel
theorem kd_h56q38 {g : kc_G} (hg : kc_ok g) : kd_hold g 3 kd_ty 56 kd_T56q38 := kd_mk (d0 := 0) (di := 2) hg kd_xk56 rfl rfl rfl rfl (kd_al_r kd_C56q38 trivial) (by decide) (by decide +kernel) kd_e56q38 (kd_al_r kd_S56q38 trivial)
def kd_T56q39 : kd_Tc := ([(3, 259, 259), (0, 2147483650, 4294967295), (2, 0, 18446744073709551615), (0, 2147483657, 4294967295)], [], kd_P56)
def kd_C56q39 : List (Nat × kd_Tc) := []
def kd_S56q39 : List kd_St := []
theorem kd_e56q39 : kd_run0 kd_ty kd_x56 6 (kd_call kd_ty kd_xt (kd_ctl kd_C56q39) 600 2) kd_T56q39 600 kd_S56q39 = true := by decide +kernel
theorem kd_h56q39 {g : kc_G} (hg : kc_ok g) : kd_hold g 3 kd_ty 56 kd_T56q39 := kd_mk (d0 := 0) (di := 2) hg kd_xk56 rfl rfl rfl rfl (kd_al_r kd_C56q39 trivial) (by decide) (by decide +kernel) kd_e56q39 (kd_al_r kd_S56q39 trivial)
def kd_T56 : kd_Tc := ([(3, 259, 259), (0, 0, 4294967295), (2, 0, 18446744073709551615), (0, 0, 4294967295)], [], kd_P56)
theorem kd_h56 {g : kc_G} (hg : kc_ok g) : kd_hold g 3 kd_ty 56 kd_T56 := kd_hold_arg [(3, 259, 259)] [(0, 2147483647), (2147483648, 2147483648), (2147483649, 2147483649), (2147483650, 4294967295)] (by decide +kernel) (kd_al_r [(0, 2147483647), (2147483648, 2147483648), (2147483649, 2147483649), (2147483650, 4294967295)] ⟨(kd_hold_arg [(3, 259, 259), (0, 0, 2147483647), (2, 0, 18446744073709551615)] [(0, 2147483648), (2147483649, 2147483649), (2147483650, 2147483650), (2147483651, 2147483651), (2147483652, 2147483652), (2147483653, 2147483653), (2147483654, 2147483654), (2147483655, 2147483655), (2147483656, 2147483656), (2147483657, 4294967295)] (by decide +kernel) (kd_al_r [(0, 2147483648), (2147483649, 2147483649), (2147483650, 2147483650), (2147483651, 2147483651), (2147483652, 2147483652), (2147483653, 2147483653), (2147483654, 2147483654), (2147483655, 2147483655), (2147483656, 2147483656), (2147483657, 4294967295)] ⟨(kd_hold_le (kd_h56q0 hg) (by decide)), (kd_hold_le (kd_h56q1 hg) (by decide)), (kd_hold_le (kd_h56q2 hg) (by decide)), (kd_hold_le (kd_h56q3 hg) (by decide)), (kd_hold_le (kd_h56q4 hg) (by decide)), (kd_hold_le (kd_h56q5 hg) (by decide)), (kd_hold_le (kd_h56q6 hg) (by decide)), (kd_hold_le (kd_h56q7 hg) (by decide)), (kd_hold_le (kd_h56q8 hg) (by decide)), (kd_hold_le (kd_h56q9 hg) (by decide)), trivial⟩)), (kd_hold_arg [(3, 259, 259), (0, 2147483648, 2147483648), (2, 0, 18446744073709551615)] [(0, 2147483648), (2147483649, 2147483649), (2147483650, 2147483650), (2147483651, 2147483651), (2147483652, 2147483652), (2147483653, 2147483653), (2147483654, 2147483654), (2147483655, 2147483655), (2147483656, 2147483656), (2147483657, 4294967295)] (by decide +kernel) (kd_al_r [(0, 2147483648), (2147483649, 2147483649), (2147483650, 2147483650), (2147483651, 2147483651), (2147483652, 2147483652), (2147483653, 2147483653), (2147483654, 2147483654), (2147483655, 2147483655), (2147483656, 2147483656), (2147483657, 4294967295)] ⟨(kd_hold_le (kd_h56q10 hg) (by decide)), (kd_hold_le (kd_h56q11 hg) (by decide)), (kd_hold_le (kd_h56q12 hg) (by decide)), (kd_hold_le (kd_h56q13 hg) (by decide)), (kd_hold_le (kd_h56q14 hg) (by decide)), (kd_hold_le (kd_h56q15 hg) (by decide)), (kd_hold_le (kd_h56q16 hg) (by decide)), (kd_hold_le (kd_h56q17 hg) (by decide)), (kd_hold_le (kd_h56q18 hg) (by decide)), (kd_hold_le (kd_h56q19 hg) (by decide)), trivial⟩)), (kd_hold_arg [(3, 259, 259), (0, 2147483649, 2147483649), (2, 0, 18446744073709551615)] [(0, 2147483648), (2147483649, 2147483649), (2147483650, 2147483650), (2147483651, 2147483651), (2147483652, 2147483652), (2147483653, 2147483653), (2147483654, 2147483654), (2147483655, 2147483655), (2147483656, 2147483656), (2147483657, 4294967295)] (by decide +kernel) (kd_al_r [(0, 2147483648), (2147483649, 2147483649), (2147483650, 2147483650), (2147483651, 2147483651), (2147483652, 2147483652), (2147483653, 2147483653), (2147483654, 2147483654), (2147483655, 2147483655), (2147483656, 2147483656), (2147483657, 4294967295)] ⟨(kd_hold_le (kd_h56q20 hg) (by decide)), (kd_hold_le (kd_h56q21 hg) (by decide)), (kd_hold_le (kd_h56q22 hg) (by decide)), (kd_hold_le (kd_h56q23 hg) (by decide)), (kd_hold_le (kd_h56q24 hg) (by decide)), (kd_hold_le (kd_h56q25 hg) (by decide)), (kd_hold_le (kd_h56q26 hg) (by decide)), (kd_hold_le (kd_h56q27 hg) (by decide)), (kd_hold_le (kd_h56q28 hg) (by decide)), (kd_hold_le (kd_h56q29 hg) (by decide)), trivial⟩)), (kd_hold_arg [(3, 259, 259), (0, 2147483650, 4294967295), (2, 0, 18446744073709551615)] [(0, 2147483648), (2147483649, 2147483649), (2147483650, 2147483650), (2147483651, 2147483651), (2147483652, 2147483652), (2147483653, 2147483653), (2147483654, 2147483654), (2147483655, 2147483655), (2147483656, 2147483656), (2147483657, 4294967295)] (by decide +kernel) (kd_al_r [(0, 2147483648), (2147483649, 2147483649), (2147483650, 2147483650), (2147483651, 2147483651), (2147483652, 2147483652), (2147483653, 2147483653), (2147483654, 2147483654), (2147483655, 2147483655), (2147483656, 2147483656), (2147483657, 4294967295)] ⟨(kd_hold_le (kd_h56q30 hg) (by decide)), (kd_hold_le (kd_h56q31 hg) (by decide)), (kd_hold_le (kd_h56q32 hg) (by decide)), (kd_hold_le (kd_h56q33 hg) (by decide)), (kd_hold_le (kd_h56q34 hg) (by decide)), (kd_hold_le (kd_h56q35 hg) (by decide)), (kd_hold_le (kd_h56q36 hg) (by decide)), (kd_hold_le (kd_h56q37 hg) (by decide)), (kd_hold_le (kd_h56q38 hg) (by decide)), (kd_hold_le (kd_h56q39 hg) (by decide)), trivial⟩)), trivial⟩)
def kd_P257 : List kd_P := [(some (0, 2147483648, 2147484638), [], [])]
def kd_T257 : kd_Tc := ([(3, 259, 259), (0, 0, 4294967295), (0, 0, 4294967295)], [], kd_P257)
def kd_C257 : List (Nat × kd_Tc) := [(237, kd_T237k0)]
def kd_S257_0 : kd_St := (5, [(0, 4294967295), (0, 4294967295)], 2, [(3, 259, 259), (1, 0, 2147483648), (1, 1, 2147483648), (0, 2147483648, 2147483648), (0, 2147483648, 2147483648), (9, 0, 0)], [], [], [(0, (0, 6, 6)), (0, (0, 2147483648, 2147483648))])
def kd_S257_1 : kd_St := (5, [(2147483649, 2147483658), (2147483648, 2147483747), (2147483549, 2147483747), (0, 4294967295), (0, 4294967295)], 5, [(3, 259, 259), (1, 0, 2147483648), (1, 1, 2147483648), (1, 2, 2147483648), (0, 2147483649, 2147483649), (1, 3, 2147483648)], [(260, 2, (1, 4, 2147483648))], [], [(0, (0, 6, 6)), (0, (0, 2147483649, 2147483649))])
def kd_S257_2 : kd_St := (5, [(2147483650, 2147483658), (2147483648, 2147483747), (2147483450, 2147483846), (0, 4294967295), (0, 4294967295)], 5, [(3, 259, 259), (1, 0, 2147483648), (1, 1, 2147483648), (1, 2, 2147483648), (0, 2147483650, 2147483650), (1, 3, 2147483648)], [(260, 2, (1, 4, 2147483648))], [], [(0, (0, 6, 6)), (0, (0, 2147483650, 2147483650))])
def kd_S257_3 : kd_St := (5, [(2147483651, 2147483658), (2147483648, 2147483747), (2147483351, 2147483945), (0, 4294967295), (0, 4294967295)], 5, [(3, 259, 259), (1, 0, 2147483648), (1, 1, 2147483648), (1, 2, 2147483648), (0, 2147483651, 2147483651), (1, 3, 2147483648)], [(260, 2, (1, 4, 2147483648))], [], [(0, (0, 6, 6)), (0, (0, 2147483651, 2147483651))])
def kd_S257_4 : kd_St := (5, [(2147483652, 2147483658), (2147483648, 2147483747), (2147483252, 2147484044), (0, 4294967295), (0, 4294967295)], 5, [(3, 259, 259), (1, 0, 2147483648), (1, 1, 2147483648), (1, 2, 2147483648), (0, 2147483652, 2147483652), (1, 3, 2147483648)], [(260, 2, (1, 4, 2147483648))], [], [(0, (0, 6, 6)), (0, (0, 2147483652, 2147483652))])
def kd_S257_5 : kd_St := (5, [(2147483653, 2147483658), (2147483648, 2147483747), (2147483153, 2147484143), (0, 4294967295), (0, 4294967295)], 5, [(3, 259, 259), (1, 0, 2147483648), (1, 1, 2147483648), (1, 2, 2147483648), (0, 2147483653, 2147483653), (1, 3, 2147483648)], [(260, 2, (1, 4, 2147483648))], [], [(0, (0, 6, 6)), (0, (0, 2147483653, 2147483653))])
def kd_S257_6 : kd_St := (5, [(2147483654, 2147483658), (2147483648, 2147483747), (2147483054, 2147484242), (0, 4294967295), (0, 4294967295)], 5, [(3, 259, 259), (1, 0, 2147483648), (1, 1, 2147483648), (1, 2, 2147483648), (0, 2147483654, 2147483654), (1, 3, 2147483648)], [(260, 2, (1, 4, 2147483648))], [], [(0, (0, 6, 6)), (0, (0, 2147483654, 2147483654))])
def kd_S257_7 : kd_St := (5, [(2147483655, 2147483658), (2147483648, 2147483747), (2147482955, 2147484341), (0, 4294967295), (0, 4294967295)], 5, [(3, 259, 259), (1, 0, 2147483648), (1, 1, 2147483648), (1, 2, 2147483648), (0, 2147483655, 2147483655), (1, 3, 2147483648)], [(260, 2, (1, 4, 2147483648))], [], [(0, (0, 6, 6)), (0, (0, 2147483655, 2147483655))])
def kd_S257_8 : kd_St := (5, [(2147483656, 2147483658), (2147483648, 2147483747), (2147482856, 2147484440), (0, 4294967295), (0, 4294967295)], 5, [(3, 259, 259), (1, 0, 2147483648), (1, 1, 2147483648), (1, 2, 2147483648), (0, 2147483656, 2147483656), (1, 3, 2147483648)], [(260, 2, (1, 4, 2147483648))], [], [(0, (0, 6, 6)), (0, (0, 2147483656, 2147483656))])
def kd_S257_9 : kd_St := (5, [(2147483657, 2147483658), (2147483648, 2147483747), (2147482757, 2147484539), (0, 4294967295), (0, 4294967295)], 5, [(3, 259, 259), (1, 0, 2147483648), (1, 1, 2147483648), (1, 2, 2147483648), (0, 2147483657, 2147483657), (1, 3, 2147483648)], [(260, 2, (1, 4, 2147483648))], [], [(0, (0, 6, 6)), (0, (0, 2147483657, 2147483657))])
def kd_S257_10 : kd_St := (5, [(2147483648, 2147483747), (2147482658, 2147484638), (0, 4294967295), (0, 4294967295)], 4, [(3, 259, 259), (1, 0, 2147483648), (1, 1, 2147483648), (1, 2, 2147483648), (0, 2147483658, 2147483658), (1, 3, 2147483648)], [(260, 2, (0, 2147483658, 2147483658))], [], [(0, (0, 6, 6)), (0, (0, 2147483658, 2147483658))])
def kd_S257 : List kd_St := [kd_S257_0, kd_S257_1, kd_S257_2, kd_S257_3, kd_S257_4, kd_S257_5, kd_S257_6, kd_S257_7, kd_S257_8, kd_S257_9, kd_S257_10]
theorem kd_e257 : kd_run0 kd_ty kd_x257 6 (kd_call kd_ty kd_xt (kd_ctl kd_C257) 600 0) kd_T257 600 kd_S257 = true := by decide +kernel
theorem kd_r257_0 : kd_run1 kd_ty kd_x257 6 (kd_call kd_ty kd_xt (kd_ctl kd_C257) 600 0) kd_T257.2.2 600 kd_S257 kd_S257_0 = true := by decide +kernel
theorem kd_r257_1 : kd_run1 kd_ty kd_x257 6 (kd_call kd_ty kd_xt (kd_ctl kd_C257) 600 0) kd_T257.2.2 600 kd_S257 kd_S257_1 = true := by decide +kernel
theorem kd_r257_2 : kd_run1 kd_ty kd_x257 6 (kd_call kd_ty kd_xt (kd_ctl kd_C257) 600 0) kd_T257.2.2 600 kd_S257 kd_S257_2 = true := by decide +kernel
theorem kd_r257_3 : kd_run1 kd_ty kd_x257 6 (kd_call kd_ty kd_xt (kd_ctl kd_C257) 600 0) kd_T257.2.2 600 kd_S257 kd_S257_3 = true := by decide +kernel
theorem kd_r257_4 : kd_run1 kd_ty kd_x257 6 (kd_call kd_ty kd_xt (kd_ctl kd_C257) 600 0) kd_T257.2.2 600 kd_S257 kd_S257_4 = true := by decide +kernel
theorem kd_r257_5 : kd_run1 kd_ty kd_x257 6 (kd_call kd_ty kd_xt (kd_ctl kd_C257) 600 0) kd_T257.2.2 600 kd_S257 kd_S257_5 = true := by decide +kernel
theorem kd_r257_6 : kd_run1 kd_ty kd_x257 6 (kd_call kd_ty kd_xt (kd_ctl kd_C257) 600 0) kd_T257.2.2 600 kd_S257 kd_S257_6 = true := by decide +kernel
theorem kd_r257_7 : kd_run1 kd_ty kd_x257 6 (kd_call kd_ty kd_xt (kd_ctl kd_C257) 600 0) kd_T257.2.2 600 kd_S257 kd_S257_7 = true := by decide +kernel
theorem kd_r257_8 : kd_run1 kd_ty kd_x257 6 (kd_call kd_ty kd_xt (kd_ctl kd_C257) 600 0) kd_T257.2.2 600 kd_S257 kd_S257_8 = true := by decide +kernel
theorem kd_r257_9 : kd_run1 kd_ty kd_x257 6 (kd_call kd_ty kd_xt (kd_ctl kd_C257) 600 0) kd_T257.2.2 600 kd_S257 kd_S257_9 = true := by decide +kernel
theorem kd_r257_10 : kd_run1 kd_ty kd_x257 6 (kd_call kd_ty kd_xt (kd_ctl kd_C257) 600 0) kd_T257.2.2 600 kd_S257 kd_S257_10 = true := by decide +kernel
theorem kd_h257 {g : kc_G} (hg : kc_ok g) : kd_hold g 2 kd_ty 257 kd_T257 := kd_mk (d0 := 1) (di := 0) hg kd_xk257 rfl rfl rfl rfl (kd_al_r kd_C257 ⟨kd_hold_le (kd_h237k0 hg) (by decide), trivial⟩) (by decide) (by decide +kernel) kd_e257 (kd_al_r kd_S257 ⟨kd_r257_0, kd_r257_1, kd_r257_2, kd_r257_3, kd_r257_4, kd_r257_5, kd_r257_6, kd_r257_7, kd_r257_8, kd_r257_9, kd_r257_10, trivial⟩)
def kd_P87 : List kd_P := [(some (0, 0, 4294967295), [], [])]
def kd_T87 : kd_Tc := ([(3, 259, 259), (0, 0, 4294967295), (0, 0, 4294967295)], [], kd_P87)
def kd_C87 : List (Nat × kd_Tc) := [(257, kd_T257)]
def kd_S87_0 : kd_St := (36, [(2147483648, 2148483648), (2147483647, 2148483647), (0, 4294967295), (2147483648, 2148483648), (2147483648, 2147483650), (2147483649, 2148483647)], 6, [(3, 259, 259), (1, 0, 2147483648), (1, 1, 2147483648), (1, 2, 2147483648), (1, 3, 2147483648), (1, 4, 2147483648), (1, 5, 2147483648), (9, 0, 0)], [], [], [(0, (0, 37, 37)), (0, (1, 5, 2147483648))])
def kd_S87 : List kd_St := [kd_S87_0]
theorem kd_e87 : kd_run0 kd_ty kd_x87 8 (kd_call kd_ty kd_xt (kd_ctl kd_C87) 600 2) kd_T87 600 kd_S87 = true := by decide +kernel
theorem kd_r87_0 : kd_run1 kd_ty kd_x87 8 (kd_call kd_ty kd_xt (kd_ctl kd_C87) 600 2) kd_T87.2.2 600 kd_S87 kd_S87_0 = true := by decide +kernel
theorem kd_h87 {g : kc_G} (hg : kc_ok g) : kd_hold g 5 kd_ty 87 kd_T87 := kd_mk (d0 := 2) (di := 2) hg kd_xk87 rfl rfl rfl rfl (kd_al_r kd_C87 ⟨kd_hold_le (kd_h257 hg) (by decide), trivial⟩) (by decide) (by decide +kernel) kd_e87 (kd_al_r kd_S87 ⟨kd_r87_0, trivial⟩)
def kd_P90 : List kd_P := [(some (0, 2147483646, 2148483647), [], [])]
def kd_T90 : kd_Tc := ([(3, 259, 259), (0, 0, 4294967295), (0, 0, 4294967295)], [], kd_P90)
def kd_C90 : List (Nat × kd_Tc) := [(257, kd_T257)]
def kd_S90_0 : kd_St := (30, [(2147483648, 2148483648), (2147483648, 2148483648), (2147483648, 2147483747), (2147483649, 2148483647)], 4, [(3, 259, 259), (1, 0, 2147483648), (1, 1, 2147483648), (1, 2, 2147483648), (1, 3, 2147483648), (9, 0, 0), (9, 0, 0)], [], [], [(0, (0, 31, 31)), (0, (1, 3, 2147483648)), (0, (0, 0, 0)), (0, (0, 0, 0))])
def kd_S90_1 : kd_St := (61, [(2147483648, 2147483748), (2147483647, 2147484638), (2147483648, 2148483647), (2147483648, 2148483648), (2147483648, 2147483747), (2147483649, 2148483647)], 6, [(3, 259, 259), (1, 0, 2147483648), (1, 1, 2147483648), (1, 2, 2147483648), (1, 3, 2147483648), (1, 4, 2147483648), (1, 5, 2147483648)], [], [], [(0, (0, 31, 31)), (0, (1, 3, 2147483648)), (0, (0, 62, 62)), (0, (1, 5, 2147483648))])
def kd_S90 : List kd_St := [kd_S90_0, kd_S90_1]
theorem kd_e90 : kd_run0 kd_ty kd_x90 7 (kd_call kd_ty kd_xt (kd_ctl kd_C90) 600 2) kd_T90 600 kd_S90 = true := by decide +kernel
theorem kd_r90_0 : kd_run1 kd_ty kd_x90 7 (kd_call kd_ty kd_xt (kd_ctl kd_C90) 600 2) kd_T90.2.2 600 kd_S90 kd_S90_0 = true := by decide +kernel
theorem kd_r90_1 : kd_run1 kd_ty kd_x90 7 (kd_call kd_ty kd_xt (kd_ctl kd_C90) 600 2) kd_T90.2.2 600 kd_S90 kd_S90_1 = true := by decide +kernel
theorem kd_h90 {g : kc_G} (hg : kc_ok g) : kd_hold g 5 kd_ty 90 kd_T90 := kd_mk (d0 := 2) (di := 2) hg kd_xk90 rfl rfl rfl rfl (kd_al_r kd_C90 ⟨kd_hold_le (kd_h257 hg) (by decide), trivial⟩) (by decide) (by decide +kernel) kd_e90 (kd_al_r kd_S90 ⟨kd_r90_0, kd_r90_1, trivial⟩)
def kd_P245 : List kd_P := [(some (0, 0, 4294967295), [], [])]
def kd_T245q0 : kd_Tc := ([(3, 259, 259), (0, 2147483648, 2147483648)], [], kd_P245)
def kd_C245q0 : List (Nat × kd_Tc) := [(243, kd_T243)]
def kd_S245q0_0 : kd_St := (16, [(0, 4294967295)], 1, [(3, 259, 259), (0, 2147483648, 2147483648), (1, 0, 2147483648), (0, 2147483648, 2147483648)], [], [], [(0, (0, 17, 17)), (0, (0, 2147483648, 2147483648))])
def kd_S245q0_1 : kd_St := (16, [(2147483649, 2147483651), (0, 4294967295)], 2, [(3, 259, 259), (0, 2147483648, 2147483648), (1, 0, 2147483648), (0, 2147483649, 2147483649)], [(268, 0, (1, 1, 2147483648))], [], [(0, (0, 17, 17)), (0, (0, 2147483649, 2147483649))])
def kd_S245q0_2 : kd_St := (16, [(2147483650, 2147483651), (0, 4294967295)], 2, [(3, 259, 259), (0, 2147483648, 2147483648), (1, 0, 2147483648), (0, 2147483650, 2147483650)], [(268, 0, (1, 1, 2147483648))], [], [(0, (0, 17, 17)), (0, (0, 2147483650, 2147483650))])
def kd_S245q0_3 : kd_St := (16, [(0, 4294967295)], 1, [(3, 259, 259), (0, 2147483648, 2147483648), (1, 0, 2147483648), (0, 2147483651, 2147483651)], [(268, 0, (0, 2147483651, 2147483651))], [], [(0, (0, 17, 17)), (0, (0, 2147483651, 2147483651))])
def kd_S245q0 : List kd_St := [kd_S245q0_0, kd_S245q0_1, kd_S245q0_2, kd_S245q0_3]
theorem kd_e245q0 : kd_run0 kd_ty kd_x245 4 (kd_call kd_ty kd_xt (kd_ctl kd_C245q0) 600 0) kd_T245q0 600 kd_S245q0 = true := by decide +kernel
theorem kd_r245q0_0 : kd_run1 kd_ty kd_x245 4 (kd_call kd_ty kd_xt (kd_ctl kd_C245q0) 600 0) kd_T245q0.2.2 600 kd_S245q0 kd_S245q0_0 = true := by decide +kernel
theorem kd_r245q0_1 : kd_run1 kd_ty kd_x245 4 (kd_call kd_ty kd_xt (kd_ctl kd_C245q0) 600 0) kd_T245q0.2.2 600 kd_S245q0 kd_S245q0_1 = true := by decide +kernel
theorem kd_r245q0_2 : kd_run1 kd_ty kd_x245 4 (kd_call kd_ty kd_xt (kd_ctl kd_C245q0) 600 0) kd_T245q0.2.2 600 kd_S245q0 kd_S245q0_2 = true := by decide +kernel
theorem kd_r245q0_3 : kd_run1 kd_ty kd_x245 4 (kd_call kd_ty kd_xt (kd_ctl kd_C245q0) 600 0) kd_T245q0.2.2 600 kd_S245q0 kd_S245q0_3 = true := by decide +kernel
theorem kd_h245q0 {g : kc_G} (hg : kc_ok g) : kd_hold g 3 kd_ty 245 kd_T245q0 := kd_mk (d0 := 2) (di := 0) hg kd_xk245 rfl rfl rfl rfl (kd_al_r kd_C245q0 ⟨kd_hold_le (kd_h243 hg) (by decide), trivial⟩) (by decide) (by decide +kernel) kd_e245q0 (kd_al_r kd_S245q0 ⟨kd_r245q0_0, kd_r245q0_1, kd_r245q0_2, kd_r245q0_3, trivial⟩)
def kd_T245q1 : kd_Tc := ([(3, 259, 259), (0, 2147483649, 2147483649)], [], kd_P245)
def kd_C245q1 : List (Nat × kd_Tc) := [(243, kd_T243)]
def kd_S245q1_0 : kd_St := (16, [(0, 4294967295)], 1, [(3, 259, 259), (0, 2147483649, 2147483649), (1, 0, 2147483648), (0, 2147483648, 2147483648)], [], [], [(0, (0, 17, 17)), (0, (0, 2147483648, 2147483648))])
def kd_S245q1_1 : kd_St := (16, [(2147483649, 2147483651), (0, 4294967295)], 2, [(3, 259, 259), (0, 2147483649, 2147483649), (1, 0, 2147483648), (0, 2147483649, 2147483649)], [(268, 1, (1, 1, 2147483648))], [], [(0, (0, 17, 17)), (0, (0, 2147483649, 2147483649))])
def kd_S245q1_2 : kd_St := (16, [(2147483650, 2147483651), (0, 4294967295)], 2, [(3, 259, 259), (0, 2147483649, 2147483649), (1, 0, 2147483648), (0, 2147483650, 2147483650)], [(268, 1, (1, 1, 2147483648))], [], [(0, (0, 17, 17)), (0, (0, 2147483650, 2147483650))])
def kd_S245q1_3 : kd_St := (16, [(0, 4294967295)], 1, [(3, 259, 259), (0, 2147483649, 2147483649), (1, 0, 2147483648), (0, 2147483651, 2147483651)], [(268, 1, (0, 2147483651, 2147483651))], [], [(0, (0, 17, 17)), (0, (0, 2147483651, 2147483651))])
def kd_S245q1 : List kd_St := [kd_S245q1_0, kd_S245q1_1, kd_S245q1_2, kd_S245q1_3]
theorem kd_e245q1 : kd_run0 kd_ty kd_x245 4 (kd_call kd_ty kd_xt (kd_ctl kd_C245q1) 600 0) kd_T245q1 600 kd_S245q1 = true := by decide +kernel
theorem kd_r245q1_0 : kd_run1 kd_ty kd_x245 4 (kd_call kd_ty kd_xt (kd_ctl kd_C245q1) 600 0) kd_T245q1.2.2 600 kd_S245q1 kd_S245q1_0 = true := by decide +kernel
theorem kd_r245q1_1 : kd_run1 kd_ty kd_x245 4 (kd_call kd_ty kd_xt (kd_ctl kd_C245q1) 600 0) kd_T245q1.2.2 600 kd_S245q1 kd_S245q1_1 = true := by decide +kernel
theorem kd_r245q1_2 : kd_run1 kd_ty kd_x245 4 (kd_call kd_ty kd_xt (kd_ctl kd_C245q1) 600 0) kd_T245q1.2.2 600 kd_S245q1 kd_S245q1_2 = true := by decide +kernel
theorem kd_r245q1_3 : kd_run1 kd_ty kd_x245 4 (kd_call kd_ty kd_xt (kd_ctl kd_C245q1) 600 0) kd_T245q1.2.2 600 kd_S245q1 kd_S245q1_3 = true := by decide +kernel
theorem kd_h245q1 {g : kc_G} (hg : kc_ok g) : kd_hold g 3 kd_ty 245 kd_T245q1 := kd_mk (d0 := 2) (di := 0) hg kd_xk245 rfl rfl rfl rfl (kd_al_r kd_C245q1 ⟨kd_hold_le (kd_h243 hg) (by decide), trivial⟩) (by decide) (by decide +kernel) kd_e245q1 (kd_al_r kd_S245q1 ⟨kd_r245q1_0, kd_r245q1_1, kd_r245q1_2, kd_r245q1_3, trivial⟩)
def kd_T245q2 : kd_Tc := ([(3, 259, 259), (0, 2147483650, 2147483650)], [], kd_P245)
def kd_C245q2 : List (Nat × kd_Tc) := [(243, kd_T243)]
def kd_S245q2_0 : kd_St := (16, [(0, 4294967295)], 1, [(3, 259, 259), (0, 2147483650, 2147483650), (1, 0, 2147483648), (0, 2147483648, 2147483648)], [], [], [(0, (0, 17, 17)), (0, (0, 2147483648, 2147483648))])
def kd_S245q2_1 : kd_St := (16, [(2147483649, 2147483651), (0, 4294967295)], 2, [(3, 259, 259), (0, 2147483650, 2147483650), (1, 0, 2147483648), (0, 2147483649, 2147483649)], [(268, 2, (1, 1, 2147483648))], [], [(0, (0, 17, 17)), (0, (0, 2147483649, 2147483649))])
def kd_S245q2_2 : kd_St := (16, [(2147483650, 2147483651), (0, 4294967295)], 2, [(3, 259, 259), (0, 2147483650, 2147483650), (1, 0, 2147483648), (0, 2147483650, 2147483650)], [(268, 2, (1, 1, 2147483648))], [], [(0, (0, 17, 17)), (0, (0, 2147483650, 2147483650))])
def kd_S245q2_3 : kd_St := (16, [(0, 4294967295)], 1, [(3, 259, 259), (0, 2147483650, 2147483650), (1, 0, 2147483648), (0, 2147483651, 2147483651)], [(268, 2, (0, 2147483651, 2147483651))], [], [(0, (0, 17, 17)), (0, (0, 2147483651, 2147483651))])
def kd_S245q2 : List kd_St := [kd_S245q2_0, kd_S245q2_1, kd_S245q2_2, kd_S245q2_3]
theorem kd_e245q2 : kd_run0 kd_ty kd_x245 4 (kd_call kd_ty kd_xt (kd_ctl kd_C245q2) 600 0) kd_T245q2 600 kd_S245q2 = true := by decide +kernel
theorem kd_r245q2_0 : kd_run1 kd_ty kd_x245 4 (kd_call kd_ty kd_xt (kd_ctl kd_C245q2) 600 0) kd_T245q2.2.2 600 kd_S245q2 kd_S245q2_0 = true := by decide +kernel
theorem kd_r245q2_1 : kd_run1 kd_ty kd_x245 4 (kd_call kd_ty kd_xt (kd_ctl kd_C245q2) 600 0) kd_T245q2.2.2 600 kd_S245q2 kd_S245q2_1 = true := by decide +kernel
theorem kd_r245q2_2 : kd_run1 kd_ty kd_x245 4 (kd_call kd_ty kd_xt (kd_ctl kd_C245q2) 600 0) kd_T245q2.2.2 600 kd_S245q2 kd_S245q2_2 = true := by decide +kernel
theorem kd_r245q2_3 : kd_run1 kd_ty kd_x245 4 (kd_call kd_ty kd_xt (kd_ctl kd_C245q2) 600 0) kd_T245q2.2.2 600 kd_S245q2 kd_S245q2_3 = true := by decide +kernel
theorem kd_h245q2 {g : kc_G} (hg : kc_ok g) : kd_hold g 3 kd_ty 245 kd_T245q2 := kd_mk (d0 := 2) (di := 0) hg kd_xk245 rfl rfl rfl rfl (kd_al_r kd_C245q2 ⟨kd_hold_le (kd_h243 hg) (by decide), trivial⟩) (by decide) (by decide +kernel) kd_e245q2 (kd_al_r kd_S245q2 ⟨kd_r245q2_0, kd_r245q2_1, kd_r245q2_2, kd_r245q2_3, trivial⟩)
def kd_T245q3 : kd_Tc := ([(3, 259, 259), (0, 2147483651, 2147483651)], [], kd_P245)
def kd_C245q3 : List (Nat × kd_Tc) := [(243, kd_T243)]
def kd_S245q3_0 : kd_St := (16, [(0, 4294967295)], 1, [(3, 259, 259), (0, 2147483651, 2147483651), (1, 0, 2147483648), (0, 2147483648, 2147483648)], [], [], [(0, (0, 17, 17)), (0, (0, 2147483648, 2147483648))])
def kd_S245q3_1 : kd_St := (16, [(2147483649, 2147483651), (0, 4294967295)], 2, [(3, 259, 259), (0, 2147483651, 2147483651), (1, 0, 2147483648), (0, 2147483649, 2147483649)], [(268, 3, (1, 1, 2147483648))], [], [(0, (0, 17, 17)), (0, (0, 2147483649, 2147483649))])
def kd_S245q3_2 : kd_St := (16, [(2147483650, 2147483651), (0, 4294967295)], 2, [(3, 259, 259), (0, 2147483651, 2147483651), (1, 0, 2147483648), (0, 2147483650, 2147483650)], [(268, 3, (1, 1, 2147483648))], [], [(0, (0, 17, 17)), (0, (0, 2147483650, 2147483650))])
def kd_S245q3_3 : kd_St := (16, [(0, 4294967295)], 1, [(3, 259, 259), (0, 2147483651, 2147483651), (1, 0, 2147483648), (0, 2147483651, 2147483651)], [(268, 3, (0, 2147483651, 2147483651))], [], [(0, (0, 17, 17)), (0, (0, 2147483651, 2147483651))])
def kd_S245q3 : List kd_St := [kd_S245q3_0, kd_S245q3_1, kd_S245q3_2, kd_S245q3_3]
theorem kd_e245q3 : kd_run0 kd_ty kd_x245 4 (kd_call kd_ty kd_xt (kd_ctl kd_C245q3) 600 0) kd_T245q3 600 kd_S245q3 = true := by decide +kernel
theorem kd_r245q3_0 : kd_run1 kd_ty kd_x245 4 (kd_call kd_ty kd_xt (kd_ctl kd_C245q3) 600 0) kd_T245q3.2.2 600 kd_S245q3 kd_S245q3_0 = true := by decide +kernel
theorem kd_r245q3_1 : kd_run1 kd_ty kd_x245 4 (kd_call kd_ty kd_xt (kd_ctl kd_C245q3) 600 0) kd_T245q3.2.2 600 kd_S245q3 kd_S245q3_1 = true := by decide +kernel
theorem kd_r245q3_2 : kd_run1 kd_ty kd_x245 4 (kd_call kd_ty kd_xt (kd_ctl kd_C245q3) 600 0) kd_T245q3.2.2 600 kd_S245q3 kd_S245q3_2 = true := by decide +kernel
theorem kd_r245q3_3 : kd_run1 kd_ty kd_x245 4 (kd_call kd_ty kd_xt (kd_ctl kd_C245q3) 600 0) kd_T245q3.2.2 600 kd_S245q3 kd_S245q3_3 = true := by decide +kernel
theorem kd_h245q3 {g : kc_G} (hg : kc_ok g) : kd_hold g 3 kd_ty 245 kd_T245q3 := kd_mk (d0 := 2) (di := 0) hg kd_xk245 rfl rfl rfl rfl (kd_al_r kd_C245q3 ⟨kd_hold_le (kd_h243 hg) (by decide), trivial⟩) (by decide) (by decide +kernel) kd_e245q3 (kd_al_r kd_S245q3 ⟨kd_r245q3_0, kd_r245q3_1, kd_r245q3_2, kd_r245q3_3, trivial⟩)
def kd_T245q4 : kd_Tc := ([(3, 259, 259), (0, 2147483652, 2147483652)], [], kd_P245)
def kd_C245q4 : List (Nat × kd_Tc) := [(243, kd_T243)]
def kd_S245q4_0 : kd_St := (16, [(0, 4294967295)], 1, [(3, 259, 259), (0, 2147483652, 2147483652), (1, 0, 2147483648), (0, 2147483648, 2147483648)], [], [], [(0, (0, 17, 17)), (0, (0, 2147483648, 2147483648))])
def kd_S245q4_1 : kd_St := (16, [(2147483649, 2147483651), (0, 4294967295)], 2, [(3, 259, 259), (0, 2147483652, 2147483652), (1, 0, 2147483648), (0, 2147483649, 2147483649)], [(268, 4, (1, 1, 2147483648))], [], [(0, (0, 17, 17)), (0, (0, 2147483649, 2147483649))])
def kd_S245q4_2 : kd_St := (16, [(2147483650, 2147483651), (0, 4294967295)], 2, [(3, 259, 259), (0, 2147483652, 2147483652), (1, 0, 2147483648), (0, 2147483650, 2147483650)], [(268, 4, (1, 1, 2147483648))], [], [(0, (0, 17, 17)), (0, (0, 2147483650, 2147483650))])
def kd_S245q4_3 : kd_St := (16, [(0, 4294967295)], 1, [(3, 259, 259), (0, 2147483652, 2147483652), (1, 0, 2147483648), (0, 2147483651, 2147483651)], [(268, 4, (0, 2147483651, 2147483651))], [], [(0, (0, 17, 17)), (0, (0, 2147483651, 2147483651))])
def kd_S245q4 : List kd_St := [kd_S245q4_0, kd_S245q4_1, kd_S245q4_2, kd_S245q4_3]
theorem kd_e245q4 : kd_run0 kd_ty kd_x245 4 (kd_call kd_ty kd_xt (kd_ctl kd_C245q4) 600 0) kd_T245q4 600 kd_S245q4 = true := by decide +kernel
theorem kd_r245q4_0 : kd_run1 kd_ty kd_x245 4 (kd_call kd_ty kd_xt (kd_ctl kd_C245q4) 600 0) kd_T245q4.2.2 600 kd_S245q4 kd_S245q4_0 = true := by decide +kernel
theorem kd_r245q4_1 : kd_run1 kd_ty kd_x245 4 (kd_call kd_ty kd_xt (kd_ctl kd_C245q4) 600 0) kd_T245q4.2.2 600 kd_S245q4 kd_S245q4_1 = true := by decide +kernel
theorem kd_r245q4_2 : kd_run1 kd_ty kd_x245 4 (kd_call kd_ty kd_xt (kd_ctl kd_C245q4) 600 0) kd_T245q4.2.2 600 kd_S245q4 kd_S245q4_2 = true := by decide +kernel
theorem kd_r245q4_3 : kd_run1 kd_ty kd_x245 4 (kd_call kd_ty kd_xt (kd_ctl kd_C245q4) 600 0) kd_T245q4.2.2 600 kd_S245q4 kd_S245q4_3 = true := by decide +kernel
theorem kd_h245q4 {g : kc_G} (hg : kc_ok g) : kd_hold g 3 kd_ty 245 kd_T245q4 := kd_mk (d0 := 2) (di := 0) hg kd_xk245 rfl rfl rfl rfl (kd_al_r kd_C245q4 ⟨kd_hold_le (kd_h243 hg) (by decide), trivial⟩) (by decide) (by decide +kernel) kd_e245q4 (kd_al_r kd_S245q4 ⟨kd_r245q4_0, kd_r245q4_1, kd_r245q4_2, kd_r245q4_3, trivial⟩)
def kd_T245q5 : kd_Tc := ([(3, 259, 259), (0, 2147483653, 2147483653)], [], kd_P245)
def kd_C245q5 : List (Nat × kd_Tc) := [(243, kd_T243)]
def kd_S245q5_0 : kd_St := (16, [(0, 4294967295)], 1, [(3, 259, 259), (0, 2147483653, 2147483653), (1, 0, 2147483648), (0, 2147483648, 2147483648)], [], [], [(0, (0, 17, 17)), (0, (0, 2147483648, 2147483648))])
def kd_S245q5_1 : kd_St := (16, [(2147483649, 2147483651), (0, 4294967295)], 2, [(3, 259, 259), (0, 2147483653, 2147483653), (1, 0, 2147483648), (0, 2147483649, 2147483649)], [(268, 5, (1, 1, 2147483648))], [], [(0, (0, 17, 17)), (0, (0, 2147483649, 2147483649))])
def kd_S245q5_2 : kd_St := (16, [(2147483650, 2147483651), (0, 4294967295)], 2, [(3, 259, 259), (0, 2147483653, 2147483653), (1, 0, 2147483648), (0, 2147483650, 2147483650)], [(268, 5, (1, 1, 2147483648))], [], [(0, (0, 17, 17)), (0, (0, 2147483650, 2147483650))])
def kd_S245q5_3 : kd_St := (16, [(0, 4294967295)], 1, [(3, 259, 259), (0, 2147483653, 2147483653), (1, 0, 2147483648), (0, 2147483651, 2147483651)], [(268, 5, (0, 2147483651, 2147483651))], [], [(0, (0, 17, 17)), (0, (0, 2147483651, 2147483651))])
def kd_S245q5 : List kd_St := [kd_S245q5_0, kd_S245q5_1, kd_S245q5_2, kd_S245q5_3]
theorem kd_e245q5 : kd_run0 kd_ty kd_x245 4 (kd_call kd_ty kd_xt (kd_ctl kd_C245q5) 600 0) kd_T245q5 600 kd_S245q5 = true := by decide +kernel
theorem kd_r245q5_0 : kd_run1 kd_ty kd_x245 4 (kd_call kd_ty kd_xt (kd_ctl kd_C245q5) 600 0) kd_T245q5.2.2 600 kd_S245q5 kd_S245q5_0 = true := by decide +kernel
theorem kd_r245q5_1 : kd_run1 kd_ty kd_x245 4 (kd_call kd_ty kd_xt (kd_ctl kd_C245q5) 600 0) kd_T245q5.2.2 600 kd_S245q5 kd_S245q5_1 = true := by decide +kernel
theorem kd_r245q5_2 : kd_run1 kd_ty kd_x245 4 (kd_call kd_ty kd_xt (kd_ctl kd_C245q5) 600 0) kd_T245q5.2.2 600 kd_S245q5 kd_S245q5_2 = true := by decide +kernel
theorem kd_r245q5_3 : kd_run1 kd_ty kd_x245 4 (kd_call kd_ty kd_xt (kd_ctl kd_C245q5) 600 0) kd_T245q5.2.2 600 kd_S245q5 kd_S245q5_3 = true := by decide +kernel
theorem kd_h245q5 {g : kc_G} (hg : kc_ok g) : kd_hold g 3 kd_ty 245 kd_T245q5 := kd_mk (d0 := 2) (di := 0) hg kd_xk245 rfl rfl rfl rfl (kd_al_r kd_C245q5 ⟨kd_hold_le (kd_h243 hg) (by decide), trivial⟩) (by decide) (by decide +kernel) kd_e245q5 (kd_al_r kd_S245q5 ⟨kd_r245q5_0, kd_r245q5_1, kd_r245q5_2, kd_r245q5_3, trivial⟩)
def kd_T245 : kd_Tc := ([(3, 259, 259), (0, 2147483648, 2147483653)], [], kd_P245)
theorem kd_h245 {g : kc_G} (hg : kc_ok g) : kd_hold g 3 kd_ty 245 kd_T245 := kd_hold_arg [(3, 259, 259)] [(2147483648, 2147483648), (2147483649, 2147483649), (2147483650, 2147483650), (2147483651, 2147483651), (2147483652, 2147483652), (2147483653, 2147483653)] (by decide +kernel) (kd_al_r [(2147483648, 2147483648), (2147483649, 2147483649), (2147483650, 2147483650), (2147483651, 2147483651), (2147483652, 2147483652), (2147483653, 2147483653)] ⟨(kd_hold_le (kd_h245q0 hg) (by decide)), (kd_hold_le (kd_h245q1 hg) (by decide)), (kd_hold_le (kd_h245q2 hg) (by decide)), (kd_hold_le (kd_h245q3 hg) (by decide)), (kd_hold_le (kd_h245q4 hg) (by decide)), (kd_hold_le (kd_h245q5 hg) (by decide)), trivial⟩)
def kd_P244 : List kd_P := [(some (0, 2147483648, 2147483649), [], [])]
def kd_T244 : kd_Tc := ([(3, 259, 259), (0, 2147483648, 2147483653), (0, 0, 4294967295), (0, 2147483647, 2147483653)], [], kd_P244)
def kd_C244 : List (Nat × kd_Tc) := [(245, kd_T245), (247, kd_T247), (246, kd_T246)]
def kd_S244 : List kd_St := []
theorem kd_e244 : kd_run0 kd_ty kd_x244 6 (kd_call kd_ty kd_xt (kd_ctl kd_C244) 600 0) kd_T244 600 kd_S244 = true := by decide +kernel
theorem kd_h244 {g : kc_G} (hg : kc_ok g) : kd_hold g 4 kd_ty 244 kd_T244 := kd_mk (d0 := 3) (di := 0) hg kd_xk244 rfl rfl rfl rfl (kd_al_r kd_C244 ⟨kd_hold_le (kd_h245 hg) (by decide), kd_hold_le (kd_h247 hg) (by decide), kd_hold_le (kd_h246 hg) (by decide), trivial⟩) (by decide) (by decide +kernel) kd_e244 (kd_al_r kd_S244 trivial)
def kd_P240c0 : List kd_P := [(some (0, 2147483648, 2147483648), [(268, 0, (0, 2147483648, 2147483650))], []), (some (0, 2147483653, 2147483653), [(268, 0, (0, 2147483648, 2147483650))], []), (some (0, 2147483652, 2147483652), [(268, 0, (0, 2147483649, 2147483650))], []), (some (0, 2147483651, 2147483651), [(268, 0, (0, 2147483651, 2147483651))], [])]
def kd_T240c0 : kd_Tc := ([(3, 259, 259), (0, 2147483648, 2147483657), (0, 2147483648, 2147483648), (0, 2147483647, 2147483653)], [], kd_P240c0)
def kd_C240c0 : List (Nat × kd_Tc) := [(244, kd_T244), (243, kd_T243), (241, kd_T241)]
def kd_S240c0 : List kd_St := []
theorem kd_e240c0 : kd_run0 kd_ty kd_x240 4 (kd_call kd_ty kd_xt (kd_ctl kd_C240c0) 600 1) kd_T240c0 600 kd_S240c0 = true := by decide +kernel
theorem kd_h240c0 {g : kc_G} (hg : kc_ok g) : kd_hold g 6 kd_ty 240 kd_T240c0 := kd_mk (d0 := 4) (di := 1) hg kd_xk240 rfl rfl rfl rfl (kd_al_r kd_C240c0 ⟨kd_hold_le (kd_h244 hg) (by decide), kd_hold_le (kd_h243 hg) (by decide), kd_hold_le (kd_h241 hg) (by decide), trivial⟩) (by decide) (by decide +kernel) kd_e240c0 (kd_al_r kd_S240c0 trivial)
def kd_P248c0 : List kd_P := [(none, [], [(268, 268, 0, 0), (267, 267, 0, 2), (266, 266, 0, 9)])]
def kd_T248c0 : kd_Tc := ([(3, 259, 259), (0, 2147483648, 2147483657), (0, 2147483648, 2147483648)], [(268, 0, (0, 2147483648, 2147483650))], kd_P248c0)
def kd_C248c0 : List (Nat × kd_Tc) := []
def kd_S248c0 : List kd_St := []
theorem kd_e248c0 : kd_run0 kd_ty kd_x248 3 (kd_call kd_ty kd_xt (kd_ctl kd_C248c0) 600 0) kd_T248c0 600 kd_S248c0 = true := by decide +kernel
theorem kd_h248c0 {g : kc_G} (hg : kc_ok g) : kd_hold g 1 kd_ty 248 kd_T248c0 := kd_mk (d0 := 0) (di := 0) hg kd_xk248 rfl rfl rfl rfl (kd_al_r kd_C248c0 trivial) (by decide) (by decide +kernel) kd_e248c0 (kd_al_r kd_S248c0 trivial)
def kd_P240c1 : List kd_P := [(some (0, 2147483648, 2147483648), [(268, 1, (0, 2147483648, 2147483650))], []), (some (0, 2147483653, 2147483653), [(268, 1, (0, 2147483648, 2147483650))], []), (some (0, 2147483652, 2147483652), [(268, 1, (0, 2147483649, 2147483650))], []), (some (0, 2147483651, 2147483651), [(268, 1, (0, 2147483651, 2147483651))], [])]
def kd_T240c1 : kd_Tc := ([(3, 259, 259), (0, 2147483648, 2147483657), (0, 2147483649, 2147483649), (0, 2147483647, 2147483653)], [], kd_P240c1)
def kd_C240c1 : List (Nat × kd_Tc) := [(244, kd_T244), (243, kd_T243), (241, kd_T241)]
def kd_S240c1 : List kd_St := []
theorem kd_e240c1 : kd_run0 kd_ty kd_x240 4 (kd_call kd_ty kd_xt (kd_ctl kd_C240c1) 600 1) kd_T240c1 600 kd_S240c1 = true := by decide +kernel
theorem kd_h240c1 {g : kc_G} (hg : kc_ok g) : kd_hold g 6 kd_ty 240 kd_T240c1 := kd_mk (d0 := 4) (di := 1) hg kd_xk240 rfl rfl rfl rfl (kd_al_r kd_C240c1 ⟨kd_hold_le (kd_h244 hg) (by decide), kd_hold_le (kd_h243 hg) (by decide), kd_hold_le (kd_h241 hg) (by decide), trivial⟩) (by decide) (by decide +kernel) kd_e240c1 (kd_al_r kd_S240c1 trivial)
def kd_P248c1 : List kd_P := [(none, [], [(266, 266, 0, 9), (268, 268, 1, 1), (267, 267, 3, 5)])]
def kd_T248c1 : kd_Tc := ([(3, 259, 259), (0, 2147483648, 2147483657), (0, 2147483649, 2147483649)], [(268, 1, (0, 2147483648, 2147483650))], kd_P248c1)
def kd_C248c1 : List (Nat × kd_Tc) := []
def kd_S248c1 : List kd_St := []
theorem kd_e248c1 : kd_run0 kd_ty kd_x248 3 (kd_call kd_ty kd_xt (kd_ctl kd_C248c1) 600 0) kd_T248c1 600 kd_S248c1 = true := by decide +kernel
theorem kd_h248c1 {g : kc_G} (hg : kc_ok g) : kd_hold g 1 kd_ty 248 kd_T248c1 := kd_mk (d0 := 0) (di := 0) hg kd_xk248 rfl rfl rfl rfl (kd_al_r kd_C248c1 trivial) (by decide) (by decide +kernel) kd_e248c1 (kd_al_r kd_S248c1 trivial)
def kd_P240c2 : List kd_P := [(some (0, 2147483648, 2147483648), [(268, 2, (0, 2147483648, 2147483650))], []), (some (0, 2147483653, 2147483653), [(268, 2, (0, 2147483648, 2147483650))], []), (some (0, 2147483652, 2147483652), [(268, 2, (0, 2147483649, 2147483650))], []), (some (0, 2147483651, 2147483651), [(268, 2, (0, 2147483651, 2147483651))], [])]
def kd_T240c2 : kd_Tc := ([(3, 259, 259), (0, 2147483648, 2147483657), (0, 2147483650, 2147483650), (0, 2147483647, 2147483653)], [], kd_P240c2)
def kd_C240c2 : List (Nat × kd_Tc) := [(244, kd_T244), (243, kd_T243), (241, kd_T241)]
def kd_S240c2 : List kd_St := []
theorem kd_e240c2 : kd_run0 kd_ty kd_x240 4 (kd_call kd_ty kd_xt (kd_ctl kd_C240c2) 600 1) kd_T240c2 600 kd_S240c2 = true := by decide +kernel
theorem kd_h240c2 {g : kc_G} (hg : kc_ok g) : kd_hold g 6 kd_ty 240 kd_T240c2 := kd_mk (d0 := 4) (di := 1) hg kd_xk240 rfl rfl rfl rfl (kd_al_r kd_C240c2 ⟨kd_hold_le (kd_h244 hg) (by decide), kd_hold_le (kd_h243 hg) (by decide), kd_hold_le (kd_h241 hg) (by decide), trivial⟩) (by decide) (by decide +kernel) kd_e240c2 (kd_al_r kd_S240c2 trivial)
def kd_P248c2 : List kd_P := [(none, [], [(266, 266, 0, 9), (268, 268, 2, 2), (267, 267, 6, 8)])]
def kd_T248c2 : kd_Tc := ([(3, 259, 259), (0, 2147483648, 2147483657), (0, 2147483650, 2147483650)], [(268, 2, (0, 2147483648, 2147483650))], kd_P248c2)
def kd_C248c2 : List (Nat × kd_Tc) := []
def kd_S248c2 : List kd_St := []
theorem kd_e248c2 : kd_run0 kd_ty kd_x248 3 (kd_call kd_ty kd_xt (kd_ctl kd_C248c2) 600 0) kd_T248c2 600 kd_S248c2 = true := by decide +kernel
theorem kd_h248c2 {g : kc_G} (hg : kc_ok g) : kd_hold g 1 kd_ty 248 kd_T248c2 := kd_mk (d0 := 0) (di := 0) hg kd_xk248 rfl rfl rfl rfl (kd_al_r kd_C248c2 trivial) (by decide) (by decide +kernel) kd_e248c2 (kd_al_r kd_S248c2 trivial)
def kd_P240c3 : List kd_P := [(some (0, 2147483648, 2147483648), [(268, 3, (0, 2147483648, 2147483650))], []), (some (0, 2147483653, 2147483653), [(268, 3, (0, 2147483648, 2147483650))], []), (some (0, 2147483652, 2147483652), [(268, 3, (0, 2147483649, 2147483650))], []), (some (0, 2147483651, 2147483651), [(268, 3, (0, 2147483651, 2147483651))], [])]
def kd_T240c3 : kd_Tc := ([(3, 259, 259), (0, 2147483648, 2147483657), (0, 2147483651, 2147483651), (0, 2147483647, 2147483653)], [], kd_P240c3)
def kd_C240c3 : List (Nat × kd_Tc) := [(244, kd_T244), (243, kd_T243), (241, kd_T241)]
def kd_S240c3 : List kd_St := []
theorem kd_e240c3 : kd_run0 kd_ty kd_x240 4 (kd_call kd_ty kd_xt (kd_ctl kd_C240c3) 600 1) kd_T240c3 600 kd_S240c3 = true := by decide +kernel
theorem kd_h240c3 {g : kc_G} (hg : kc_ok g) : kd_hold g 6 kd_ty 240 kd_T240c3 := kd_mk (d0 := 4) (di := 1) hg kd_xk240 rfl rfl rfl rfl (kd_al_r kd_C240c3 ⟨kd_hold_le (kd_h244 hg) (by decide), kd_hold_le (kd_h243 hg) (by decide), kd_hold_le (kd_h241 hg) (by decide), trivial⟩) (by decide) (by decide +kernel) kd_e240c3 (kd_al_r kd_S240c3 trivial)
def kd_P248c3 : List kd_P := [(none, [], [(266, 266, 0, 9), (268, 268, 3, 3), (267, 267, 9, 11)])]
def kd_T248c3 : kd_Tc := ([(3, 259, 259), (0, 2147483648, 2147483657), (0, 2147483651, 2147483651)], [(268, 3, (0, 2147483648, 2147483650))], kd_P248c3)
def kd_C248c3 : List (Nat × kd_Tc) := []
def kd_S248c3 : List kd_St := []
theorem kd_e248c3 : kd_run0 kd_ty kd_x248 3 (kd_call kd_ty kd_xt (kd_ctl kd_C248c3) 600 0) kd_T248c3 600 kd_S248c3 = true := by decide +kernel
theorem kd_h248c3 {g : kc_G} (hg : kc_ok g) : kd_hold g 1 kd_ty 248 kd_T248c3 := kd_mk (d0 := 0) (di := 0) hg kd_xk248 rfl rfl rfl rfl (kd_al_r kd_C248c3 trivial) (by decide) (by decide +kernel) kd_e248c3 (kd_al_r kd_S248c3 trivial)
def kd_P240c4 : List kd_P := [(some (0, 2147483648, 2147483648), [(268, 4, (0, 2147483648, 2147483650))], []), (some (0, 2147483653, 2147483653), [(268, 4, (0, 2147483648, 2147483650))], []), (some (0, 2147483652, 2147483652), [(268, 4, (0, 2147483649, 2147483650))], []), (some (0, 2147483651, 2147483651), [(268, 4, (0, 2147483651, 2147483651))], [])]
def kd_T240c4 : kd_Tc := ([(3, 259, 259), (0, 2147483648, 2147483657), (0, 2147483652, 2147483652), (0, 2147483647, 2147483653)], [], kd_P240c4)
def kd_C240c4 : List (Nat × kd_Tc) := [(244, kd_T244), (243, kd_T243), (241, kd_T241)]
def kd_S240c4 : List kd_St := []
theorem kd_e240c4 : kd_run0 kd_ty kd_x240 4 (kd_call kd_ty kd_xt (kd_ctl kd_C240c4) 600 1) kd_T240c4 600 kd_S240c4 = true := by decide +kernel
theorem kd_h240c4 {g : kc_G} (hg : kc_ok g) : kd_hold g 6 kd_ty 240 kd_T240c4 := kd_mk (d0 := 4) (di := 1) hg kd_xk240 rfl rfl rfl rfl (kd_al_r kd_C240c4 ⟨kd_hold_le (kd_h244 hg) (by decide), kd_hold_le (kd_h243 hg) (by decide), kd_hold_le (kd_h241 hg) (by decide), trivial⟩) (by decide) (by decide +kernel) kd_e240c4 (kd_al_r kd_S240c4 trivial)
def kd_P248c4 : List kd_P := [(none, [], [(266, 266, 0, 9), (268, 268, 4, 4), (267, 267, 12, 14)])]
def kd_T248c4 : kd_Tc := ([(3, 259, 259), (0, 2147483648, 2147483657), (0, 2147483652, 2147483652)], [(268, 4, (0, 2147483648, 2147483650))], kd_P248c4)
def kd_C248c4 : List (Nat × kd_Tc) := []
def kd_S248c4 : List kd_St := []
theorem kd_e248c4 : kd_run0 kd_ty kd_x248 3 (kd_call kd_ty kd_xt (kd_ctl kd_C248c4) 600 0) kd_T248c4 600 kd_S248c4 = true := by decide +kernel
theorem kd_h248c4 {g : kc_G} (hg : kc_ok g) : kd_hold g 1 kd_ty 248 kd_T248c4 := kd_mk (d0 := 0) (di := 0) hg kd_xk248 rfl rfl rfl rfl (kd_al_r kd_C248c4 trivial) (by decide) (by decide +kernel) kd_e248c4 (kd_al_r kd_S248c4 trivial)
def kd_P240c5 : List kd_P := [(some (0, 2147483648, 2147483648), [(268, 5, (0, 2147483648, 2147483650))], []), (some (0, 2147483653, 2147483653), [(268, 5, (0, 2147483648, 2147483650))], []), (some (0, 2147483652, 2147483652), [(268, 5, (0, 2147483649, 2147483650))], []), (some (0, 2147483651, 2147483651), [(268, 5, (0, 2147483651, 2147483651))], [])]
def kd_T240c5 : kd_Tc := ([(3, 259, 259), (0, 2147483648, 2147483657), (0, 2147483653, 2147483653), (0, 2147483647, 2147483653)], [], kd_P240c5)
def kd_C240c5 : List (Nat × kd_Tc) := [(244, kd_T244), (243, kd_T243), (241, kd_T241)]
def kd_S240c5 : List kd_St := []
theorem kd_e240c5 : kd_run0 kd_ty kd_x240 4 (kd_call kd_ty kd_xt (kd_ctl kd_C240c5) 600 1) kd_T240c5 600 kd_S240c5 = true := by decide +kernel
theorem kd_h240c5 {g : kc_G} (hg : kc_ok g) : kd_hold g 6 kd_ty 240 kd_T240c5 := kd_mk (d0 := 4) (di := 1) hg kd_xk240 rfl rfl rfl rfl (kd_al_r kd_C240c5 ⟨kd_hold_le (kd_h244 hg) (by decide), kd_hold_le (kd_h243 hg) (by decide), kd_hold_le (kd_h241 hg) (by decide), trivial⟩) (by decide) (by decide +kernel) kd_e240c5 (kd_al_r kd_S240c5 trivial)
def kd_P248c5 : List kd_P := [(none, [], [(266, 266, 0, 9), (268, 268, 5, 5), (267, 267, 15, 17)])]
def kd_T248c5 : kd_Tc := ([(3, 259, 259), (0, 2147483648, 2147483657), (0, 2147483653, 2147483653)], [(268, 5, (0, 2147483648, 2147483650))], kd_P248c5)
def kd_C248c5 : List (Nat × kd_Tc) := []
def kd_S248c5 : List kd_St := []
theorem kd_e248c5 : kd_run0 kd_ty kd_x248 3 (kd_call kd_ty kd_xt (kd_ctl kd_C248c5) 600 0) kd_T248c5 600 kd_S248c5 = true := by decide +kernel
theorem kd_h248c5 {g : kc_G} (hg : kc_ok g) : kd_hold g 1 kd_ty 248 kd_T248c5 := kd_mk (d0 := 0) (di := 0) hg kd_xk248 rfl rfl rfl rfl (kd_al_r kd_C248c5 trivial) (by decide) (by decide +kernel) kd_e248c5 (kd_al_r kd_S248c5 trivial)
