/-! ===== contracts, km 3 ===== -/
def kd_P250 : List kd_P := [(some (0, 2147483648, 2147483653), [], [(268, 268, 0, 5), (266, 266, 0, 9), (267, 267, 0, 17)])]
def kd_T250q0 : kd_Tc := ([(3, 259, 259), (0, 2147483648, 2147483648), (0, 2147483648, 2147483648), (0, 2147483648, 2147483648), (0, 2147482650, 2147483647)], [], kd_P250)
def kd_C250q0 : List (Nat × kd_Tc) := []
def kd_S250q0 : List kd_St := []
theorem kd_e250q0 : kd_run0 kd_ty kd_x250 9 (kd_call kd_ty kd_xt (kd_ctl kd_C250q0) 600 3) kd_T250q0 600 kd_S250q0 = true := by decide +kernel
theorem kd_h250q0 {g : kc_G} (hg : kc_ok g) : kd_hold g 4 kd_ty 250 kd_T250q0 := kd_mk (d0 := 0) (di := 3) hg kd_xk250 rfl rfl rfl rfl (kd_al_r kd_C250q0 trivial) (by decide) (by decide +kernel) kd_e250q0 (kd_al_r kd_S250q0 trivial)
def kd_T250q1 : kd_Tc := ([(3, 259, 259), (0, 2147483648, 2147483648), (0, 2147483648, 2147483648), (0, 2147483648, 2147483648), (0, 2147483648, 2147483648)], [], kd_P250)
def kd_C250q1 : List (Nat × kd_Tc) := []
def kd_S250q1 : List kd_St := []
theorem kd_e250q1 : kd_run0 kd_ty kd_x250 9 (kd_call kd_ty kd_xt (kd_ctl kd_C250q1) 600 3) kd_T250q1 600 kd_S250q1 = true := by decide +kernel
theorem kd_h250q1 {g : kc_G} (hg : kc_ok g) : kd_hold g 4 kd_ty 250 kd_T250q1 := kd_mk (d0 := 0) (di := 3) hg kd_xk250 rfl rfl rfl rfl (kd_al_r kd_C250q1 trivial) (by decide) (by decide +kernel) kd_e250q1 (kd_al_r kd_S250q1 trivial)
def kd_T250q2 : kd_Tc := ([(3, 259, 259), (0, 2147483648, 2147483648), (0, 2147483648, 2147483648), (0, 2147483648, 2147483648), (0, 2147483649, 2147483649)], [], kd_P250)
def kd_C250q2 : List (Nat × kd_Tc) := [(248, kd_T248c1), (240, kd_T240c1)]
def kd_S250q2 : List kd_St := []
theorem kd_e250q2 : kd_run0 kd_ty kd_x250 9 (kd_call kd_ty kd_xt (kd_ctl kd_C250q2) 600 3) kd_T250q2 600 kd_S250q2 = true := by decide +kernel
theorem kd_h250q2 {g : kc_G} (hg : kc_ok g) : kd_hold g 10 kd_ty 250 kd_T250q2 := kd_mk (d0 := 6) (di := 3) hg kd_xk250 rfl rfl rfl rfl (kd_al_r kd_C250q2 ⟨kd_hold_le (kd_h248c1 hg) (by decide), kd_hold_le (kd_h240c1 hg) (by decide), trivial⟩) (by decide) (by decide +kernel) kd_e250q2 (kd_al_r kd_S250q2 trivial)
def kd_T250q3 : kd_Tc := ([(3, 259, 259), (0, 2147483648, 2147483648), (0, 2147483648, 2147483648), (0, 2147483648, 2147483648), (0, 2147483650, 2147484647)], [], kd_P250)
def kd_C250q3 : List (Nat × kd_Tc) := []
def kd_S250q3 : List kd_St := []
theorem kd_e250q3 : kd_run0 kd_ty kd_x250 9 (kd_call kd_ty kd_xt (kd_ctl kd_C250q3) 600 3) kd_T250q3 600 kd_S250q3 = true := by decide +kernel
theorem kd_h250q3 {g : kc_G} (hg : kc_ok g) : kd_hold g 4 kd_ty 250 kd_T250q3 := kd_mk (d0 := 0) (di := 3) hg kd_xk250 rfl rfl rfl rfl (kd_al_r kd_C250q3 trivial) (by decide) (by decide +kernel) kd_e250q3 (kd_al_r kd_S250q3 trivial)
def kd_T250q4 : kd_Tc := ([(3, 259, 259), (0, 2147483648, 2147483648), (0, 2147483648, 2147483648), (0, 2147483649, 2147483649), (0, 2147482650, 2147483647)], [], kd_P250)
def kd_C250q4 : List (Nat × kd_Tc) := []
def kd_S250q4 : List kd_St := []
theorem kd_e250q4 : kd_run0 kd_ty kd_x250 9 (kd_call kd_ty kd_xt (kd_ctl kd_C250q4) 600 3) kd_T250q4 600 kd_S250q4 = true := by decide +kernel
theorem kd_h250q4 {g : kc_G} (hg : kc_ok g) : kd_hold g 4 kd_ty 250 kd_T250q4 := kd_mk (d0 := 0) (di := 3) hg kd_xk250 rfl rfl rfl rfl (kd_al_r kd_C250q4 trivial) (by decide) (by decide +kernel) kd_e250q4 (kd_al_r kd_S250q4 trivial)
def kd_T250q5 : kd_Tc := ([(3, 259, 259), (0, 2147483648, 2147483648), (0, 2147483648, 2147483648), (0, 2147483649, 2147483649), (0, 2147483648, 2147483648)], [], kd_P250)
def kd_C250q5 : List (Nat × kd_Tc) := [(248, kd_T248c2), (240, kd_T240c2)]
def kd_S250q5 : List kd_St := []
theorem kd_e250q5 : kd_run0 kd_ty kd_x250 9 (kd_call kd_ty kd_xt (kd_ctl kd_C250q5) 600 3) kd_T250q5 600 kd_S250q5 = true := by decide +kernel
theorem kd_h250q5 {g : kc_G} (hg : kc_ok g) : kd_hold g 10 kd_ty 250 kd_T250q5 := kd_mk (d0 := 6) (di := 3) hg kd_xk250 rfl rfl rfl rfl (kd_al_r kd_C250q5 ⟨kd_hold_le (kd_h248c2 hg) (by decide), kd_hold_le (kd_h240c2 hg) (by decide), trivial⟩) (by decide) (by decide +kernel) kd_e250q5 (kd_al_r kd_S250q5 trivial)
def kd_T250q6 : kd_Tc := ([(3, 259, 259), (0, 2147483648, 2147483648), (0, 2147483648, 2147483648), (0, 2147483649, 2147483649), (0, 2147483649, 2147483649)], [], kd_P250)
def kd_C250q6 : List (Nat × kd_Tc) := [(248, kd_T248c3), (240, kd_T240c3)]
def kd_S250q6 : List kd_St := []
theorem kd_e250q6 : kd_run0 kd_ty kd_x250 9 (kd_call kd_ty kd_xt (kd_ctl kd_C250q6) 600 3) kd_T250q6 600 kd_S250q6 = true := by decide +kernel
theorem kd_h250q6 {g : kc_G} (hg : kc_ok g) : kd_hold g 10 kd_ty 250 kd_T250q6 := kd_mk (d0 := 6) (di := 3) hg kd_xk250 rfl rfl rfl rfl (kd_al_r kd_C250q6 ⟨kd_hold_le (kd_h248c3 hg) (by decide), kd_hold_le (kd_h240c3 hg) (by decide), trivial⟩) (by decide) (by decide +kernel) kd_e250q6 (kd_al_r kd_S250q6 trivial)
def kd_T250q7 : kd_Tc := ([(3, 259, 259), (0, 2147483648, 2147483648), (0, 2147483648, 2147483648), (0, 2147483649, 2147483649), (0, 2147483650, 2147484647)], [], kd_P250)
def kd_C250q7 : List (Nat × kd_Tc) := []
def kd_S250q7 : List kd_St := []
theorem kd_e250q7 : kd_run0 kd_ty kd_x250 9 (kd_call kd_ty kd_xt (kd_ctl kd_C250q7) 600 3) kd_T250q7 600 kd_S250q7 = true := by decide +kernel
theorem kd_h250q7 {g : kc_G} (hg : kc_ok g) : kd_hold g 4 kd_ty 250 kd_T250q7 := kd_mk (d0 := 0) (di := 3) hg kd_xk250 rfl rfl rfl rfl (kd_al_r kd_C250q7 trivial) (by decide) (by decide +kernel) kd_e250q7 (kd_al_r kd_S250q7 trivial)
def kd_T250q8 : kd_Tc := ([(3, 259, 259), (0, 2147483648, 2147483648), (0, 2147483648, 2147483648), (0, 2147483650, 2147483650), (0, 2147482650, 2147483647)], [], kd_P250)
def kd_C250q8 : List (Nat × kd_Tc) := []
def kd_S250q8 : List kd_St := []
theorem kd_e250q8 : kd_run0 kd_ty kd_x250 9 (kd_call kd_ty kd_xt (kd_ctl kd_C250q8) 600 3) kd_T250q8 600 kd_S250q8 = true := by decide +kernel
theorem kd_h250q8 {g : kc_G} (hg : kc_ok g) : kd_hold g 4 kd_ty 250 kd_T250q8 := kd_mk (d0 := 0) (di := 3) hg kd_xk250 rfl rfl rfl rfl (kd_al_r kd_C250q8 trivial) (by decide) (by decide +kernel) kd_e250q8 (kd_al_r kd_S250q8 trivial)
def kd_T250q9 : kd_Tc := ([(3, 259, 259), (0, 2147483648, 2147483648), (0, 2147483648, 2147483648), (0, 2147483650, 2147483650), (0, 2147483648, 2147483648)], [], kd_P250)
def kd_C250q9 : List (Nat × kd_Tc) := [(248, kd_T248c4), (240, kd_T240c4)]
def kd_S250q9 : List kd_St := []
theorem kd_e250q9 : kd_run0 kd_ty kd_x250 9 (kd_call kd_ty kd_xt (kd_ctl kd_C250q9) 600 3) kd_T250q9 600 kd_S250q9 = true := by decide +kernel
theorem kd_h250q9 {g : kc_G} (hg : kc_ok g) : kd_hold g 10 kd_ty 250 kd_T250q9 := kd_mk (d0 := 6) (di := 3) hg kd_xk250 rfl rfl rfl rfl (kd_al_r kd_C250q9 ⟨kd_hold_le (kd_h248c4 hg) (by decide), kd_hold_le (kd_h240c4 hg) (by decide), trivial⟩) (by decide) (by decide +kernel) kd_e250q9 (kd_al_r kd_S250q9 trivial)
def kd_T250q10 : kd_Tc := ([(3, 259, 259), (0, 2147483648, 2147483648), (0, 2147483648, 2147483648), (0, 2147483650, 2147483650), (0, 2147483649, 2147483649)], [], kd_P250)
def kd_C250q10 : List (Nat × kd_Tc) := [(248, kd_T248c5), (240, kd_T240c5)]
def kd_S250q10 : List kd_St := []
theorem kd_e250q10 : kd_run0 kd_ty kd_x250 9 (kd_call kd_ty kd_xt (kd_ctl kd_C250q10) 600 3) kd_T250q10 600 kd_S250q10 = true := by decide +kernel
theorem kd_h250q10 {g : kc_G} (hg : kc_ok g) : kd_hold g 10 kd_ty 250 kd_T250q10 := kd_mk (d0 := 6) (di := 3) hg kd_xk250 rfl rfl rfl rfl (kd_al_r kd_C250q10 ⟨kd_hold_le (kd_h248c5 hg) (by decide), kd_hold_le (kd_h240c5 hg) (by decide), trivial⟩) (by decide) (by decide +kernel) kd_e250q10 (kd_al_r kd_S250q10 trivial)
def kd_T250q11 : kd_Tc := ([(3, 259, 259), (0, 2147483648, 2147483648), (0, 2147483648, 2147483648), (0, 2147483650, 2147483650), (0, 2147483650, 2147484647)], [], kd_P250)
def kd_C250q11 : List (Nat × kd_Tc) := []
def kd_S250q11 : List kd_St := []
theorem kd_e250q11 : kd_run0 kd_ty kd_x250 9 (kd_call kd_ty kd_xt (kd_ctl kd_C250q11) 600 3) kd_T250q11 600 kd_S250q11 = true := by decide +kernel
theorem kd_h250q11 {g : kc_G} (hg : kc_ok g) : kd_hold g 4 kd_ty 250 kd_T250q11 := kd_mk (d0 := 0) (di := 3) hg kd_xk250 rfl rfl rfl rfl (kd_al_r kd_C250q11 trivial) (by decide) (by decide +kernel) kd_e250q11 (kd_al_r kd_S250q11 trivial)
def kd_T250q12 : kd_Tc := ([(3, 259, 259), (0, 2147483648, 2147483648), (0, 2147483648, 2147483648), (0, 2147483651, 2147484647), (0, 2147482650, 2147483647)], [], kd_P250)
def kd_C250q12 : List (Nat × kd_Tc) := []
def kd_S250q12 : List kd_St := []
theorem kd_e250q12 : kd_run0 kd_ty kd_x250 9 (kd_call kd_ty kd_xt (kd_ctl kd_C250q12) 600 3) kd_T250q12 600 kd_S250q12 = true := by decide +kernel
theorem kd_h250q12 {g : kc_G} (hg : kc_ok g) : kd_hold g 4 kd_ty 250 kd_T250q12 := kd_mk (d0 := 0) (di := 3) hg kd_xk250 rfl rfl rfl rfl (kd_al_r kd_C250q12 trivial) (by decide) (by decide +kernel) kd_e250q12 (kd_al_r kd_S250q12 trivial)
def kd_T250q13 : kd_Tc := ([(3, 259, 259), (0, 2147483648, 2147483648), (0, 2147483648, 2147483648), (0, 2147483651, 2147484647), (0, 2147483648, 2147483648)], [], kd_P250)
def kd_C250q13 : List (Nat × kd_Tc) := []
def kd_S250q13 : List kd_St := []
theorem kd_e250q13 : kd_run0 kd_ty kd_x250 9 (kd_call kd_ty kd_xt (kd_ctl kd_C250q13) 600 3) kd_T250q13 600 kd_S250q13 = true := by decide +kernel
theorem kd_h250q13 {g : kc_G} (hg : kc_ok g) : kd_hold g 4 kd_ty 250 kd_T250q13 := kd_mk (d0 := 0) (di := 3) hg kd_xk250 rfl rfl rfl rfl (kd_al_r kd_C250q13 trivial) (by decide) (by decide +kernel) kd_e250q13 (kd_al_r kd_S250q13 trivial)
def kd_T250q14 : kd_Tc := ([(3, 259, 259), (0, 2147483648, 2147483648), (0, 2147483648, 2147483648), (0, 2147483651, 2147484647), (0, 2147483649, 2147483649)], [], kd_P250)
def kd_C250q14 : List (Nat × kd_Tc) := []
def kd_S250q14 : List kd_St := []
theorem kd_e250q14 : kd_run0 kd_ty kd_x250 9 (kd_call kd_ty kd_xt (kd_ctl kd_C250q14) 600 3) kd_T250q14 600 kd_S250q14 = true := by decide +kernel
theorem kd_h250q14 {g : kc_G} (hg : kc_ok g) : kd_hold g 4 kd_ty 250 kd_T250q14 := kd_mk (d0 := 0) (di := 3) hg kd_xk250 rfl rfl rfl rfl (kd_al_r kd_C250q14 trivial) (by decide) (by decide +kernel) kd_e250q14 (kd_al_r kd_S250q14 trivial)
def kd_T250q15 : kd_Tc := ([(3, 259, 259), (0, 2147483648, 2147483648), (0, 2147483648, 2147483648), (0, 2147483651, 2147484647), (0, 2147483650, 2147484647)], [], kd_P250)
def kd_C250q15 : List (Nat × kd_Tc) := []
def kd_S250q15 : List kd_St := []
theorem kd_e250q15 : kd_run0 kd_ty kd_x250 9 (kd_call kd_ty kd_xt (kd_ctl kd_C250q15) 600 3) kd_T250q15 600 kd_S250q15 = true := by decide +kernel
theorem kd_h250q15 {g : kc_G} (hg : kc_ok g) : kd_hold g 4 kd_ty 250 kd_T250q15 := kd_mk (d0 := 0) (di := 3) hg kd_xk250 rfl rfl rfl rfl (kd_al_r kd_C250q15 trivial) (by decide) (by decide +kernel) kd_e250q15 (kd_al_r kd_S250q15 trivial)
def kd_T250q16 : kd_Tc := ([(3, 259, 259), (0, 2147483648, 2147483648), (0, 2147483649, 2147483649), (0, 2147483648, 2147483648), (0, 2147482650, 2147483647)], [], kd_P250)
def kd_C250q16 : List (Nat × kd_Tc) := []
def kd_S250q16 : List kd_St := []
theorem kd_e250q16 : kd_run0 kd_ty kd_x250 9 (kd_call kd_ty kd_xt (kd_ctl kd_C250q16) 600 3) kd_T250q16 600 kd_S250q16 = true := by decide +kernel
theorem kd_h250q16 {g : kc_G} (hg : kc_ok g) : kd_hold g 4 kd_ty 250 kd_T250q16 := kd_mk (d0 := 0) (di := 3) hg kd_xk250 rfl rfl rfl rfl (kd_al_r kd_C250q16 trivial) (by decide) (by decide +kernel) kd_e250q16 (kd_al_r kd_S250q16 trivial)
def kd_T250q17 : kd_Tc := ([(3, 259, 259), (0, 2147483648, 2147483648), (0, 2147483649, 2147483649), (0, 2147483648, 2147483648), (0, 2147483648, 2147483648)], [], kd_P250)
def kd_C250q17 : List (Nat × kd_Tc) := [(248, kd_T248c0), (240, kd_T240c0)]
def kd_S250q17 : List kd_St := []
theorem kd_e250q17 : kd_run0 kd_ty kd_x250 9 (kd_call kd_ty kd_xt (kd_ctl kd_C250q17) 600 3) kd_T250q17 600 kd_S250q17 = true := by decide +kernel
theorem kd_h250q17 {g : kc_G} (hg : kc_ok g) : kd_hold g 10 kd_ty 250 kd_T250q17 := kd_mk (d0 := 6) (di := 3) hg kd_xk250 rfl rfl rfl rfl (kd_al_r kd_C250q17 ⟨kd_hold_le (kd_h248c0 hg) (by decide), kd_hold_le (kd_h240c0 hg) (by decide), trivial⟩) (by decide) (by decide +kernel) kd_e250q17 (kd_al_r kd_S250q17 trivial)
def kd_T250q18 : kd_Tc := ([(3, 259, 259), (0, 2147483648, 2147483648), (0, 2147483649, 2147483649), (0, 2147483648, 2147483648), (0, 2147483649, 2147483649)], [], kd_P250)
def kd_C250q18 : List (Nat × kd_Tc) := []
def kd_S250q18 : List kd_St := []
theorem kd_e250q18 : kd_run0 kd_ty kd_x250 9 (kd_call kd_ty kd_xt (kd_ctl kd_C250q18) 600 3) kd_T250q18 600 kd_S250q18 = true := by decide +kernel
theorem kd_h250q18 {g : kc_G} (hg : kc_ok g) : kd_hold g 4 kd_ty 250 kd_T250q18 := kd_mk (d0 := 0) (di := 3) hg kd_xk250 rfl rfl rfl rfl (kd_al_r kd_C250q18 trivial) (by decide) (by decide +kernel) kd_e250q18 (kd_al_r kd_S250q18 trivial)
def kd_T250q19 : kd_Tc := ([(3, 259, 259), (0, 2147483648, 2147483648), (0, 2147483649, 2147483649), (0, 2147483648, 2147483648), (0, 2147483650, 2147484647)], [], kd_P250)
def kd_C250q19 : List (Nat × kd_Tc) := []
def kd_S250q19 : List kd_St := []
theorem kd_e250q19 : kd_run0 kd_ty kd_x250 9 (kd_call kd_ty kd_xt (kd_ctl kd_C250q19) 600 3) kd_T250q19 600 kd_S250q19 = true := by decide +kernel
theorem kd_h250q19 {g : kc_G} (hg : kc_ok g) : kd_hold g 4 kd_ty 250 kd_T250q19 := kd_mk (d0 := 0) (di := 3) hg kd_xk250 rfl rfl rfl rfl (kd_al_r kd_C250q19 trivial) (by decide) (by decide +kernel) kd_e250q19 (kd_al_r kd_S250q19 trivial)
def kd_T250q20 : kd_Tc := ([(3, 259, 259), (0, 2147483648, 2147483648), (0, 2147483649, 2147483649), (0, 2147483649, 2147483649), (0, 2147482650, 2147483647)], [], kd_P250)
def kd_C250q20 : List (Nat × kd_Tc) := []
def kd_S250q20 : List kd_St := []
theorem kd_e250q20 : kd_run0 kd_ty kd_x250 9 (kd_call kd_ty kd_xt (kd_ctl kd_C250q20) 600 3) kd_T250q20 600 kd_S250q20 = true := by decide +kernel
theorem kd_h250q20 {g : kc_G} (hg : kc_ok g) : kd_hold g 4 kd_ty 250 kd_T250q20 := kd_mk (d0 := 0) (di := 3) hg kd_xk250 rfl rfl rfl rfl (kd_al_r kd_C250q20 trivial) (by decide) (by decide +kernel) kd_e250q20 (kd_al_r kd_S250q20 trivial)
def kd_T250q21 : kd_Tc := ([(3, 259, 259), (0, 2147483648, 2147483648), (0, 2147483649, 2147483649), (0, 2147483649, 2147483649), (0, 2147483648, 2147483648)], [], kd_P250)
def kd_C250q21 : List (Nat × kd_Tc) := [(248, kd_T248c2), (240, kd_T240c2)]
def kd_S250q21 : List kd_St := []
theorem kd_e250q21 : kd_run0 kd_ty kd_x250 9 (kd_call kd_ty kd_xt (kd_ctl kd_C250q21) 600 3) kd_T250q21 600 kd_S250q21 = true := by decide +kernel
theorem kd_h250q21 {g : kc_G} (hg : kc_ok g) : kd_hold g 10 kd_ty 250 kd_T250q21 := kd_mk (d0 := 6) (di := 3) hg kd_xk250 rfl rfl rfl rfl (kd_al_r kd_C250q21 ⟨kd_hold_le (kd_h248c2 hg) (by decide), kd_hold_le (kd_h240c2 hg) (by decide), trivial⟩) (by decide) (by decide +kernel) kd_e250q21 (kd_al_r kd_S250q21 trivial)
def kd_T250q22 : kd_Tc := ([(3, 259, 259), (0, 2147483648, 2147483648), (0, 2147483649, 2147483649), (0, 2147483649, 2147483649), (0, 2147483649, 2147483649)], [], kd_P250)
def kd_C250q22 : List (Nat × kd_Tc) := [(248, kd_T248c3), (240, kd_T240c3)]
def kd_S250q22 : List kd_St := []
theorem kd_e250q22 : kd_run0 kd_ty kd_x250 9 (kd_call kd_ty kd_xt (kd_ctl kd_C250q22) 600 3) kd_T250q22 600 kd_S250q22 = true := by decide +kernel
theorem kd_h250q22 {g : kc_G} (hg : kc_ok g) : kd_hold g 10 kd_ty 250 kd_T250q22 := kd_mk (d0 := 6) (di := 3) hg kd_xk250 rfl rfl rfl rfl (kd_al_r kd_C250q22 ⟨kd_hold_le (kd_h248c3 hg) (by decide), kd_hold_le (kd_h240c3 hg) (by decide), trivial⟩) (by decide) (by decide +kernel) kd_e250q22 (kd_al_r kd_S250q22 trivial)
def kd_T250q23 : kd_Tc := ([(3, 259, 259), (0, 2147483648, 2147483648), (0, 2147483649, 2147483649), (0, 2147483649, 2147483649), (0, 2147483650, 2147484647)], [], kd_P250)
def kd_C250q23 : List (Nat × kd_Tc) := []
def kd_S250q23 : List kd_St := []
theorem kd_e250q23 : kd_run0 kd_ty kd_x250 9 (kd_call kd_ty kd_xt (kd_ctl kd_C250q23) 600 3) kd_T250q23 600 kd_S250q23 = true := by decide +kernel
theorem kd_h250q23 {g : kc_G} (hg : kc_ok g) : kd_hold g 4 kd_ty 250 kd_T250q23 := kd_mk (d0 := 0) (di := 3) hg kd_xk250 rfl rfl rfl rfl (kd_al_r kd_C250q23 trivial) (by decide) (by decide +kernel) kd_e250q23 (kd_al_r kd_S250q23 trivial)
def kd_T250q24 : kd_Tc := ([(3, 259, 259), (0, 2147483648, 2147483648), (0, 2147483649, 2147483649), (0, 2147483650, 2147483650), (0, 2147482650, 2147483647)], [], kd_P250)
def kd_C250q24 : List (Nat × kd_Tc) := []
def kd_S250q24 : List kd_St := []
theorem kd_e250q24 : kd_run0 kd_ty kd_x250 9 (kd_call kd_ty kd_xt (kd_ctl kd_C250q24) 600 3) kd_T250q24 600 kd_S250q24 = true := by decide +kernel
theorem kd_h250q24 {g : kc_G} (hg : kc_ok g) : kd_hold g 4 kd_ty 250 kd_T250q24 := kd_mk (d0 := 0) (di := 3) hg kd_xk250 rfl rfl rfl rfl (kd_al_r kd_C250q24 trivial) (by decide) (by decide +kernel) kd_e250q24 (kd_al_r kd_S250q24 trivial)
def kd_T250q25 : kd_Tc := ([(3, 259, 259), (0, 2147483648, 2147483648), (0, 2147483649, 2147483649), (0, 2147483650, 2147483650), (0, 2147483648, 2147483648)], [], kd_P250)
def kd_C250q25 : List (Nat × kd_Tc) := [(248, kd_T248c4), (240, kd_T240c4)]
def kd_S250q25 : List kd_St := []
theorem kd_e250q25 : kd_run0 kd_ty kd_x250 9 (kd_call kd_ty kd_xt (kd_ctl kd_C250q25) 600 3) kd_T250q25 600 kd_S250q25 = true := by decide +kernel
theorem kd_h250q25 {g : kc_G} (hg : kc_ok g) : kd_hold g 10 kd_ty 250 kd_T250q25 := kd_mk (d0 := 6) (di := 3) hg kd_xk250 rfl rfl rfl rfl (kd_al_r kd_C250q25 ⟨kd_hold_le (kd_h248c4 hg) (by decide), kd_hold_le (kd_h240c4 hg) (by decide), trivial⟩) (by decide) (by decide +kernel) kd_e250q25 (kd_al_r kd_S250q25 trivial)
def kd_T250q26 : kd_Tc := ([(3, 259, 259), (0, 2147483648, 2147483648), (0, 2147483649, 2147483649), (0, 2147483650, 2147483650), (0, 2147483649, 2147483649)], [], kd_P250)
def kd_C250q26 : List (Nat × kd_Tc) := [(248, kd_T248c5), (240, kd_T240c5)]
def kd_S250q26 : List kd_St := []
theorem kd_e250q26 : kd_run0 kd_ty kd_x250 9 (kd_call kd_ty kd_xt (kd_ctl kd_C250q26) 600 3) kd_T250q26 600 kd_S250q26 = true := by decide +kernel
theorem kd_h250q26 {g : kc_G} (hg : kc_ok g) : kd_hold g 10 kd_ty 250 kd_T250q26 := kd_mk (d0 := 6) (di := 3) hg kd_xk250 rfl rfl rfl rfl (kd_al_r kd_C250q26 ⟨kd_hold_le (kd_h248c5 hg) (by decide), kd_hold_le (kd_h240c5 hg) (by decide), trivial⟩) (by decide) (by decide +kernel) kd_e250q26 (kd_al_r kd_S250q26 trivial)
def kd_T250q27 : kd_Tc := ([(3, 259, 259), (0, 2147483648, 2147483648), (0, 2147483649, 2147483649), (0, 2147483650, 2147483650), (0, 2147483650, 2147484647)], [], kd_P250)
def kd_C250q27 : List (Nat × kd_Tc) := []
def kd_S250q27 : List kd_St := []
theorem kd_e250q27 : kd_run0 kd_ty kd_x250 9 (kd_call kd_ty kd_xt (kd_ctl kd_C250q27) 600 3) kd_T250q27 600 kd_S250q27 = true := by decide +kernel
theorem kd_h250q27 {g : kc_G} (hg : kc_ok g) : kd_hold g 4 kd_ty 250 kd_T250q27 := kd_mk (d0 := 0) (di := 3) hg kd_xk250 rfl rfl rfl rfl (kd_al_r kd_C250q27 trivial) (by decide) (by decide +kernel) kd_e250q27 (kd_al_r kd_S250q27 trivial)
def kd_T250q28 : kd_Tc := ([(3, 259, 259), (0, 2147483648, 2147483648), (0, 2147483649, 2147483649), (0, 2147483651, 2147484647), (0, 2147482650, 2147483647)], [], kd_P250)
def kd_C250q28 : List (Nat × kd_Tc) := []
def kd_S250q28 : List kd_St := []
theorem kd_e250q28 : kd_run0 kd_ty kd_x250 9 (kd_call kd_ty kd_xt (kd_ctl kd_C250q28) 600 3) kd_T250q28 600 kd_S250q28 = true := by decide +kernel
theorem kd_h250q28 {g : kc_G} (hg : kc_ok g) : kd_hold g 4 kd_ty 250 kd_T250q28 := kd_mk (d0 := 0) (di := 3) hg kd_xk250 rfl rfl rfl rfl (kd_al_r kd_C250q28 trivial) (by decide) (by decide +kernel) kd_e250q28 (kd_al_r kd_S250q28 trivial)
def kd_T250q29 : kd_Tc := ([(3, 259, 259), (0, 2147483648, 2147483648), (0, 2147483649, 2147483649), (0, 2147483651, 2147484647), (0, 2147483648, 2147483648)], [], kd_P250)
def kd_C250q29 : List (Nat × kd_Tc) := []
def kd_S250q29 : List kd_St := []
theorem kd_e250q29 : kd_run0 kd_ty kd_x250 9 (kd_call kd_ty kd_xt (kd_ctl kd_C250q29) 600 3) kd_T250q29 600 kd_S250q29 = true := by decide +kernel
theorem kd_h250q29 {g : kc_G} (hg : kc_ok g) : kd_hold g 4 kd_ty 250 kd_T250q29 := kd_mk (d0 := 0) (di := 3) hg kd_xk250 rfl rfl rfl rfl (kd_al_r kd_C250q29 trivial) (by decide) (by decide +kernel) kd_e250q29 (kd_al_r kd_S250q29 trivial)
def kd_T250q30 : kd_Tc := ([(3, 259, 259), (0, 2147483648, 2147483648), (0, 2147483649, 2147483649), (0, 2147483651, 2147484647), (0, 2147483649, 2147483649)], [], kd_P250)
def kd_C250q30 : List (Nat × kd_Tc) := []
def kd_S250q30 : List kd_St := []
theorem kd_e250q30 : kd_run0 kd_ty kd_x250 9 (kd_call kd_ty kd_xt (kd_ctl kd_C250q30) 600 3) kd_T250q30 600 kd_S250q30 = true := by decide +kernel
theorem kd_h250q30 {g : kc_G} (hg : kc_ok g) : kd_hold g 4 kd_ty 250 kd_T250q30 := kd_mk (d0 := 0) (di := 3) hg kd_xk250 rfl rfl rfl rfl (kd_al_r kd_C250q30 trivial) (by decide) (by decide +kernel) kd_e250q30 (kd_al_r kd_S250q30 trivial)
def kd_T250q31 : kd_Tc := ([(3, 259, 259), (0, 2147483648, 2147483648), (0, 2147483649, 2147483649), (0, 2147483651, 2147484647), (0, 2147483650, 2147484647)], [], kd_P250)
def kd_C250q31 : List (Nat × kd_Tc) := []
def kd_S250q31 : List kd_St := []
theorem kd_e250q31 : kd_run0 kd_ty kd_x250 9 (kd_call kd_ty kd_xt (kd_ctl kd_C250q31) 600 3) kd_T250q31 600 kd_S250q31 = true := by decide +kernel
theorem kd_h250q31 {g : kc_G} (hg : kc_ok g) : kd_hold g 4 kd_ty 250 kd_T250q31 := kd_mk (d0 := 0) (di := 3) hg kd_xk250 rfl rfl rfl rfl (kd_al_r kd_C250q31 trivial) (by decide) (by decide +kernel) kd_e250q31 (kd_al_r kd_S250q31 trivial)
def kd_T250q32 : kd_Tc := ([(3, 259, 259), (0, 2147483648, 2147483648), (0, 2147483650, 2147484647), (0, 2147483648, 2147483648), (0, 2147482650, 2147483647)], [], kd_P250)
def kd_C250q32 : List (Nat × kd_Tc) := []
def kd_S250q32 : List kd_St := []
theorem kd_e250q32 : kd_run0 kd_ty kd_x250 9 (kd_call kd_ty kd_xt (kd_ctl kd_C250q32) 600 3) kd_T250q32 600 kd_S250q32 = true := by decide +kernel
theorem kd_h250q32 {g : kc_G} (hg : kc_ok g) : kd_hold g 4 kd_ty 250 kd_T250q32 := kd_mk (d0 := 0) (di := 3) hg kd_xk250 rfl rfl rfl rfl (kd_al_r kd_C250q32 trivial) (by decide) (by decide +kernel) kd_e250q32 (kd_al_r kd_S250q32 trivial)
def kd_T250q33 : kd_Tc := ([(3, 259, 259), (0, 2147483648, 2147483648), (0, 2147483650, 2147484647), (0, 2147483648, 2147483648), (0, 2147483648, 2147483648)], [], kd_P250)
def kd_C250q33 : List (Nat × kd_Tc) := []
def kd_S250q33 : List kd_St := []
theorem kd_e250q33 : kd_run0 kd_ty kd_x250 9 (kd_call kd_ty kd_xt (kd_ctl kd_C250q33) 600 3) kd_T250q33 600 kd_S250q33 = true := by decide +kernel
theorem kd_h250q33 {g : kc_G} (hg : kc_ok g) : kd_hold g 4 kd_ty 250 kd_T250q33 := kd_mk (d0 := 0) (di := 3) hg kd_xk250 rfl rfl rfl rfl (kd_al_r kd_C250q33 trivial) (by decide) (by decide +kernel) kd_e250q33 (kd_al_r kd_S250q33 trivial)
def kd_T250q34 : kd_Tc := ([(3, 259, 259), (0, 2147483648, 2147483648), (0, 2147483650, 2147484647), (0, 2147483648, 2147483648), (0, 2147483649, 2147483649)], [], kd_P250)
def kd_C250q34 : List (Nat × kd_Tc) := []
def kd_S250q34 : List kd_St := []
theorem kd_e250q34 : kd_run0 kd_ty kd_x250 9 (kd_call kd_ty kd_xt (kd_ctl kd_C250q34) 600 3) kd_T250q34 600 kd_S250q34 = true := by decide +kernel
theorem kd_h250q34 {g : kc_G} (hg : kc_ok g) : kd_hold g 4 kd_ty 250 kd_T250q34 := kd_mk (d0 := 0) (di := 3) hg kd_xk250 rfl rfl rfl rfl (kd_al_r kd_C250q34 trivial) (by decide) (by decide +kernel) kd_e250q34 (kd_al_r kd_S250q34 trivial)
def kd_T250q35 : kd_Tc := ([(3, 259, 259), (0, 2147483648, 2147483648), (0, 2147483650, 2147484647), (0, 2147483648, 2147483648), (0, 2147483650, 2147484647)], [], kd_P250)
def kd_C250q35 : List (Nat × kd_Tc) := []
def kd_S250q35 : List kd_St := []
theorem kd_e250q35 : kd_run0 kd_ty kd_x250 9 (kd_call kd_ty kd_xt (kd_ctl kd_C250q35) 600 3) kd_T250q35 600 kd_S250q35 = true := by decide +kernel
theorem kd_h250q35 {g : kc_G} (hg : kc_ok g) : kd_hold g 4 kd_ty 250 kd_T250q35 := kd_mk (d0 := 0) (di := 3) hg kd_xk250 rfl rfl rfl rfl (kd_al_r kd_C250q35 trivial) (by decide) (by decide +kernel) kd_e250q35 (kd_al_r kd_S250q35 trivial)
def kd_T250q36 : kd_Tc := ([(3, 259, 259), (0, 2147483648, 2147483648), (0, 2147483650, 2147484647), (0, 2147483649, 2147483649), (0, 2147482650, 2147483647)], [], kd_P250)
def kd_C250q36 : List (Nat × kd_Tc) := []
def kd_S250q36 : List kd_St := []
theorem kd_e250q36 : kd_run0 kd_ty kd_x250 9 (kd_call kd_ty kd_xt (kd_ctl kd_C250q36) 600 3) kd_T250q36 600 kd_S250q36 = true := by decide +kernel
theorem kd_h250q36 {g : kc_G} (hg : kc_ok g) : kd_hold g 4 kd_ty 250 kd_T250q36 := kd_mk (d0 := 0) (di := 3) hg kd_xk250 rfl rfl rfl rfl (kd_al_r kd_C250q36 trivial) (by decide) (by decide +kernel) kd_e250q36 (kd_al_r kd_S250q36 trivial)
def kd_T250q37 : kd_Tc := ([(3, 259, 259), (0, 2147483648, 2147483648), (0, 2147483650, 2147484647), (0, 2147483649, 2147483649), (0, 2147483648, 2147483648)], [], kd_P250)
def kd_C250q37 : List (Nat × kd_Tc) := []
def kd_S250q37 : List kd_St := []
theorem kd_e250q37 : kd_run0 kd_ty kd_x250 9 (kd_call kd_ty kd_xt (kd_ctl kd_C250q37) 600 3) kd_T250q37 600 kd_S250q37 = true := by decide +kernel
theorem kd_h250q37 {g : kc_G} (hg : kc_ok g) : kd_hold g 4 kd_ty 250 kd_T250q37 := kd_mk (d0 := 0) (di := 3) hg kd_xk250 rfl rfl rfl rfl (kd_al_r kd_C250q37 trivial) (by decide) (by decide +kernel) kd_e250q37 (kd_al_r kd_S250q37 trivial)
def kd_T250q38 : kd_Tc := ([(3, 259, 259), (0, 2147483648, 2147483648), (0, 2147483650, 2147484647), (0, 2147483649, 2147483649), (0, 2147483649, 2147483649)], [], kd_P250)
def kd_C250q38 : List (Nat × kd_Tc) := []
def kd_S250q38 : List kd_St := []
theorem kd_e250q38 : kd_run0 kd_ty kd_x250 9 (kd_call kd_ty kd_xt (kd_ctl kd_C250q38) 600 3) kd_T250q38 600 kd_S250q38 = true := by decide +kernel
theorem kd_h250q38 {g : kc_G} (hg : kc_ok g) : kd_hold g 4 kd_ty 250 kd_T250q38 := kd_mk (d0 := 0) (di := 3) hg kd_xk250 rfl rfl rfl rfl (kd_al_r kd_C250q38 trivial) (by decide) (by decide +kernel) kd_e250q38 (kd_al_r kd_S250q38 trivial)
def kd_T250q39 : kd_Tc := ([(3, 259, 259), (0, 2147483648, 2147483648), (0, 2147483650, 2147484647), (0, 2147483649, 2147483649), (0, 2147483650, 2147484647)], [], kd_P250)
def kd_C250q39 : List (Nat × kd_Tc) := []
def kd_S250q39 : List kd_St := []
theorem kd_e250q39 : kd_run0 kd_ty kd_x250 9 (kd_call kd_ty kd_xt (kd_ctl kd_C250q39) 600 3) kd_T250q39 600 kd_S250q39 = true := by decide +kernel
theorem kd_h250q39 {g : kc_G} (hg : kc_ok g) : kd_hold g 4 kd_ty 250 kd_T250q39 := kd_mk (d0 := 0) (di := 3) hg kd_xk250 rfl rfl rfl rfl (kd_al_r kd_C250q39 trivial) (by decide) (by decide +kernel) kd_e250q39 (kd_al_r kd_S250q39 trivial)
def kd_T250q40 : kd_Tc := ([(3, 259, 259), (0, 2147483648, 2147483648), (0, 2147483650, 2147484647), (0, 2147483650, 2147483650), (0, 2147482650, 2147483647)], [], kd_P250)
def kd_C250q40 : List (Nat × kd_Tc) := []
def kd_S250q40 : List kd_St := []
theorem kd_e250q40 : kd_run0 kd_ty kd_x250 9 (kd_call kd_ty kd_xt (kd_ctl kd_C250q40) 600 3) kd_T250q40 600 kd_S250q40 = true := by decide +kernel
theorem kd_h250q40 {g : kc_G} (hg : kc_ok g) : kd_hold g 4 kd_ty 250 kd_T250q40 := kd_mk (d0 := 0) (di := 3) hg kd_xk250 rfl rfl rfl rfl (kd_al_r kd_C250q40 trivial) (by decide) (by decide +kernel) kd_e250q40 (kd_al_r kd_S250q40 trivial)
def kd_T250q41 : kd_Tc := ([(3, 259, 259), (0, 2147483648, 2147483648), (0, 2147483650, 2147484647), (0, 2147483650, 2147483650), (0, 2147483648, 2147483648)], [], kd_P250)
def kd_C250q41 : List (Nat × kd_Tc) := []
def kd_S250q41 : List kd_St := []
theorem kd_e250q41 : kd_run0 kd_ty kd_x250 9 (kd_call kd_ty kd_xt (kd_ctl kd_C250q41) 600 3) kd_T250q41 600 kd_S250q41 = true := by decide +kernel
theorem kd_h250q41 {g : kc_G} (hg : kc_ok g) : kd_hold g 4 kd_ty 250 kd_T250q41 := kd_mk (d0 := 0) (di := 3) hg kd_xk250 rfl rfl rfl rfl (kd_al_r kd_C250q41 trivial) (by decide) (by decide +kernel) kd_e250q41 (kd_al_r kd_S250q41 trivial)
def kd_T250q42 : kd_Tc := ([(3, 259, 259), (0, 2147483648, 2147483648), (0, 2147483650, 2147484647), (0, 2147483650, 2147483650), (0, 2147483649, 2147483649)], [], kd_P250)
def kd_C250q42 : List (Nat × kd_Tc) := []
def kd_S250q42 : List kd_St := []
theorem kd_e250q42 : kd_run0 kd_ty kd_x250 9 (kd_call kd_ty kd_xt (kd_ctl kd_C250q42) 600 3) kd_T250q42 600 kd_S250q42 = true := by decide +kernel
theorem kd_h250q42 {g : kc_G} (hg : kc_ok g) : kd_hold g 4 kd_ty 250 kd_T250q42 := kd_mk (d0 := 0) (di := 3) hg kd_xk250 rfl rfl rfl rfl (kd_al_r kd_C250q42 trivial) (by decide) (by decide +kernel) kd_e250q42 (kd_al_r kd_S250q42 trivial)
def kd_T250q43 : kd_Tc := ([(3, 259, 259), (0, 2147483648, 2147483648), (0, 2147483650, 2147484647), (0, 2147483650, 2147483650), (0, 2147483650, 2147484647)], [], kd_P250)
def kd_C250q43 : List (Nat × kd_Tc) := []
def kd_S250q43 : List kd_St := []
theorem kd_e250q43 : kd_run0 kd_ty kd_x250 9 (kd_call kd_ty kd_xt (kd_ctl kd_C250q43) 600 3) kd_T250q43 600 kd_S250q43 = true := by decide +kernel
theorem kd_h250q43 {g : kc_G} (hg : kc_ok g) : kd_hold g 4 kd_ty 250 kd_T250q43 := kd_mk (d0 := 0) (di := 3) hg kd_xk250 rfl rfl rfl rfl (kd_al_r kd_C250q43 trivial) (by decide) (by decide +kernel) kd_e250q43 (kd_al_r kd_S250q43 trivial)
def kd_T250q44 : kd_Tc := ([(3, 259, 259), (0, 2147483648, 2147483648), (0, 2147483650, 2147484647), (0, 2147483651, 2147484647), (0, 2147482650, 2147483647)], [], kd_P250)
def kd_C250q44 : List (Nat × kd_Tc) := []
def kd_S250q44 : List kd_St := []
theorem kd_e250q44 : kd_run0 kd_ty kd_x250 9 (kd_call kd_ty kd_xt (kd_ctl kd_C250q44) 600 3) kd_T250q44 600 kd_S250q44 = true := by decide +kernel
theorem kd_h250q44 {g : kc_G} (hg : kc_ok g) : kd_hold g 4 kd_ty 250 kd_T250q44 := kd_mk (d0 := 0) (di := 3) hg kd_xk250 rfl rfl rfl rfl (kd_al_r kd_C250q44 trivial) (by decide) (by decide +kernel) kd_e250q44 (kd_al_r kd_S250q44 trivial)
def kd_T250q45 : kd_Tc := ([(3, 259, 259), (0, 2147483648, 2147483648), (0, 2147483650, 2147484647), (0, 2147483651, 2147484647), (0, 2147483648, 2147483648)], [], kd_P250)
def kd_C250q45 : List (Nat × kd_Tc) := []
def kd_S250q45 : List kd_St := []
theorem kd_e250q45 : kd_run0 kd_ty kd_x250 9 (kd_call kd_ty kd_xt (kd_ctl kd_C250q45) 600 3) kd_T250q45 600 kd_S250q45 = true := by decide +kernel
theorem kd_h250q45 {g : kc_G} (hg : kc_ok g) : kd_hold g 4 kd_ty 250 kd_T250q45 := kd_mk (d0 := 0) (di := 3) hg kd_xk250 rfl rfl rfl rfl (kd_al_r kd_C250q45 trivial) (by decide) (by decide +kernel) kd_e250q45 (kd_al_r kd_S250q45 trivial)
def kd_T250q46 : kd_Tc := ([(3, 259, 259), (0, 2147483648, 2147483648), (0, 2147483650, 2147484647), (0, 2147483651, 2147484647), (0, 2147483649, 2147483649)], [], kd_P250)
def kd_C250q46 : List (Nat × kd_Tc) := []
def kd_S250q46 : List kd_St := []
theorem kd_e250q46 : kd_run0 kd_ty kd_x250 9 (kd_call kd_ty kd_xt (kd_ctl kd_C250q46) 600 3) kd_T250q46 600 kd_S250q46 = true := by decide +kernel
theorem kd_h250q46 {g : kc_G} (hg : kc_ok g) : kd_hold g 4 kd_ty 250 kd_T250q46 := kd_mk (d0 := 0) (di := 3) hg kd_xk250 rfl rfl rfl rfl (kd_al_r kd_C250q46 trivial) (by decide) (by decide +kernel) kd_e250q46 (kd_al_r kd_S250q46 trivial)
def kd_T250q47 : kd_Tc := ([(3, 259, 259), (0, 2147483648, 2147483648), (0, 2147483650, 2147484647), (0, 2147483651, 2147484647), (0, 2147483650, 2147484647)], [], kd_P250)
def kd_C250q47 : List (Nat × kd_Tc) := []
def kd_S250q47 : List kd_St := []
theorem kd_e250q47 : kd_run0 kd_ty kd_x250 9 (kd_call kd_ty kd_xt (kd_ctl kd_C250q47) 600 3) kd_T250q47 600 kd_S250q47 = true := by decide +kernel
theorem kd_h250q47 {g : kc_G} (hg : kc_ok g) : kd_hold g 4 kd_ty 250 kd_T250q47 := kd_mk (d0 := 0) (di := 3) hg kd_xk250 rfl rfl rfl rfl (kd_al_r kd_C250q47 trivial) (by decide) (by decide +kernel) kd_e250q47 (kd_al_r kd_S250q47 trivial)
def kd_T250q48 : kd_Tc := ([(3, 259, 259), (0, 2147483649, 2147483649), (0, 2147483648, 2147483648), (0, 2147483648, 2147483648), (0, 2147482650, 2147483647)], [], kd_P250)
def kd_C250q48 : List (Nat × kd_Tc) := []
def kd_S250q48 : List kd_St := []
theorem kd_e250q48 : kd_run0 kd_ty kd_x250 9 (kd_call kd_ty kd_xt (kd_ctl kd_C250q48) 600 3) kd_T250q48 600 kd_S250q48 = true := by decide +kernel
theorem kd_h250q48 {g : kc_G} (hg : kc_ok g) : kd_hold g 4 kd_ty 250 kd_T250q48 := kd_mk (d0 := 0) (di := 3) hg kd_xk250 rfl rfl rfl rfl (kd_al_r kd_C250q48 trivial) (by decide) (by decide +kernel) kd_e250q48 (kd_al_r kd_S250q48 trivial)
def kd_T250q49 : kd_Tc := ([(3, 259, 259), (0, 2147483649, 2147483649), (0, 2147483648, 2147483648), (0, 2147483648, 2147483648), (0, 2147483648, 2147483648)], [], kd_P250)
def kd_C250q49 : List (Nat × kd_Tc) := [(248, kd_T248c0), (240, kd_T240c0)]
def kd_S250q49 : List kd_St := []
theorem kd_e250q49 : kd_run0 kd_ty kd_x250 9 (kd_call kd_ty kd_xt (kd_ctl kd_C250q49) 600 3) kd_T250q49 600 kd_S250q49 = true := by decide +kernel
theorem kd_h250q49 {g : kc_G} (hg : kc_ok g) : kd_hold g 10 kd_ty 250 kd_T250q49 := kd_mk (d0 := 6) (di := 3) hg kd_xk250 rfl rfl rfl rfl (kd_al_r kd_C250q49 ⟨kd_hold_le (kd_h248c0 hg) (by decide), kd_hold_le (kd_h240c0 hg) (by decide), trivial⟩) (by decide) (by decide +kernel) kd_e250q49 (kd_al_r kd_S250q49 trivial)
def kd_T250q50 : kd_Tc := ([(3, 259, 259), (0, 2147483649, 2147483649), (0, 2147483648, 2147483648), (0, 2147483648, 2147483648), (0, 2147483649, 2147483649)], [], kd_P250)
def kd_C250q50 : List (Nat × kd_Tc) := [(248, kd_T248c1), (240, kd_T240c1)]
def kd_S250q50 : List kd_St := []
theorem kd_e250q50 : kd_run0 kd_ty kd_x250 9 (kd_call kd_ty kd_xt (kd_ctl kd_C250q50) 600 3) kd_T250q50 600 kd_S250q50 = true := by decide +kernel
theorem kd_h250q50 {g : kc_G} (hg : kc_ok g) : kd_hold g 10 kd_ty 250 kd_T250q50 := kd_mk (d0 := 6) (di := 3) hg kd_xk250 rfl rfl rfl rfl (kd_al_r kd_C250q50 ⟨kd_hold_le (kd_h248c1 hg) (by decide), kd_hold_le (kd_h240c1 hg) (by decide), trivial⟩) (by decide) (by decide +kernel) kd_e250q50 (kd_al_r kd_S250q50 trivial)
def kd_T250q51 : kd_Tc := ([(3, 259, 259), (0, 2147483649, 2147483649), (0, 2147483648, 2147483648), (0, 2147483648, 2147483648), (0, 2147483650, 2147484647)], [], kd_P250)
def kd_C250q51 : List (Nat × kd_Tc) := []
def kd_S250q51 : List kd_St := []
theorem kd_e250q51 : kd_run0 kd_ty kd_x250 9 (kd_call kd_ty kd_xt (kd_ctl kd_C250q51) 600 3) kd_T250q51 600 kd_S250q51 = true := by decide +kernel
theorem kd_h250q51 {g : kc_G} (hg : kc_ok g) : kd_hold g 4 kd_ty 250 kd_T250q51 := kd_mk (d0 := 0) (di := 3) hg kd_xk250 rfl rfl rfl rfl (kd_al_r kd_C250q51 trivial) (by decide) (by decide +kernel) kd_e250q51 (kd_al_r kd_S250q51 trivial)
def kd_T250q52 : kd_Tc := ([(3, 259, 259), (0, 2147483649, 2147483649), (0, 2147483648, 2147483648), (0, 2147483649, 2147483649), (0, 2147482650, 2147483647)], [], kd_P250)
def kd_C250q52 : List (Nat × kd_Tc) := []
def kd_S250q52 : List kd_St := []
theorem kd_e250q52 : kd_run0 kd_ty kd_x250 9 (kd_call kd_ty kd_xt (kd_ctl kd_C250q52) 600 3) kd_T250q52 600 kd_S250q52 = true := by decide +kernel
theorem kd_h250q52 {g : kc_G} (hg : kc_ok g) : kd_hold g 4 kd_ty 250 kd_T250q52 := kd_mk (d0 := 0) (di := 3) hg kd_xk250 rfl rfl rfl rfl (kd_al_r kd_C250q52 trivial) (by decide) (by decide +kernel) kd_e250q52 (kd_al_r kd_S250q52 trivial)
def kd_T250q53 : kd_Tc := ([(3, 259, 259), (0, 2147483649, 2147483649), (0, 2147483648, 2147483648), (0, 2147483649, 2147483649), (0, 2147483648, 2147483648)], [], kd_P250)
def kd_C250q53 : List (Nat × kd_Tc) := []
def kd_S250q53 : List kd_St := []
theorem kd_e250q53 : kd_run0 kd_ty kd_x250 9 (kd_call kd_ty kd_xt (kd_ctl kd_C250q53) 600 3) kd_T250q53 600 kd_S250q53 = true := by decide +kernel
theorem kd_h250q53 {g : kc_G} (hg : kc_ok g) : kd_hold g 4 kd_ty 250 kd_T250q53 := kd_mk (d0 := 0) (di := 3) hg kd_xk250 rfl rfl rfl rfl (kd_al_r kd_C250q53 trivial) (by decide) (by decide +kernel) kd_e250q53 (kd_al_r kd_S250q53 trivial)
def kd_T250q54 : kd_Tc := ([(3, 259, 259), (0, 2147483649, 2147483649), (0, 2147483648, 2147483648), (0, 2147483649, 2147483649), (0, 2147483649, 2147483649)], [], kd_P250)
def kd_C250q54 : List (Nat × kd_Tc) := [(248, kd_T248c3), (240, kd_T240c3)]
def kd_S250q54 : List kd_St := []
theorem kd_e250q54 : kd_run0 kd_ty kd_x250 9 (kd_call kd_ty kd_xt (kd_ctl kd_C250q54) 600 3) kd_T250q54 600 kd_S250q54 = true := by decide +kernel
theorem kd_h250q54 {g : kc_G} (hg : kc_ok g) : kd_hold g 10 kd_ty 250 kd_T250q54 := kd_mk (d0 := 6) (di := 3) hg kd_xk250 rfl rfl rfl rfl (kd_al_r kd_C250q54 ⟨kd_hold_le (kd_h248c3 hg) (by decide), kd_hold_le (kd_h240c3 hg) (by decide), trivial⟩) (by decide) (by decide +kernel) kd_e250q54 (kd_al_r kd_S250q54 trivial)
def kd_T250q55 : kd_Tc := ([(3, 259, 259), (0, 2147483649, 2147483649), (0, 2147483648, 2147483648), (0, 2147483649, 2147483649), (0, 2147483650, 2147484647)], [], kd_P250)
def kd_C250q55 : List (Nat × kd_Tc) := []
def kd_S250q55 : List kd_St := []
theorem kd_e250q55 : kd_run0 kd_ty kd_x250 9 (kd_call kd_ty kd_xt (kd_ctl kd_C250q55) 600 3) kd_T250q55 600 kd_S250q55 = true := by decide +kernel
theorem kd_h250q55 {g : kc_G} (hg : kc_ok g) : kd_hold g 4 kd_ty 250 kd_T250q55 := kd_mk (d0 := 0) (di := 3) hg kd_xk250 rfl rfl rfl rfl (kd_al_r kd_C250q55 trivial) (by decide) (by decide +kernel) kd_e250q55 (kd_al_r kd_S250q55 trivial)
def kd_T250q56 : kd_Tc := ([(3, 259, 259), (0, 2147483649, 2147483649), (0, 2147483648, 2147483648), (0, 2147483650, 2147483650), (0, 2147482650, 2147483647)], [], kd_P250)
def kd_C250q56 : List (Nat × kd_Tc) := []
def kd_S250q56 : List kd_St := []
theorem kd_e250q56 : kd_run0 kd_ty kd_x250 9 (kd_call kd_ty kd_xt (kd_ctl kd_C250q56) 600 3) kd_T250q56 600 kd_S250q56 = true := by decide +kernel
theorem kd_h250q56 {g : kc_G} (hg : kc_ok g) : kd_hold g 4 kd_ty 250 kd_T250q56 := kd_mk (d0 := 0) (di := 3) hg kd_xk250 rfl rfl rfl rfl (kd_al_r kd_C250q56 trivial) (by decide) (by decide +kernel) kd_e250q56 (kd_al_r kd_S250q56 trivial)
def kd_T250q57 : kd_Tc := ([(3, 259, 259), (0, 2147483649, 2147483649), (0, 2147483648, 2147483648), (0, 2147483650, 2147483650), (0, 2147483648, 2147483648)], [], kd_P250)
def kd_C250q57 : List (Nat × kd_Tc) := [(248, kd_T248c4), (240, kd_T240c4)]
def kd_S250q57 : List kd_St := []
theorem kd_e250q57 : kd_run0 kd_ty kd_x250 9 (kd_call kd_ty kd_xt (kd_ctl kd_C250q57) 600 3) kd_T250q57 600 kd_S250q57 = true := by decide +kernel
theorem kd_h250q57 {g : kc_G} (hg : kc_ok g) : kd_hold g 10 kd_ty 250 kd_T250q57 := kd_mk (d0 := 6) (di := 3) hg kd_xk250 rfl rfl rfl rfl (kd_al_r kd_C250q57 ⟨kd_hold_le (kd_h248c4 hg) (by decide), kd_hold_le (kd_h240c4 hg) (by decide), trivial⟩) (by decide) (by decide +kernel) kd_e250q57 (kd_al_r kd_S250q57 trivial)
def kd_T250q58 : kd_Tc := ([(3, 259, 259), (0, 2147483649, 2147483649), (0, 2147483648, 2147483648), (0, 2147483650, 2147483650), (0, 2147483649, 2147483649)], [], kd_P250)
def kd_C250q58 : List (Nat × kd_Tc) := [(248, kd_T248c5), (240, kd_T240c5)]
def kd_S250q58 : List kd_St := []
theorem kd_e250q58 : kd_run0 kd_ty kd_x250 9 (kd_call kd_ty kd_xt (kd_ctl kd_C250q58) 600 3) kd_T250q58 600 kd_S250q58 = true := by decide +kernel
theorem kd_h250q58 {g : kc_G} (hg : kc_ok g) : kd_hold g 10 kd_ty 250 kd_T250q58 := kd_mk (d0 := 6) (di := 3) hg kd_xk250 rfl rfl rfl rfl (kd_al_r kd_C250q58 ⟨kd_hold_le (kd_h248c5 hg) (by decide), kd_hold_le (kd_h240c5 hg) (by decide), trivial⟩) (by decide) (by decide +kernel) kd_e250q58 (kd_al_r kd_S250q58 trivial)
def kd_T250q59 : kd_Tc := ([(3, 259, 259), (0, 2147483649, 2147483649), (0, 2147483648, 2147483648), (0, 2147483650, 2147483650), (0, 2147483650, 2147484647)], [], kd_P250)
def kd_C250q59 : List (Nat × kd_Tc) := []
def kd_S250q59 : List kd_St := []
theorem kd_e250q59 : kd_run0 kd_ty kd_x250 9 (kd_call kd_ty kd_xt (kd_ctl kd_C250q59) 600 3) kd_T250q59 600 kd_S250q59 = true := by decide +kernel
theorem kd_h250q59 {g : kc_G} (hg : kc_ok g) : kd_hold g 4 kd_ty 250 kd_T250q59 := kd_mk (d0 := 0) (di := 3) hg kd_xk250 rfl rfl rfl rfl (kd_al_r kd_C250q59 trivial) (by decide) (by decide +kernel) kd_e250q59 (kd_al_r kd_S250q59 trivial)
def kd_T250q60 : kd_Tc := ([(3, 259, 259), (0, 2147483649, 2147483649), (0, 2147483648, 2147483648), (0, 2147483651, 2147484647), (0, 2147482650, 2147483647)], [], kd_P250)
def kd_C250q60 : List (Nat × kd_Tc) := []
def kd_S250q60 : List kd_St := []
theorem kd_e250q60 : kd_run0 kd_ty kd_x250 9 (kd_call kd_ty kd_xt (kd_ctl kd_C250q60) 600 3) kd_T250q60 600 kd_S250q60 = true := by decide +kernel
theorem kd_h250q60 {g : kc_G} (hg : kc_ok g) : kd_hold g 4 kd_ty 250 kd_T250q60 := kd_mk (d0 := 0) (di := 3) hg kd_xk250 rfl rfl rfl rfl (kd_al_r kd_C250q60 trivial) (by decide) (by decide +kernel) kd_e250q60 (kd_al_r kd_S250q60 trivial)
def kd_T250q61 : kd_Tc := ([(3, 259, 259), (0, 2147483649, 2147483649), (0, 2147483648, 2147483648), (0, 2147483651, 2147484647), (0, 2147483648, 2147483648)], [], kd_P250)
def kd_C250q61 : List (Nat × kd_Tc) := []
def kd_S250q61 : List kd_St := []
theorem kd_e250q61 : kd_run0 kd_ty kd_x250 9 (kd_call kd_ty kd_xt (kd_ctl kd_C250q61) 600 3) kd_T250q61 600 kd_S250q61 = true := by decide +kernel
theorem kd_h250q61 {g : kc_G} (hg : kc_ok g) : kd_hold g 4 kd_ty 250 kd_T250q61 := kd_mk (d0 := 0) (di := 3) hg kd_xk250 rfl rfl rfl rfl (kd_al_r kd_C250q61 trivial) (by decide) (by decide +kernel) kd_e250q61 (kd_al_r kd_S250q61 trivial)
def kd_T250q62 : kd_Tc := ([(3, 259, 259), (0, 2147483649, 2147483649), (0, 2147483648, 2147483648), (0, 2147483651, 2147484647), (0, 2147483649, 2147483649)], [], kd_P250)
def kd_C250q62 : List (Nat × kd_Tc) := []
def kd_S250q62 : List kd_St := []
theorem kd_e250q62 : kd_run0 kd_ty kd_x250 9 (kd_call kd_ty kd_xt (kd_ctl kd_C250q62) 600 3) kd_T250q62 600 kd_S250q62 = true := by decide +kernel
theorem kd_h250q62 {g : kc_G} (hg : kc_ok g) : kd_hold g 4 kd_ty 250 kd_T250q62 := kd_mk (d0 := 0) (di := 3) hg kd_xk250 rfl rfl rfl rfl (kd_al_r kd_C250q62 trivial) (by decide) (by decide +kernel) kd_e250q62 (kd_al_r kd_S250q62 trivial)
def kd_T250q63 : kd_Tc := ([(3, 259, 259), (0, 2147483649, 2147483649), (0, 2147483648, 2147483648), (0, 2147483651, 2147484647), (0, 2147483650, 2147484647)], [], kd_P250)
def kd_C250q63 : List (Nat × kd_Tc) := []
def kd_S250q63 : List kd_St := []
theorem kd_e250q63 : kd_run0 kd_ty kd_x250 9 (kd_call kd_ty kd_xt (kd_ctl kd_C250q63) 600 3) kd_T250q63 600 kd_S250q63 = true := by decide +kernel
theorem kd_h250q63 {g : kc_G} (hg : kc_ok g) : kd_hold g 4 kd_ty 250 kd_T250q63 := kd_mk (d0 := 0) (di := 3) hg kd_xk250 rfl rfl rfl rfl (kd_al_r kd_C250q63 trivial) (by decide) (by decide +kernel) kd_e250q63 (kd_al_r kd_S250q63 trivial)
def kd_T250q64 : kd_Tc := ([(3, 259, 259), (0, 2147483649, 2147483649), (0, 2147483649, 2147483649), (0, 2147483648, 2147483648), (0, 2147482650, 2147483647)], [], kd_P250)
def kd_C250q64 : List (Nat × kd_Tc) := []
def kd_S250q64 : List kd_St := []
theorem kd_e250q64 : kd_run0 kd_ty kd_x250 9 (kd_call kd_ty kd_xt (kd_ctl kd_C250q64) 600 3) kd_T250q64 600 kd_S250q64 = true := by decide +kernel
theorem kd_h250q64 {g : kc_G} (hg : kc_ok g) : kd_hold g 4 kd_ty 250 kd_T250q64 := kd_mk (d0 := 0) (di := 3) hg kd_xk250 rfl rfl rfl rfl (kd_al_r kd_C250q64 trivial) (by decide) (by decide +kernel) kd_e250q64 (kd_al_r kd_S250q64 trivial)
def kd_T250q65 : kd_Tc := ([(3, 259, 259), (0, 2147483649, 2147483649), (0, 2147483649, 2147483649), (0, 2147483648, 2147483648), (0, 2147483648, 2147483648)], [], kd_P250)
def kd_C250q65 : List (Nat × kd_Tc) := [(248, kd_T248c0), (240, kd_T240c0)]
def kd_S250q65 : List kd_St := []
theorem kd_e250q65 : kd_run0 kd_ty kd_x250 9 (kd_call kd_ty kd_xt (kd_ctl kd_C250q65) 600 3) kd_T250q65 600 kd_S250q65 = true := by decide +kernel
theorem kd_h250q65 {g : kc_G} (hg : kc_ok g) : kd_hold g 10 kd_ty 250 kd_T250q65 := kd_mk (d0 := 6) (di := 3) hg kd_xk250 rfl rfl rfl rfl (kd_al_r kd_C250q65 ⟨kd_hold_le (kd_h248c0 hg) (by decide), kd_hold_le (kd_h240c0 hg) (by decide), trivial⟩) (by decide) (by decide +kernel) kd_e250q65 (kd_al_r kd_S250q65 trivial)
def kd_T250q66 : kd_Tc := ([(3, 259, 259), (0, 2147483649, 2147483649), (0, 2147483649, 2147483649), (0, 2147483648, 2147483648), (0, 2147483649, 2147483649)], [], kd_P250)
def kd_C250q66 : List (Nat × kd_Tc) := [(248, kd_T248c1), (240, kd_T240c1)]
def kd_S250q66 : List kd_St := []
theorem kd_e250q66 : kd_run0 kd_ty kd_x250 9 (kd_call kd_ty kd_xt (kd_ctl kd_C250q66) 600 3) kd_T250q66 600 kd_S250q66 = true := by decide +kernel
theorem kd_h250q66 {g : kc_G} (hg : kc_ok g) : kd_hold g 10 kd_ty 250 kd_T250q66 := kd_mk (d0 := 6) (di := 3) hg kd_xk250 rfl rfl rfl rfl (kd_al_r kd_C250q66 ⟨kd_hold_le (kd_h248c1 hg) (by decide), kd_hold_le (kd_h240c1 hg) (by decide), trivial⟩) (by decide) (by decide +kernel) kd_e250q66 (kd_al_r kd_S250q66 trivial)
def kd_T250q67 : kd_Tc := ([(3, 259, 259), (0, 2147483649, 2147483649), (0, 2147483649, 2147483649), (0, 2147483648, 2147483648), (0, 2147483650, 2147484647)], [], kd_P250)
def kd_C250q67 : List (Nat × kd_Tc) := []
def kd_S250q67 : List kd_St := []
theorem kd_e250q67 : kd_run0 kd_ty kd_x250 9 (kd_call kd_ty kd_xt (kd_ctl kd_C250q67) 600 3) kd_T250q67 600 kd_S250q67 = true := by decide +kernel
theorem kd_h250q67 {g : kc_G} (hg : kc_ok g) : kd_hold g 4 kd_ty 250 kd_T250q67 := kd_mk (d0 := 0) (di := 3) hg kd_xk250 rfl rfl rfl rfl (kd_al_r kd_C250q67 trivial) (by decide) (by decide +kernel) kd_e250q67 (kd_al_r kd_S250q67 trivial)
def kd_T250q68 : kd_Tc := ([(3, 259, 259), (0, 2147483649, 2147483649), (0, 2147483649, 2147483649), (0, 2147483649, 2147483649), (0, 2147482650, 2147483647)], [], kd_P250)
def kd_C250q68 : List (Nat × kd_Tc) := []
def kd_S250q68 : List kd_St := []
theorem kd_e250q68 : kd_run0 kd_ty kd_x250 9 (kd_call kd_ty kd_xt (kd_ctl kd_C250q68) 600 3) kd_T250q68 600 kd_S250q68 = true := by decide +kernel
theorem kd_h250q68 {g : kc_G} (hg : kc_ok g) : kd_hold g 4 kd_ty 250 kd_T250q68 := kd_mk (d0 := 0) (di := 3) hg kd_xk250 rfl rfl rfl rfl (kd_al_r kd_C250q68 trivial) (by decide) (by decide +kernel) kd_e250q68 (kd_al_r kd_S250q68 trivial)
def kd_T250q69 : kd_Tc := ([(3, 259, 259), (0, 2147483649, 2147483649), (0, 2147483649, 2147483649), (0, 2147483649, 2147483649), (0, 2147483648, 2147483648)], [], kd_P250)
def kd_C250q69 : List (Nat × kd_Tc) := [(248, kd_T248c2), (240, kd_T240c2)]
def kd_S250q69 : List kd_St := []
theorem kd_e250q69 : kd_run0 kd_ty kd_x250 9 (kd_call kd_ty kd_xt (kd_ctl kd_C250q69) 600 3) kd_T250q69 600 kd_S250q69 = true := by decide +kernel
theorem kd_h250q69 {g : kc_G} (hg : kc_ok g) : kd_hold g 10 kd_ty 250 kd_T250q69 := kd_mk (d0 := 6) (di := 3) hg kd_xk250 rfl rfl rfl rfl (kd_al_r kd_C250q69 ⟨kd_hold_le (kd_h248c2 hg) (by decide), kd_hold_le (kd_h240c2 hg) (by decide), trivial⟩) (by decide) (by decide +kernel) kd_e250q69 (kd_al_r kd_S250q69 trivial)
def kd_T250q70 : kd_Tc := ([(3, 259, 259), (0, 2147483649, 2147483649), (0, 2147483649, 2147483649), (0, 2147483649, 2147483649), (0, 2147483649, 2147483649)], [], kd_P250)
def kd_C250q70 : List (Nat × kd_Tc) := []
def kd_S250q70 : List kd_St := []
theorem kd_e250q70 : kd_run0 kd_ty kd_x250 9 (kd_call kd_ty kd_xt (kd_ctl kd_C250q70) 600 3) kd_T250q70 600 kd_S250q70 = true := by decide +kernel
theorem kd_h250q70 {g : kc_G} (hg : kc_ok g) : kd_hold g 4 kd_ty 250 kd_T250q70 := kd_mk (d0 := 0) (di := 3) hg kd_xk250 rfl rfl rfl rfl (kd_al_r kd_C250q70 trivial) (by decide) (by decide +kernel) kd_e250q70 (kd_al_r kd_S250q70 trivial)
def kd_T250q71 : kd_Tc := ([(3, 259, 259), (0, 2147483649, 2147483649), (0, 2147483649, 2147483649), (0, 2147483649, 2147483649), (0, 2147483650, 2147484647)], [], kd_P250)
def kd_C250q71 : List (Nat × kd_Tc) := []
def kd_S250q71 : List kd_St := []
theorem kd_e250q71 : kd_run0 kd_ty kd_x250 9 (kd_call kd_ty kd_xt (kd_ctl kd_C250q71) 600 3) kd_T250q71 600 kd_S250q71 = true := by decide +kernel
theorem kd_h250q71 {g : kc_G} (hg : kc_ok g) : kd_hold g 4 kd_ty 250 kd_T250q71 := kd_mk (d0 := 0) (di := 3) hg kd_xk250 rfl rfl rfl rfl (kd_al_r kd_C250q71 trivial) (by decide) (by decide +kernel) kd_e250q71 (kd_al_r kd_S250q71 trivial)
def kd_T250q72 : kd_Tc := ([(3, 259, 259), (0, 2147483649, 2147483649), (0, 2147483649, 2147483649), (0, 2147483650, 2147483650), (0, 2147482650, 2147483647)], [], kd_P250)
def kd_C250q72 : List (Nat × kd_Tc) := []
def kd_S250q72 : List kd_St := []
theorem kd_e250q72 : kd_run0 kd_ty kd_x250 9 (kd_call kd_ty kd_xt (kd_ctl kd_C250q72) 600 3) kd_T250q72 600 kd_S250q72 = true := by decide +kernel
theorem kd_h250q72 {g : kc_G} (hg : kc_ok g) : kd_hold g 4 kd_ty 250 kd_T250q72 := kd_mk (d0 := 0) (di := 3) hg kd_xk250 rfl rfl rfl rfl (kd_al_r kd_C250q72 trivial) (by decide) (by decide +kernel) kd_e250q72 (kd_al_r kd_S250q72 trivial)
def kd_T250q73 : kd_Tc := ([(3, 259, 259), (0, 2147483649, 2147483649), (0, 2147483649, 2147483649), (0, 2147483650, 2147483650), (0, 2147483648, 2147483648)], [], kd_P250)
def kd_C250q73 : List (Nat × kd_Tc) := [(248, kd_T248c4), (240, kd_T240c4)]
def kd_S250q73 : List kd_St := []
theorem kd_e250q73 : kd_run0 kd_ty kd_x250 9 (kd_call kd_ty kd_xt (kd_ctl kd_C250q73) 600 3) kd_T250q73 600 kd_S250q73 = true := by decide +kernel
theorem kd_h250q73 {g : kc_G} (hg : kc_ok g) : kd_hold g 10 kd_ty 250 kd_T250q73 := kd_mk (d0 := 6) (di := 3) hg kd_xk250 rfl rfl rfl rfl (kd_al_r kd_C250q73 ⟨kd_hold_le (kd_h248c4 hg) (by decide), kd_hold_le (kd_h240c4 hg) (by decide), trivial⟩) (by decide) (by decide +kernel) kd_e250q73 (kd_al_r kd_S250q73 trivial)
def kd_T250q74 : kd_Tc := ([(3, 259, 259), (0, 2147483649, 2147483649), (0, 2147483649, 2147483649), (0, 2147483650, 2147483650), (0, 2147483649, 2147483649)], [], kd_P250)
def kd_C250q74 : List (Nat × kd_Tc) := [(248, kd_T248c5), (240, kd_T240c5)]
def kd_S250q74 : List kd_St := []
theorem kd_e250q74 : kd_run0 kd_ty kd_x250 9 (kd_call kd_ty kd_xt (kd_ctl kd_C250q74) 600 3) kd_T250q74 600 kd_S250q74 = true := by decide +kernel
theorem kd_h250q74 {g : kc_G} (hg : kc_ok g) : kd_hold g 10 kd_ty 250 kd_T250q74 := kd_mk (d0 := 6) (di := 3) hg kd_xk250 rfl rfl rfl rfl (kd_al_r kd_C250q74 ⟨kd_hold_le (kd_h248c5 hg) (by decide), kd_hold_le (kd_h240c5 hg) (by decide), trivial⟩) (by decide) (by decide +kernel) kd_e250q74 (kd_al_r kd_S250q74 trivial)
def kd_T250q75 : kd_Tc := ([(3, 259, 259), (0, 2147483649, 2147483649), (0, 2147483649, 2147483649), (0, 2147483650, 2147483650), (0, 2147483650, 2147484647)], [], kd_P250)
def kd_C250q75 : List (Nat × kd_Tc) := []
def kd_S250q75 : List kd_St := []
theorem kd_e250q75 : kd_run0 kd_ty kd_x250 9 (kd_call kd_ty kd_xt (kd_ctl kd_C250q75) 600 3) kd_T250q75 600 kd_S250q75 = true := by decide +kernel
theorem kd_h250q75 {g : kc_G} (hg : kc_ok g) : kd_hold g 4 kd_ty 250 kd_T250q75 := kd_mk (d0 := 0) (di := 3) hg kd_xk250 rfl rfl rfl rfl (kd_al_r kd_C250q75 trivial) (by decide) (by decide +kernel) kd_e250q75 (kd_al_r kd_S250q75 trivial)
def kd_T250q76 : kd_Tc := ([(3, 259, 259), (0, 2147483649, 2147483649), (0, 2147483649, 2147483649), (0, 2147483651, 2147484647), (0, 2147482650, 2147483647)], [], kd_P250)
def kd_C250q76 : List (Nat × kd_Tc) := []
def kd_S250q76 : List kd_St := []
theorem kd_e250q76 : kd_run0 kd_ty kd_x250 9 (kd_call kd_ty kd_xt (kd_ctl kd_C250q76) 600 3) kd_T250q76 600 kd_S250q76 = true := by decide +kernel
theorem kd_h250q76 {g : kc_G} (hg : kc_ok g) : kd_hold g 4 kd_ty 250 kd_T250q76 := kd_mk (d0 := 0) (di := 3) hg kd_xk250 rfl rfl rfl rfl (kd_al_r kd_C250q76 trivial) (by decide) (by decide +kernel) kd_e250q76 (kd_al_r kd_S250q76 trivial)
def kd_T250q77 : kd_Tc := ([(3, 259, 259), (0, 2147483649, 2147483649), (0, 2147483649, 2147483649), (0, 2147483651, 2147484647), (0, 2147483648, 2147483648)], [], kd_P250)
def kd_C250q77 : List (Nat × kd_Tc) := []
def kd_S250q77 : List kd_St := []
theorem kd_e250q77 : kd_run0 kd_ty kd_x250 9 (kd_call kd_ty kd_xt (kd_ctl kd_C250q77) 600 3) kd_T250q77 600 kd_S250q77 = true := by decide +kernel
theorem kd_h250q77 {g : kc_G} (hg : kc_ok g) : kd_hold g 4 kd_ty 250 kd_T250q77 := kd_mk (d0 := 0) (di := 3) hg kd_xk250 rfl rfl rfl rfl (kd_al_r kd_C250q77 trivial) (by decide) (by decide +kernel) kd_e250q77 (kd_al_r kd_S250q77 trivial)
def kd_T250q78 : kd_Tc := ([(3, 259, 259), (0, 2147483649, 2147483649), (0, 2147483649, 2147483649), (0, 2147483651, 2147484647), (0, 2147483649, 2147483649)], [], kd_P250)
def kd_C250q78 : List (Nat × kd_Tc) := []
def kd_S250q78 : List kd_St := []
theorem kd_e250q78 : kd_run0 kd_ty kd_x250 9 (kd_call kd_ty kd_xt (kd_ctl kd_C250q78) 600 3) kd_T250q78 600 kd_S250q78 = true := by decide +kernel
theorem kd_h250q78 {g : kc_G} (hg : kc_ok g) : kd_hold g 4 kd_ty 250 kd_T250q78 := kd_mk (d0 := 0) (di := 3) hg kd_xk250 rfl rfl rfl rfl (kd_al_r kd_C250q78 trivial) (by decide) (by decide +kernel) kd_e250q78 (kd_al_r kd_S250q78 trivial)
def kd_T250q79 : kd_Tc := ([(3, 259, 259), (0, 2147483649, 2147483649), (0, 2147483649, 2147483649), (0, 2147483651, 2147484647), (0, 2147483650, 2147484647)], [], kd_P250)
def kd_C250q79 : List (Nat × kd_Tc) := []
def kd_S250q79 : List kd_St := []
theorem kd_e250q79 : kd_run0 kd_ty kd_x250 9 (kd_call kd_ty kd_xt (kd_ctl kd_C250q79) 600 3) kd_T250q79 600 kd_S250q79 = true := by decide +kernel
theorem kd_h250q79 {g : kc_G} (hg : kc_ok g) : kd_hold g 4 kd_ty 250 kd_T250q79 := kd_mk (d0 := 0) (di := 3) hg kd_xk250 rfl rfl rfl rfl (kd_al_r kd_C250q79 trivial) (by decide) (by decide +kernel) kd_e250q79 (kd_al_r kd_S250q79 trivial)
def kd_T250q80 : kd_Tc := ([(3, 259, 259), (0, 2147483649, 2147483649), (0, 2147483650, 2147484647), (0, 2147483648, 2147483648), (0, 2147482650, 2147483647)], [], kd_P250)
def kd_C250q80 : List (Nat × kd_Tc) := []
def kd_S250q80 : List kd_St := []
theorem kd_e250q80 : kd_run0 kd_ty kd_x250 9 (kd_call kd_ty kd_xt (kd_ctl kd_C250q80) 600 3) kd_T250q80 600 kd_S250q80 = true := by decide +kernel
theorem kd_h250q80 {g : kc_G} (hg : kc_ok g) : kd_hold g 4 kd_ty 250 kd_T250q80 := kd_mk (d0 := 0) (di := 3) hg kd_xk250 rfl rfl rfl rfl (kd_al_r kd_C250q80 trivial) (by decide) (by decide +kernel) kd_e250q80 (kd_al_r kd_S250q80 trivial)
def kd_T250q81 : kd_Tc := ([(3, 259, 259), (0, 2147483649, 2147483649), (0, 2147483650, 2147484647), (0, 2147483648, 2147483648), (0, 2147483648, 2147483648)], [], kd_P250)
def kd_C250q81 : List (Nat × kd_Tc) := []
def kd_S250q81 : List kd_St := []
theorem kd_e250q81 : kd_run0 kd_ty kd_x250 9 (kd_call kd_ty kd_xt (kd_ctl kd_C250q81) 600 3) kd_T250q81 600 kd_S250q81 = true := by decide +kernel
theorem kd_h250q81 {g : kc_G} (hg : kc_ok g) : kd_hold g 4 kd_ty 250 kd_T250q81 := kd_mk (d0 := 0) (di := 3) hg kd_xk250 rfl rfl rfl rfl (kd_al_r kd_C250q81 trivial) (by decide) (by decide +kernel) kd_e250q81 (kd_al_r kd_S250q81 trivial)
def kd_T250q82 : kd_Tc := ([(3, 259, 259), (0, 2147483649, 2147483649), (0, 2147483650, 2147484647), (0, 2147483648, 2147483648), (0, 2147483649, 2147483649)], [], kd_P250)
def kd_C250q82 : List (Nat × kd_Tc) := []
def kd_S250q82 : List kd_St := []
theorem kd_e250q82 : kd_run0 kd_ty kd_x250 9 (kd_call kd_ty kd_xt (kd_ctl kd_C250q82) 600 3) kd_T250q82 600 kd_S250q82 = true := by decide +kernel
theorem kd_h250q82 {g : kc_G} (hg : kc_ok g) : kd_hold g 4 kd_ty 250 kd_T250q82 := kd_mk (d0 := 0) (di := 3) hg kd_xk250 rfl rfl rfl rfl (kd_al_r kd_C250q82 trivial) (by decide) (by decide +kernel) kd_e250q82 (kd_al_r kd_S250q82 trivial)
def kd_T250q83 : kd_Tc := ([(3, 259, 259), (0, 2147483649, 2147483649), (0, 2147483650, 2147484647), (0, 2147483648, 2147483648), (0, 2147483650, 2147484647)], [], kd_P250)
def kd_C250q83 : List (Nat × kd_Tc) := []
def kd_S250q83 : List kd_St := []
theorem kd_e250q83 : kd_run0 kd_ty kd_x250 9 (kd_call kd_ty kd_xt (kd_ctl kd_C250q83) 600 3) kd_T250q83 600 kd_S250q83 = true := by decide +kernel
theorem kd_h250q83 {g : kc_G} (hg : kc_ok g) : kd_hold g 4 kd_ty 250 kd_T250q83 := kd_mk (d0 := 0) (di := 3) hg kd_xk250 rfl rfl rfl rfl (kd_al_r kd_C250q83 trivial) (by decide) (by decide +kernel) kd_e250q83 (kd_al_r kd_S250q83 trivial)
def kd_T250q84 : kd_Tc := ([(3, 259, 259), (0, 2147483649, 2147483649), (0, 2147483650, 2147484647), (0, 2147483649, 2147483649), (0, 2147482650, 2147483647)], [], kd_P250)
def kd_C250q84 : List (Nat × kd_Tc) := []
def kd_S250q84 : List kd_St := []
theorem kd_e250q84 : kd_run0 kd_ty kd_x250 9 (kd_call kd_ty kd_xt (kd_ctl kd_C250q84) 600 3) kd_T250q84 600 kd_S250q84 = true := by decide +kernel
theorem kd_h250q84 {g : kc_G} (hg : kc_ok g) : kd_hold g 4 kd_ty 250 kd_T250q84 := kd_mk (d0 := 0) (di := 3) hg kd_xk250 rfl rfl rfl rfl (kd_al_r kd_C250q84 trivial) (by decide) (by decide +kernel) kd_e250q84 (kd_al_r kd_S250q84 trivial)
def kd_T250q85 : kd_Tc := ([(3, 259, 259), (0, 2147483649, 2147483649), (0, 2147483650, 2147484647), (0, 2147483649, 2147483649), (0, 2147483648, 2147483648)], [], kd_P250)
def kd_C250q85 : List (Nat × kd_Tc) := []
def kd_S250q85 : List kd_St := []
theorem kd_e250q85 : kd_run0 kd_ty kd_x250 9 (kd_call kd_ty kd_xt (kd_ctl kd_C250q85) 600 3) kd_T250q85 600 kd_S250q85 = true := by decide +kernel
theorem kd_h250q85 {g : kc_G} (hg : kc_ok g) : kd_hold g 4 kd_ty 250 kd_T250q85 := kd_mk (d0 := 0) (di := 3) hg kd_xk250 rfl rfl rfl rfl (kd_al_r kd_C250q85 trivial) (by decide) (by decide +kernel) kd_e250q85 (kd_al_r kd_S250q85 trivial)
def kd_T250q86 : kd_Tc := ([(3, 259, 259), (0, 2147483649, 2147483649), (0, 2147483650, 2147484647), (0, 2147483649, 2147483649), (0, 2147483649, 2147483649)], [], kd_P250)
def kd_C250q86 : List (Nat × kd_Tc) := []
def kd_S250q86 : List kd_St := []
theorem kd_e250q86 : kd_run0 kd_ty kd_x250 9 (kd_call kd_ty kd_xt (kd_ctl kd_C250q86) 600 3) kd_T250q86 600 kd_S250q86 = true := by decide +kernel
theorem kd_h250q86 {g : kc_G} (hg : kc_ok g) : kd_hold g 4 kd_ty 250 kd_T250q86 := kd_mk (d0 := 0) (di := 3) hg kd_xk250 rfl rfl rfl rfl (kd_al_r kd_C250q86 trivial) (by decide) (by decide +kernel) kd_e250q86 (kd_al_r kd_S250q86 trivial)
def kd_T250q87 : kd_Tc := ([(3, 259, 259), (0, 2147483649, 2147483649), (0, 2147483650, 2147484647), (0, 2147483649, 2147483649), (0, 2147483650, 2147484647)], [], kd_P250)
def kd_C250q87 : List (Nat × kd_Tc) := []
def kd_S250q87 : List kd_St := []
theorem kd_e250q87 : kd_run0 kd_ty kd_x250 9 (kd_call kd_ty kd_xt (kd_ctl kd_C250q87) 600 3) kd_T250q87 600 kd_S250q87 = true := by decide +kernel
theorem kd_h250q87 {g : kc_G} (hg : kc_ok g) : kd_hold g 4 kd_ty 250 kd_T250q87 := kd_mk (d0 := 0) (di := 3) hg kd_xk250 rfl rfl rfl rfl (kd_al_r kd_C250q87 trivial) (by decide) (by decide +kernel) kd_e250q87 (kd_al_r kd_S250q87 trivial)
def kd_T250q88 : kd_Tc := ([(3, 259, 259), (0, 2147483649, 2147483649), (0, 2147483650, 2147484647), (0, 2147483650, 2147483650), (0, 2147482650, 2147483647)], [], kd_P250)
def kd_C250q88 : List (Nat × kd_Tc) := []
def kd_S250q88 : List kd_St := []
theorem kd_e250q88 : kd_run0 kd_ty kd_x250 9 (kd_call kd_ty kd_xt (kd_ctl kd_C250q88) 600 3) kd_T250q88 600 kd_S250q88 = true := by decide +kernel
theorem kd_h250q88 {g : kc_G} (hg : kc_ok g) : kd_hold g 4 kd_ty 250 kd_T250q88 := kd_mk (d0 := 0) (di := 3) hg kd_xk250 rfl rfl rfl rfl (kd_al_r kd_C250q88 trivial) (by decide) (by decide +kernel) kd_e250q88 (kd_al_r kd_S250q88 trivial)
def kd_T250q89 : kd_Tc := ([(3, 259, 259), (0, 2147483649, 2147483649), (0, 2147483650, 2147484647), (0, 2147483650, 2147483650), (0, 2147483648, 2147483648)], [], kd_P250)
def kd_C250q89 : List (Nat × kd_Tc) := []
def kd_S250q89 : List kd_St := []
theorem kd_e250q89 : kd_run0 kd_ty kd_x250 9 (kd_call kd_ty kd_xt (kd_ctl kd_C250q89) 600 3) kd_T250q89 600 kd_S250q89 = true := by decide +kernel
theorem kd_h250q89 {g : kc_G} (hg : kc_ok g) : kd_hold g 4 kd_ty 250 kd_T250q89 := kd_mk (d0 := 0) (di := 3) hg kd_xk250 rfl rfl rfl rfl (kd_al_r kd_C250q89 trivial) (by decide) (by decide +kernel) kd_e250q89 (kd_al_r kd_S250q89 trivial)
def kd_T250q90 : kd_Tc := ([(3, 259, 259), (0, 2147483649, 2147483649), (0, 2147483650, 2147484647), (0, 2147483650, 2147483650), (0, 2147483649, 2147483649)], [], kd_P250)
def kd_C250q90 : List (Nat × kd_Tc) := []
def kd_S250q90 : List kd_St := []
theorem kd_e250q90 : kd_run0 kd_ty kd_x250 9 (kd_call kd_ty kd_xt (kd_ctl kd_C250q90) 600 3) kd_T250q90 600 kd_S250q90 = true := by decide +kernel
theorem kd_h250q90 {g : kc_G} (hg : kc_ok g) : kd_hold g 4 kd_ty 250 kd_T250q90 := kd_mk (d0 := 0) (di := 3) hg kd_xk250 rfl rfl rfl rfl (kd_al_r kd_C250q90 trivial) (by decide) (by decide +kernel) kd_e250q90 (kd_al_r kd_S250q90 trivial)
def kd_T250q91 : kd_Tc := ([(3, 259, 259), (0, 2147483649, 2147483649), (0, 2147483650, 2147484647), (0, 2147483650, 2147483650), (0, 2147483650, 2147484647)], [], kd_P250)
def kd_C250q91 : List (Nat × kd_Tc) := []
def kd_S250q91 : List kd_St := []
theorem kd_e250q91 : kd_run0 kd_ty kd_x250 9 (kd_call kd_ty kd_xt (kd_ctl kd_C250q91) 600 3) kd_T250q91 600 kd_S250q91 = true := by decide +kernel
theorem kd_h250q91 {g : kc_G} (hg : kc_ok g) : kd_hold g 4 kd_ty 250 kd_T250q91 := kd_mk (d0 := 0) (di := 3) hg kd_xk250 rfl rfl rfl rfl (kd_al_r kd_C250q91 trivial) (by decide) (by decide +kernel) kd_e250q91 (kd_al_r kd_S250q91 trivial)
def kd_T250q92 : kd_Tc := ([(3, 259, 259), (0, 2147483649, 2147483649), (0, 2147483650, 2147484647), (0, 2147483651, 2147484647), (0, 2147482650, 2147483647)], [], kd_P250)
def kd_C250q92 : List (Nat × kd_Tc) := []
def kd_S250q92 : List kd_St := []
theorem kd_e250q92 : kd_run0 kd_ty kd_x250 9 (kd_call kd_ty kd_xt (kd_ctl kd_C250q92) 600 3) kd_T250q92 600 kd_S250q92 = true := by decide +kernel
theorem kd_h250q92 {g : kc_G} (hg : kc_ok g) : kd_hold g 4 kd_ty 250 kd_T250q92 := kd_mk (d0 := 0) (di := 3) hg kd_xk250 rfl rfl rfl rfl (kd_al_r kd_C250q92 trivial) (by decide) (by decide +kernel) kd_e250q92 (kd_al_r kd_S250q92 trivial)
def kd_T250q93 : kd_Tc := ([(3, 259, 259), (0, 2147483649, 2147483649), (0, 2147483650, 2147484647), (0, 2147483651, 2147484647), (0, 2147483648, 2147483648)], [], kd_P250)
def kd_C250q93 : List (Nat × kd_Tc) := []
def kd_S250q93 : List kd_St := []
theorem kd_e250q93 : kd_run0 kd_ty kd_x250 9 (kd_call kd_ty kd_xt (kd_ctl kd_C250q93) 600 3) kd_T250q93 600 kd_S250q93 = true := by decide +kernel
theorem kd_h250q93 {g : kc_G} (hg : kc_ok g) : kd_hold g 4 kd_ty 250 kd_T250q93 := kd_mk (d0 := 0) (di := 3) hg kd_xk250 rfl rfl rfl rfl (kd_al_r kd_C250q93 trivial) (by decide) (by decide +kernel) kd_e250q93 (kd_al_r kd_S250q93 trivial)
def kd_T250q94 : kd_Tc := ([(3, 259, 259), (0, 2147483649, 2147483649), (0, 2147483650, 2147484647), (0, 2147483651, 2147484647), (0, 2147483649, 2147483649)], [], kd_P250)
def kd_C250q94 : List (Nat × kd_Tc) := []
def kd_S250q94 : List kd_St := []
theorem kd_e250q94 : kd_run0 kd_ty kd_x250 9 (kd_call kd_ty kd_xt (kd_ctl kd_C250q94) 600 3) kd_T250q94 600 kd_S250q94 = true := by decide +kernel
theorem kd_h250q94 {g : kc_G} (hg : kc_ok g) : kd_hold g 4 kd_ty 250 kd_T250q94 := kd_mk (d0 := 0) (di := 3) hg kd_xk250 rfl rfl rfl rfl (kd_al_r kd_C250q94 trivial) (by decide) (by decide +kernel) kd_e250q94 (kd_al_r kd_S250q94 trivial)
def kd_T250q95 : kd_Tc := ([(3, 259, 259), (0, 2147483649, 2147483649), (0, 2147483650, 2147484647), (0, 2147483651, 2147484647), (0, 2147483650, 2147484647)], [], kd_P250)
def kd_C250q95 : List (Nat × kd_Tc) := []
def kd_S250q95 : List kd_St := []
theorem kd_e250q95 : kd_run0 kd_ty kd_x250 9 (kd_call kd_ty kd_xt (kd_ctl kd_C250q95) 600 3) kd_T250q95 600 kd_S250q95 = true := by decide +kernel
theorem kd_h250q95 {g : kc_G} (hg : kc_ok g) : kd_hold g 4 kd_ty 250 kd_T250q95 := kd_mk (d0 := 0) (di := 3) hg kd_xk250 rfl rfl rfl rfl (kd_al_r kd_C250q95 trivial) (by decide) (by decide +kernel) kd_e250q95 (kd_al_r kd_S250q95 trivial)
def kd_T250q96 : kd_Tc := ([(3, 259, 259), (0, 2147483650, 2147483650), (0, 2147483648, 2147483648), (0, 2147483648, 2147483648), (0, 2147482650, 2147483647)], [], kd_P250)
def kd_C250q96 : List (Nat × kd_Tc) := []
def kd_S250q96 : List kd_St := []
theorem kd_e250q96 : kd_run0 kd_ty kd_x250 9 (kd_call kd_ty kd_xt (kd_ctl kd_C250q96) 600 3) kd_T250q96 600 kd_S250q96 = true := by decide +kernel
theorem kd_h250q96 {g : kc_G} (hg : kc_ok g) : kd_hold g 4 kd_ty 250 kd_T250q96 := kd_mk (d0 := 0) (di := 3) hg kd_xk250 rfl rfl rfl rfl (kd_al_r kd_C250q96 trivial) (by decide) (by decide +kernel) kd_e250q96 (kd_al_r kd_S250q96 trivial)
def kd_T250q97 : kd_Tc := ([(3, 259, 259), (0, 2147483650, 2147483650), (0, 2147483648, 2147483648), (0, 2147483648, 2147483648), (0, 2147483648, 2147483648)], [], kd_P250)
def kd_C250q97 : List (Nat × kd_Tc) := [(248, kd_T248c0), (240, kd_T240c0)]
def kd_S250q97 : List kd_St := []
theorem kd_e250q97 : kd_run0 kd_ty kd_x250 9 (kd_call kd_ty kd_xt (kd_ctl kd_C250q97) 600 3) kd_T250q97 600 kd_S250q97 = true := by decide +kernel
theorem kd_h250q97 {g : kc_G} (hg : kc_ok g) : kd_hold g 10 kd_ty 250 kd_T250q97 := kd_mk (d0 := 6) (di := 3) hg kd_xk250 rfl rfl rfl rfl (kd_al_r kd_C250q97 ⟨kd_hold_le (kd_h248c0 hg) (by decide), kd_hold_le (kd_h240c0 hg) (by decide), trivial⟩) (by decide) (by decide +kernel) kd_e250q97 (kd_al_r kd_S250q97 trivial)
def kd_T250q98 : kd_Tc := ([(3, 259, 259), (0, 2147483650, 2147483650), (0, 2147483648, 2147483648), (0, 2147483648, 2147483648), (0, 2147483649, 2147483649)], [], kd_P250)
def kd_C250q98 : List (Nat × kd_Tc) := [(248, kd_T248c1), (240, kd_T240c1)]
def kd_S250q98 : List kd_St := []
theorem kd_e250q98 : kd_run0 kd_ty kd_x250 9 (kd_call kd_ty kd_xt (kd_ctl kd_C250q98) 600 3) kd_T250q98 600 kd_S250q98 = true := by decide +kernel
theorem kd_h250q98 {g : kc_G} (hg : kc_ok g) : kd_hold g 10 kd_ty 250 kd_T250q98 := kd_mk (d0 := 6) (di := 3) hg kd_xk250 rfl rfl rfl rfl (kd_al_r kd_C250q98 ⟨kd_hold_le (kd_h248c1 hg) (by decide), kd_hold_le (kd_h240c1 hg) (by decide), trivial⟩) (by decide) (by decide +kernel) kd_e250q98 (kd_al_r kd_S250q98 trivial)
def kd_T250q99 : kd_Tc := ([(3, 259, 259), (0, 2147483650, 2147483650), (0, 2147483648, 2147483648), (0, 2147483648, 2147483648), (0, 2147483650, 2147484647)], [], kd_P250)
def kd_C250q99 : List (Nat × kd_Tc) := []
def kd_S250q99 : List kd_St := []
theorem kd_e250q99 : kd_run0 kd_ty kd_x250 9 (kd_call kd_ty kd_xt (kd_ctl kd_C250q99) 600 3) kd_T250q99 600 kd_S250q99 = true := by decide +kernel
theorem kd_h250q99 {g : kc_G} (hg : kc_ok g) : kd_hold g 4 kd_ty 250 kd_T250q99 := kd_mk (d0 := 0) (di := 3) hg kd_xk250 rfl rfl rfl rfl (kd_al_r kd_C250q99 trivial) (by decide) (by decide +kernel) kd_e250q99 (kd_al_r kd_S250q99 trivial)
def kd_T250q100 : kd_Tc := ([(3, 259, 259), (0, 2147483650, 2147483650), (0, 2147483648, 2147483648), (0, 2147483649, 2147483649), (0, 2147482650, 2147483647)], [], kd_P250)
def kd_C250q100 : List (Nat × kd_Tc) := []
def kd_S250q100 : List kd_St := []
theorem kd_e250q100 : kd_run0 kd_ty kd_x250 9 (kd_call kd_ty kd_xt (kd_ctl kd_C250q100) 600 3) kd_T250q100 600 kd_S250q100 = true := by decide +kernel
theorem kd_h250q100 {g : kc_G} (hg : kc_ok g) : kd_hold g 4 kd_ty 250 kd_T250q100 := kd_mk (d0 := 0) (di := 3) hg kd_xk250 rfl rfl rfl rfl (kd_al_r kd_C250q100 trivial) (by decide) (by decide +kernel) kd_e250q100 (kd_al_r kd_S250q100 trivial)
def kd_T250q101 : kd_Tc := ([(3, 259, 259), (0, 2147483650, 2147483650), (0, 2147483648, 2147483648), (0, 2147483649, 2147483649), (0, 2147483648, 2147483648)], [], kd_P250)
def kd_C250q101 : List (Nat × kd_Tc) := [(248, kd_T248c2), (240, kd_T240c2)]
def kd_S250q101 : List kd_St := []
theorem kd_e250q101 : kd_run0 kd_ty kd_x250 9 (kd_call kd_ty kd_xt (kd_ctl kd_C250q101) 600 3) kd_T250q101 600 kd_S250q101 = true := by decide +kernel
theorem kd_h250q101 {g : kc_G} (hg : kc_ok g) : kd_hold g 10 kd_ty 250 kd_T250q101 := kd_mk (d0 := 6) (di := 3) hg kd_xk250 rfl rfl rfl rfl (kd_al_r kd_C250q101 ⟨kd_hold_le (kd_h248c2 hg) (by decide), kd_hold_le (kd_h240c2 hg) (by decide), trivial⟩) (by decide) (by decide +kernel) kd_e250q101 (kd_al_r kd_S250q101 trivial)
def kd_T250q102 : kd_Tc := ([(3, 259, 259), (0, 2147483650, 2147483650), (0, 2147483648, 2147483648), (0, 2147483649, 2147483649), (0, 2147483649, 2147483649)], [], kd_P250)
def kd_C250q102 : List (Nat × kd_Tc) := [(248, kd_T248c3), (240, kd_T240c3)]
def kd_S250q102 : List kd_St := []
theorem kd_e250q102 : kd_run0 kd_ty kd_x250 9 (kd_call kd_ty kd_xt (kd_ctl kd_C250q102) 600 3) kd_T250q102 600 kd_S250q102 = true := by decide +kernel
theorem kd_h250q102 {g : kc_G} (hg : kc_ok g) : kd_hold g 10 kd_ty 250 kd_T250q102 := kd_mk (d0 := 6) (di := 3) hg kd_xk250 rfl rfl rfl rfl (kd_al_r kd_C250q102 ⟨kd_hold_le (kd_h248c3 hg) (by decide), kd_hold_le (kd_h240c3 hg) (by decide), trivial⟩) (by decide) (by decide +kernel) kd_e250q102 (kd_al_r kd_S250q102 trivial)
def kd_T250q103 : kd_Tc := ([(3, 259, 259), (0, 2147483650, 2147483650), (0, 2147483648, 2147483648), (0, 2147483649, 2147483649), (0, 2147483650, 2147484647)], [], kd_P250)
def kd_C250q103 : List (Nat × kd_Tc) := []
def kd_S250q103 : List kd_St := []
theorem kd_e250q103 : kd_run0 kd_ty kd_x250 9 (kd_call kd_ty kd_xt (kd_ctl kd_C250q103) 600 3) kd_T250q103 600 kd_S250q103 = true := by decide +kernel
theorem kd_h250q103 {g : kc_G} (hg : kc_ok g) : kd_hold g 4 kd_ty 250 kd_T250q103 := kd_mk (d0 := 0) (di := 3) hg kd_xk250 rfl rfl rfl rfl (kd_al_r kd_C250q103 trivial) (by decide) (by decide +kernel) kd_e250q103 (kd_al_r kd_S250q103 trivial)
def kd_T250q104 : kd_Tc := ([(3, 259, 259), (0, 2147483650, 2147483650), (0, 2147483648, 2147483648), (0, 2147483650, 2147483650), (0, 2147482650, 2147483647)], [], kd_P250)
def kd_C250q104 : List (Nat × kd_Tc) := []
def kd_S250q104 : List kd_St := []
theorem kd_e250q104 : kd_run0 kd_ty kd_x250 9 (kd_call kd_ty kd_xt (kd_ctl kd_C250q104) 600 3) kd_T250q104 600 kd_S250q104 = true := by decide +kernel
theorem kd_h250q104 {g : kc_G} (hg : kc_ok g) : kd_hold g 4 kd_ty 250 kd_T250q104 := kd_mk (d0 := 0) (di := 3) hg kd_xk250 rfl rfl rfl rfl (kd_al_r kd_C250q104 trivial) (by decide) (by decide +kernel) kd_e250q104 (kd_al_r kd_S250q104 trivial)
def kd_T250q105 : kd_Tc := ([(3, 259, 259), (0, 2147483650, 2147483650), (0, 2147483648, 2147483648), (0, 2147483650, 2147483650), (0, 2147483648, 2147483648)], [], kd_P250)
def kd_C250q105 : List (Nat × kd_Tc) := []
def kd_S250q105 : List kd_St := []
theorem kd_e250q105 : kd_run0 kd_ty kd_x250 9 (kd_call kd_ty kd_xt (kd_ctl kd_C250q105) 600 3) kd_T250q105 600 kd_S250q105 = true := by decide +kernel
theorem kd_h250q105 {g : kc_G} (hg : kc_ok g) : kd_hold g 4 kd_ty 250 kd_T250q105 := kd_mk (d0 := 0) (di := 3) hg kd_xk250 rfl rfl rfl rfl (kd_al_r kd_C250q105 trivial) (by decide) (by decide +kernel) kd_e250q105 (kd_al_r kd_S250q105 trivial)
def kd_T250q106 : kd_Tc := ([(3, 259, 259), (0, 2147483650, 2147483650), (0, 2147483648, 2147483648), (0, 2147483650, 2147483650), (0, 2147483649, 2147483649)], [], kd_P250)
def kd_C250q106 : List (Nat × kd_Tc) := [(248, kd_T248c5), (240, kd_T240c5)]
def kd_S250q106 : List kd_St := []
theorem kd_e250q106 : kd_run0 kd_ty kd_x250 9 (kd_call kd_ty kd_xt (kd_ctl kd_C250q106) 600 3) kd_T250q106 600 kd_S250q106 = true := by decide +kernel
theorem kd_h250q106 {g : kc_G} (hg : kc_ok g) : kd_hold g 10 kd_ty 250 kd_T250q106 := kd_mk (d0 := 6) (di := 3) hg kd_xk250 rfl rfl rfl rfl (kd_al_r kd_C250q106 ⟨kd_hold_le (kd_h248c5 hg) (by decide), kd_hold_le (kd_h240c5 hg) (by decide), trivial⟩) (by decide) (by decide +kernel) kd_e250q106 (kd_al_r kd_S250q106 trivial)
def kd_T250q107 : kd_Tc := ([(3, 259, 259), (0, 2147483650, 2147483650), (0, 2147483648, 2147483648), (0, 2147483650, 2147483650), (0, 2147483650, 2147484647)], [], kd_P250)
def kd_C250q107 : List (Nat × kd_Tc) := []
def kd_S250q107 : List kd_St := []
theorem kd_e250q107 : kd_run0 kd_ty kd_x250 9 (kd_call kd_ty kd_xt (kd_ctl kd_C250q107) 600 3) kd_T250q107 600 kd_S250q107 = true := by decide +kernel
theorem kd_h250q107 {g : kc_G} (hg : kc_ok g) : kd_hold g 4 kd_ty 250 kd_T250q107 := kd_mk (d0 := 0) (di := 3) hg kd_xk250 rfl rfl rfl rfl (kd_al_r kd_C250q107 trivial) (by decide) (by decide +kernel) kd_e250q107 (kd_al_r kd_S250q107 trivial)
def kd_T250q108 : kd_Tc := ([(3, 259, 259), (0, 2147483650, 2147483650), (0, 2147483648, 2147483648), (0, 2147483651, 2147484647), (0, 2147482650, 2147483647)], [], kd_P250)
def kd_C250q108 : List (Nat × kd_Tc) := []
def kd_S250q108 : List kd_St := []
theorem kd_e250q108 : kd_run0 kd_ty kd_x250 9 (kd_call kd_ty kd_xt (kd_ctl kd_C250q108) 600 3) kd_T250q108 600 kd_S250q108 = true := by decide +kernel
theorem kd_h250q108 {g : kc_G} (hg : kc_ok g) : kd_hold g 4 kd_ty 250 kd_T250q108 := kd_mk (d0 := 0) (di := 3) hg kd_xk250 rfl rfl rfl rfl (kd_al_r kd_C250q108 trivial) (by decide) (by decide +kernel) kd_e250q108 (kd_al_r kd_S250q108 trivial)
def kd_T250q109 : kd_Tc := ([(3, 259, 259), (0, 2147483650, 2147483650), (0, 2147483648, 2147483648), (0, 2147483651, 2147484647), (0, 2147483648, 2147483648)], [], kd_P250)
def kd_C250q109 : List (Nat × kd_Tc) := []
def kd_S250q109 : List kd_St := []
theorem kd_e250q109 : kd_run0 kd_ty kd_x250 9 (kd_call kd_ty kd_xt (kd_ctl kd_C250q109) 600 3) kd_T250q109 600 kd_S250q109 = true := by decide +kernel
theorem kd_h250q109 {g : kc_G} (hg : kc_ok g) : kd_hold g 4 kd_ty 250 kd_T250q109 := kd_mk (d0 := 0) (di := 3) hg kd_xk250 rfl rfl rfl rfl (kd_al_r kd_C250q109 trivial) (by decide) (by decide +kernel) kd_e250q109 (kd_al_r kd_S250q109 trivial)
def kd_T250q110 : kd_Tc := ([(3, 259, 259), (0, 2147483650, 2147483650), (0, 2147483648, 2147483648), (0, 2147483651, 2147484647), (0, 2147483649, 2147483649)], [], kd_P250)
def kd_C250q110 : List (Nat × kd_Tc) := []
def kd_S250q110 : List kd_St := []
theorem kd_e250q110 : kd_run0 kd_ty kd_x250 9 (kd_call kd_ty kd_xt (kd_ctl kd_C250q110) 600 3) kd_T250q110 600 kd_S250q110 = true := by decide +kernel
theorem kd_h250q110 {g : kc_G} (hg : kc_ok g) : kd_hold g 4 kd_ty 250 kd_T250q110 := kd_mk (d0 := 0) (di := 3) hg kd_xk250 rfl rfl rfl rfl (kd_al_r kd_C250q110 trivial) (by decide) (by decide +kernel) kd_e250q110 (kd_al_r kd_S250q110 trivial)
def kd_T250q111 : kd_Tc := ([(3, 259, 259), (0, 2147483650, 2147483650), (0, 2147483648, 2147483648), (0, 2147483651, 2147484647), (0, 2147483650, 2147484647)], [], kd_P250)
def kd_C250q111 : List (Nat × kd_Tc) := []
def kd_S250q111 : List kd_St := []
theorem kd_e250q111 : kd_run0 kd_ty kd_x250 9 (kd_call kd_ty kd_xt (kd_ctl kd_C250q111) 600 3) kd_T250q111 600 kd_S250q111 = true := by decide +kernel
theorem kd_h250q111 {g : kc_G} (hg : kc_ok g) : kd_hold g 4 kd_ty 250 kd_T250q111 := kd_mk (d0 := 0) (di := 3) hg kd_xk250 rfl rfl rfl rfl (kd_al_r kd_C250q111 trivial) (by decide) (by decide +kernel) kd_e250q111 (kd_al_r kd_S250q111 trivial)
def kd_T250q112 : kd_Tc := ([(3, 259, 259), (0, 2147483650, 2147483650), (0, 2147483649, 2147483649), (0, 2147483648, 2147483648), (0, 2147482650, 2147483647)], [], kd_P250)
def kd_C250q112 : List (Nat × kd_Tc) := []
def kd_S250q112 : List kd_St := []
theorem kd_e250q112 : kd_run0 kd_ty kd_x250 9 (kd_call kd_ty kd_xt (kd_ctl kd_C250q112) 600 3) kd_T250q112 600 kd_S250q112 = true := by decide +kernel
theorem kd_h250q112 {g : kc_G} (hg : kc_ok g) : kd_hold g 4 kd_ty 250 kd_T250q112 := kd_mk (d0 := 0) (di := 3) hg kd_xk250 rfl rfl rfl rfl (kd_al_r kd_C250q112 trivial) (by decide) (by decide +kernel) kd_e250q112 (kd_al_r kd_S250q112 trivial)
def kd_T250q113 : kd_Tc := ([(3, 259, 259), (0, 2147483650, 2147483650), (0, 2147483649, 2147483649), (0, 2147483648, 2147483648), (0, 2147483648, 2147483648)], [], kd_P250)
def kd_C250q113 : List (Nat × kd_Tc) := [(248, kd_T248c0), (240, kd_T240c0)]
def kd_S250q113 : List kd_St := []
theorem kd_e250q113 : kd_run0 kd_ty kd_x250 9 (kd_call kd_ty kd_xt (kd_ctl kd_C250q113) 600 3) kd_T250q113 600 kd_S250q113 = true := by decide +kernel
theorem kd_h250q113 {g : kc_G} (hg : kc_ok g) : kd_hold g 10 kd_ty 250 kd_T250q113 := kd_mk (d0 := 6) (di := 3) hg kd_xk250 rfl rfl rfl rfl (kd_al_r kd_C250q113 ⟨kd_hold_le (kd_h248c0 hg) (by decide), kd_hold_le (kd_h240c0 hg) (by decide), trivial⟩) (by decide) (by decide +kernel) kd_e250q113 (kd_al_r kd_S250q113 trivial)
def kd_T250q114 : kd_Tc := ([(3, 259, 259), (0, 2147483650, 2147483650), (0, 2147483649, 2147483649), (0, 2147483648, 2147483648), (0, 2147483649, 2147483649)], [], kd_P250)
def kd_C250q114 : List (Nat × kd_Tc) := [(248, kd_T248c1), (240, kd_T240c1)]
def kd_S250q114 : List kd_St := []
theorem kd_e250q114 : kd_run0 kd_ty kd_x250 9 (kd_call kd_ty kd_xt (kd_ctl kd_C250q114) 600 3) kd_T250q114 600 kd_S250q114 = true := by decide +kernel
theorem kd_h250q114 {g : kc_G} (hg : kc_ok g) : kd_hold g 10 kd_ty 250 kd_T250q114 := kd_mk (d0 := 6) (di := 3) hg kd_xk250 rfl rfl rfl rfl (kd_al_r kd_C250q114 ⟨kd_hold_le (kd_h248c1 hg) (by decide), kd_hold_le (kd_h240c1 hg) (by decide), trivial⟩) (by decide) (by decide +kernel) kd_e250q114 (kd_al_r kd_S250q114 trivial)
def kd_T250q115 : kd_Tc := ([(3, 259, 259), (0, 2147483650, 2147483650), (0, 2147483649, 2147483649), (0, 2147483648, 2147483648), (0, 2147483650, 2147484647)], [], kd_P250)
def kd_C250q115 : List (Nat × kd_Tc) := []
def kd_S250q115 : List kd_St := []
theorem kd_e250q115 : kd_run0 kd_ty kd_x250 9 (kd_call kd_ty kd_xt (kd_ctl kd_C250q115) 600 3) kd_T250q115 600 kd_S250q115 = true := by decide +kernel
theorem kd_h250q115 {g : kc_G} (hg : kc_ok g) : kd_hold g 4 kd_ty 250 kd_T250q115 := kd_mk (d0 := 0) (di := 3) hg kd_xk250 rfl rfl rfl rfl (kd_al_r kd_C250q115 trivial) (by decide) (by decide +kernel) kd_e250q115 (kd_al_r kd_S250q115 trivial)
def kd_T250q116 : kd_Tc := ([(3, 259, 259), (0, 2147483650, 2147483650), (0, 2147483649, 2147483649), (0, 2147483649, 2147483649), (0, 2147482650, 2147483647)], [], kd_P250)
def kd_C250q116 : List (Nat × kd_Tc) := []
def kd_S250q116 : List kd_St := []
theorem kd_e250q116 : kd_run0 kd_ty kd_x250 9 (kd_call kd_ty kd_xt (kd_ctl kd_C250q116) 600 3) kd_T250q116 600 kd_S250q116 = true := by decide +kernel
theorem kd_h250q116 {g : kc_G} (hg : kc_ok g) : kd_hold g 4 kd_ty 250 kd_T250q116 := kd_mk (d0 := 0) (di := 3) hg kd_xk250 rfl rfl rfl rfl (kd_al_r kd_C250q116 trivial) (by decide) (by decide +kernel) kd_e250q116 (kd_al_r kd_S250q116 trivial)
def kd_T250q117 : kd_Tc := ([(3, 259, 259), (0, 2147483650, 2147483650), (0, 2147483649, 2147483649), (0, 2147483649, 2147483649), (0, 2147483648, 2147483648)], [], kd_P250)
def kd_C250q117 : List (Nat × kd_Tc) := [(248, kd_T248c2), (240, kd_T240c2)]
def kd_S250q117 : List kd_St := []
theorem kd_e250q117 : kd_run0 kd_ty kd_x250 9 (kd_call kd_ty kd_xt (kd_ctl kd_C250q117) 600 3) kd_T250q117 600 kd_S250q117 = true := by decide +kernel
theorem kd_h250q117 {g : kc_G} (hg : kc_ok g) : kd_hold g 10 kd_ty 250 kd_T250q117 := kd_mk (d0 := 6) (di := 3) hg kd_xk250 rfl rfl rfl rfl (kd_al_r kd_C250q117 ⟨kd_hold_le (kd_h248c2 hg) (by decide), kd_hold_le (kd_h240c2 hg) (by decide), trivial⟩) (by decide) (by decide +kernel) kd_e250q117 (kd_al_r kd_S250q117 trivial)
def kd_T250q118 : kd_Tc := ([(3, 259, 259), (0, 2147483650, 2147483650), (0, 2147483649, 2147483649), (0, 2147483649, 2147483649), (0, 2147483649, 2147483649)], [], kd_P250)
def kd_C250q118 : List (Nat × kd_Tc) := [(248, kd_T248c3), (240, kd_T240c3)]
def kd_S250q118 : List kd_St := []
theorem kd_e250q118 : kd_run0 kd_ty kd_x250 9 (kd_call kd_ty kd_xt (kd_ctl kd_C250q118) 600 3) kd_T250q118 600 kd_S250q118 = true := by decide +kernel
theorem kd_h250q118 {g : kc_G} (hg : kc_ok g) : kd_hold g 10 kd_ty 250 kd_T250q118 := kd_mk (d0 := 6) (di := 3) hg kd_xk250 rfl rfl rfl rfl (kd_al_r kd_C250q118 ⟨kd_hold_le (kd_h248c3 hg) (by decide), kd_hold_le (kd_h240c3 hg) (by decide), trivial⟩) (by decide) (by decide +kernel) kd_e250q118 (kd_al_r kd_S250q118 trivial)
def kd_T250q119 : kd_Tc := ([(3, 259, 259), (0, 2147483650, 2147483650), (0, 2147483649, 2147483649), (0, 2147483649, 2147483649), (0, 2147483650, 2147484647)], [], kd_P250)
def kd_C250q119 : List (Nat × kd_Tc) := []
def kd_S250q119 : List kd_St := []
theorem kd_e250q119 : kd_run0 kd_ty kd_x250 9 (kd_call kd_ty kd_xt (kd_ctl kd_C250q119) 600 3) kd_T250q119 600 kd_S250q119 = true := by decide +kernel
theorem kd_h250q119 {g : kc_G} (hg : kc_ok g) : kd_hold g 4 kd_ty 250 kd_T250q119 := kd_mk (d0 := 0) (di := 3) hg kd_xk250 rfl rfl rfl rfl (kd_al_r kd_C250q119 trivial) (by decide) (by decide +kernel) kd_e250q119 (kd_al_r kd_S250q119 trivial)
def kd_T250q120 : kd_Tc := ([(3, 259, 259), (0, 2147483650, 2147483650), (0, 2147483649, 2147483649), (0, 2147483650, 2147483650), (0, 2147482650, 2147483647)], [], kd_P250)
def kd_C250q120 : List (Nat × kd_Tc) := []
def kd_S250q120 : List kd_St := []
theorem kd_e250q120 : kd_run0 kd_ty kd_x250 9 (kd_call kd_ty kd_xt (kd_ctl kd_C250q120) 600 3) kd_T250q120 600 kd_S250q120 = true := by decide +kernel
theorem kd_h250q120 {g : kc_G} (hg : kc_ok g) : kd_hold g 4 kd_ty 250 kd_T250q120 := kd_mk (d0 := 0) (di := 3) hg kd_xk250 rfl rfl rfl rfl (kd_al_r kd_C250q120 trivial) (by decide) (by decide +kernel) kd_e250q120 (kd_al_r kd_S250q120 trivial)
def kd_T250q121 : kd_Tc := ([(3, 259, 259), (0, 2147483650, 2147483650), (0, 2147483649, 2147483649), (0, 2147483650, 2147483650), (0, 2147483648, 2147483648)], [], kd_P250)
def kd_C250q121 : List (Nat × kd_Tc) := [(248, kd_T248c4), (240, kd_T240c4)]
def kd_S250q121 : List kd_St := []
theorem kd_e250q121 : kd_run0 kd_ty kd_x250 9 (kd_call kd_ty kd_xt (kd_ctl kd_C250q121) 600 3) kd_T250q121 600 kd_S250q121 = true := by decide +kernel
theorem kd_h250q121 {g : kc_G} (hg : kc_ok g) : kd_hold g 10 kd_ty 250 kd_T250q121 := kd_mk (d0 := 6) (di := 3) hg kd_xk250 rfl rfl rfl rfl (kd_al_r kd_C250q121 ⟨kd_hold_le (kd_h248c4 hg) (by decide), kd_hold_le (kd_h240c4 hg) (by decide), trivial⟩) (by decide) (by decide +kernel) kd_e250q121 (kd_al_r kd_S250q121 trivial)
def kd_T250q122 : kd_Tc := ([(3, 259, 259), (0, 2147483650, 2147483650), (0, 2147483649, 2147483649), (0, 2147483650, 2147483650), (0, 2147483649, 2147483649)], [], kd_P250)
def kd_C250q122 : List (Nat × kd_Tc) := []
def kd_S250q122 : List kd_St := []
theorem kd_e250q122 : kd_run0 kd_ty kd_x250 9 (kd_call kd_ty kd_xt (kd_ctl kd_C250q122) 600 3) kd_T250q122 600 kd_S250q122 = true := by decide +kernel
theorem kd_h250q122 {g : kc_G} (hg : kc_ok g) : kd_hold g 4 kd_ty 250 kd_T250q122 := kd_mk (d0 := 0) (di := 3) hg kd_xk250 rfl rfl rfl rfl (kd_al_r kd_C250q122 trivial) (by decide) (by decide +kernel) kd_e250q122 (kd_al_r kd_S250q122 trivial)
def kd_T250q123 : kd_Tc := ([(3, 259, 259), (0, 2147483650, 2147483650), (0, 2147483649, 2147483649), (0, 2147483650, 2147483650), (0, 2147483650, 2147484647)], [], kd_P250)
def kd_C250q123 : List (Nat × kd_Tc) := []
def kd_S250q123 : List kd_St := []
theorem kd_e250q123 : kd_run0 kd_ty kd_x250 9 (kd_call kd_ty kd_xt (kd_ctl kd_C250q123) 600 3) kd_T250q123 600 kd_S250q123 = true := by decide +kernel
theorem kd_h250q123 {g : kc_G} (hg : kc_ok g) : kd_hold g 4 kd_ty 250 kd_T250q123 := kd_mk (d0 := 0) (di := 3) hg kd_xk250 rfl rfl rfl rfl (kd_al_r kd_C250q123 trivial) (by decide) (by decide +kernel) kd_e250q123 (kd_al_r kd_S250q123 trivial)
def kd_T250q124 : kd_Tc := ([(3, 259, 259), (0, 2147483650, 2147483650), (0, 2147483649, 2147483649), (0, 2147483651, 2147484647), (0, 2147482650, 2147483647)], [], kd_P250)
def kd_C250q124 : List (Nat × kd_Tc) := []
def kd_S250q124 : List kd_St := []
theorem kd_e250q124 : kd_run0 kd_ty kd_x250 9 (kd_call kd_ty kd_xt (kd_ctl kd_C250q124) 600 3) kd_T250q124 600 kd_S250q124 = true := by decide +kernel
theorem kd_h250q124 {g : kc_G} (hg : kc_ok g) : kd_hold g 4 kd_ty 250 kd_T250q124 := kd_mk (d0 := 0) (di := 3) hg kd_xk250 rfl rfl rfl rfl (kd_al_r kd_C250q124 trivial) (by decide) (by decide +kernel) kd_e250q124 (kd_al_r kd_S250q124 trivial)
def kd_T250q125 : kd_Tc := ([(3, 259, 259), (0, 2147483650, 2147483650), (0, 2147483649, 2147483649), (0, 2147483651, 2147484647), (0, 2147483648, 2147483648)], [], kd_P250)
def kd_C250q125 : List (Nat × kd_Tc) := []
def kd_S250q125 : List kd_St := []
theorem kd_e250q125 : kd_run0 kd_ty kd_x250 9 (kd_call kd_ty kd_xt (kd_ctl kd_C250q125) 600 3) kd_T250q125 600 kd_S250q125 = true := by decide +kernel
theorem kd_h250q125 {g : kc_G} (hg : kc_ok g) : kd_hold g 4 kd_ty 250 kd_T250q125 := kd_mk (d0 := 0) (di := 3) hg kd_xk250 rfl rfl rfl rfl (kd_al_r kd_C250q125 trivial) (by decide) (by decide +kernel) kd_e250q125 (kd_al_r kd_S250q125 trivial)
def kd_T250q126 : kd_Tc := ([(3, 259, 259), (0, 2147483650, 2147483650), (0, 2147483649, 2147483649), (0, 2147483651, 2147484647), (0, 2147483649, 2147483649)], [], kd_P250)
def kd_C250q126 : List (Nat × kd_Tc) := []
def kd_S250q126 : List kd_St := []
theorem kd_e250q126 : kd_run0 kd_ty kd_x250 9 (kd_call kd_ty kd_xt (kd_ctl kd_C250q126) 600 3) kd_T250q126 600 kd_S250q126 = true := by decide +kernel
theorem kd_h250q126 {g : kc_G} (hg : kc_ok g) : kd_hold g 4 kd_ty 250 kd_T250q126 := kd_mk (d0 := 0) (di := 3) hg kd_xk250 rfl rfl rfl rfl (kd_al_r kd_C250q126 trivial) (by decide) (by decide +kernel) kd_e250q126 (kd_al_r kd_S250q126 trivial)
def kd_T250q127 : kd_Tc := ([(3, 259, 259), (0, 2147483650, 2147483650), (0, 2147483649, 2147483649), (0, 2147483651, 2147484647), (0, 2147483650, 2147484647)], [], kd_P250)
def kd_C250q127 : List (Nat × kd_Tc) := []
def kd_S250q127 : List kd_St := []
theorem kd_e250q127 : kd_run0 kd_ty kd_x250 9 (kd_call kd_ty kd_xt (kd_ctl kd_C250q127) 600 3) kd_T250q127 600 kd_S250q127 = true := by decide +kernel
theorem kd_h250q127 {g : kc_G} (hg : kc_ok g) : kd_hold g 4 kd_ty 250 kd_T250q127 := kd_mk (d0 := 0) (di := 3) hg kd_xk250 rfl rfl rfl rfl (kd_al_r kd_C250q127 trivial) (by decide) (by decide +kernel) kd_e250q127 (kd_al_r kd_S250q127 trivial)
def kd_T250q128 : kd_Tc := ([(3, 259, 259), (0, 2147483650, 2147483650), (0, 2147483650, 2147484647), (0, 2147483648, 2147483648), (0, 2147482650, 2147483647)], [], kd_P250)
def kd_C250q128 : List (Nat × kd_Tc) := []
def kd_S250q128 : List kd_St := []
theorem kd_e250q128 : kd_run0 kd_ty kd_x250 9 (kd_call kd_ty kd_xt (kd_ctl kd_C250q128) 600 3) kd_T250q128 600 kd_S250q128 = true := by decide +kernel
theorem kd_h250q128 {g : kc_G} (hg : kc_ok g) : kd_hold g 4 kd_ty 250 kd_T250q128 := kd_mk (d0 := 0) (di := 3) hg kd_xk250 rfl rfl rfl rfl (kd_al_r kd_C250q128 trivial) (by decide) (by decide +kernel) kd_e250q128 (kd_al_r kd_S250q128 trivial)
def kd_T250q129 : kd_Tc := ([(3, 259, 259), (0, 2147483650, 2147483650), (0, 2147483650, 2147484647), (0, 2147483648, 2147483648), (0, 2147483648, 2147483648)], [], kd_P250)
def kd_C250q129 : List (Nat × kd_Tc) := []
def kd_S250q129 : List kd_St := []
theorem kd_e250q129 : kd_run0 kd_ty kd_x250 9 (kd_call kd_ty kd_xt (kd_ctl kd_C250q129) 600 3) kd_T250q129 600 kd_S250q129 = true := by decide +kernel
theorem kd_h250q129 {g : kc_G} (hg : kc_ok g) : kd_hold g 4 kd_ty 250 kd_T250q129 := kd_mk (d0 := 0) (di := 3) hg kd_xk250 rfl rfl rfl rfl (kd_al_r kd_C250q129 trivial) (by decide) (by decide +kernel) kd_e250q129 (kd_al_r kd_S250q129 trivial)
def kd_T250q130 : kd_Tc := ([(3, 259, 259), (0, 2147483650, 2147483650), (0, 2147483650, 2147484647), (0, 2147483648, 2147483648), (0, 2147483649, 2147483649)], [], kd_P250)
def kd_C250q130 : List (Nat × kd_Tc) := []
def kd_S250q130 : List kd_St := []
theorem kd_e250q130 : kd_run0 kd_ty kd_x250 9 (kd_call kd_ty kd_xt (kd_ctl kd_C250q130) 600 3) kd_T250q130 600 kd_S250q130 = true := by decide +kernel
theorem kd_h250q130 {g : kc_G} (hg : kc_ok g) : kd_hold g 4 kd_ty 250 kd_T250q130 := kd_mk (d0 := 0) (di := 3) hg kd_xk250 rfl rfl rfl rfl (kd_al_r kd_C250q130 trivial) (by decide) (by decide +kernel) kd_e250q130 (kd_al_r kd_S250q130 trivial)
def kd_T250q131 : kd_Tc := ([(3, 259, 259), (0, 2147483650, 2147483650), (0, 2147483650, 2147484647), (0, 2147483648, 2147483648), (0, 2147483650, 2147484647)], [], kd_P250)
def kd_C250q131 : List (Nat × kd_Tc) := []
def kd_S250q131 : List kd_St := []
theorem kd_e250q131 : kd_run0 kd_ty kd_x250 9 (kd_call kd_ty kd_xt (kd_ctl kd_C250q131) 600 3) kd_T250q131 600 kd_S250q131 = true := by decide +kernel
theorem kd_h250q131 {g : kc_G} (hg : kc_ok g) : kd_hold g 4 kd_ty 250 kd_T250q131 := kd_mk (d0 := 0) (di := 3) hg kd_xk250 rfl rfl rfl rfl (kd_al_r kd_C250q131 trivial) (by decide) (by decide +kernel) kd_e250q131 (kd_al_r kd_S250q131 trivial)
def kd_T250q132 : kd_Tc := ([(3, 259, 259), (0, 2147483650, 2147483650), (0, 2147483650, 2147484647), (0, 2147483649, 2147483649), (0, 2147482650, 2147483647)], [], kd_P250)
def kd_C250q132 : List (Nat × kd_Tc) := []
def kd_S250q132 : List kd_St := []
theorem kd_e250q132 : kd_run0 kd_ty kd_x250 9 (kd_call kd_ty kd_xt (kd_ctl kd_C250q132) 600 3) kd_T250q132 600 kd_S250q132 = true := by decide +kernel
theorem kd_h250q132 {g : kc_G} (hg : kc_ok g) : kd_hold g 4 kd_ty 250 kd_T250q132 := kd_mk (d0 := 0) (di := 3) hg kd_xk250 rfl rfl rfl rfl (kd_al_r kd_C250q132 trivial) (by decide) (by decide +kernel) kd_e250q132 (kd_al_r kd_S250q132 trivial)
def kd_T250q133 : kd_Tc := ([(3, 259, 259), (0, 2147483650, 2147483650), (0, 2147483650, 2147484647), (0, 2147483649, 2147483649), (0, 2147483648, 2147483648)], [], kd_P250)
def kd_C250q133 : List (Nat × kd_Tc) := []
def kd_S250q133 : List kd_St := []
theorem kd_e250q133 : kd_run0 kd_ty kd_x250 9 (kd_call kd_ty kd_xt (kd_ctl kd_C250q133) 600 3) kd_T250q133 600 kd_S250q133 = true := by decide +kernel
theorem kd_h250q133 {g : kc_G} (hg : kc_ok g) : kd_hold g 4 kd_ty 250 kd_T250q133 := kd_mk (d0 := 0) (di := 3) hg kd_xk250 rfl rfl rfl rfl (kd_al_r kd_C250q133 trivial) (by decide) (by decide +kernel) kd_e250q133 (kd_al_r kd_S250q133 trivial)
def kd_T250q134 : kd_Tc := ([(3, 259, 259), (0, 2147483650, 2147483650), (0, 2147483650, 2147484647), (0, 2147483649, 2147483649), (0, 2147483649, 2147483649)], [], kd_P250)
def kd_C250q134 : List (Nat × kd_Tc) := []
def kd_S250q134 : List kd_St := []
theorem kd_e250q134 : kd_run0 kd_ty kd_x250 9 (kd_call kd_ty kd_xt (kd_ctl kd_C250q134) 600 3) kd_T250q134 600 kd_S250q134 = true := by decide +kernel
theorem kd_h250q134 {g : kc_G} (hg : kc_ok g) : kd_hold g 4 kd_ty 250 kd_T250q134 := kd_mk (d0 := 0) (di := 3) hg kd_xk250 rfl rfl rfl rfl (kd_al_r kd_C250q134 trivial) (by decide) (by decide +kernel) kd_e250q134 (kd_al_r kd_S250q134 trivial)
def kd_T250q135 : kd_Tc := ([(3, 259, 259), (0, 2147483650, 2147483650), (0, 2147483650, 2147484647), (0, 2147483649, 2147483649), (0, 2147483650, 2147484647)], [], kd_P250)
def kd_C250q135 : List (Nat × kd_Tc) := []
def kd_S250q135 : List kd_St := []
theorem kd_e250q135 : kd_run0 kd_ty kd_x250 9 (kd_call kd_ty kd_xt (kd_ctl kd_C250q135) 600 3) kd_T250q135 600 kd_S250q135 = true := by decide +kernel
theorem kd_h250q135 {g : kc_G} (hg : kc_ok g) : kd_hold g 4 kd_ty 250 kd_T250q135 := kd_mk (d0 := 0) (di := 3) hg kd_xk250 rfl rfl rfl rfl (kd_al_r kd_C250q135 trivial) (by decide) (by decide +kernel) kd_e250q135 (kd_al_r kd_S250q135 trivial)
def kd_T250q136 : kd_Tc := ([(3, 259, 259), (0, 2147483650, 2147483650), (0, 2147483650, 2147484647), (0, 2147483650, 2147483650), (0, 2147482650, 2147483647)], [], kd_P250)
def kd_C250q136 : List (Nat × kd_Tc) := []
def kd_S250q136 : List kd_St := []
theorem kd_e250q136 : kd_run0 kd_ty kd_x250 9 (kd_call kd_ty kd_xt (kd_ctl kd_C250q136) 600 3) kd_T250q136 600 kd_S250q136 = true := by decide +kernel
theorem kd_h250q136 {g : kc_G} (hg : kc_ok g) : kd_hold g 4 kd_ty 250 kd_T250q136 := kd_mk (d0 := 0) (di := 3) hg kd_xk250 rfl rfl rfl rfl (kd_al_r kd_C250q136 trivial) (by decide) (by decide +kernel) kd_e250q136 (kd_al_r kd_S250q136 trivial)
def kd_T250q137 : kd_Tc := ([(3, 259, 259), (0, 2147483650, 2147483650), (0, 2147483650, 2147484647), (0, 2147483650, 2147483650), (0, 2147483648, 2147483648)], [], kd_P250)
def kd_C250q137 : List (Nat × kd_Tc) := []
def kd_S250q137 : List kd_St := []
theorem kd_e250q137 : kd_run0 kd_ty kd_x250 9 (kd_call kd_ty kd_xt (kd_ctl kd_C250q137) 600 3) kd_T250q137 600 kd_S250q137 = true := by decide +kernel
theorem kd_h250q137 {g : kc_G} (hg : kc_ok g) : kd_hold g 4 kd_ty 250 kd_T250q137 := kd_mk (d0 := 0) (di := 3) hg kd_xk250 rfl rfl rfl rfl (kd_al_r kd_C250q137 trivial) (by decide) (by decide +kernel) kd_e250q137 (kd_al_r kd_S250q137 trivial)
def kd_T250q138 : kd_Tc := ([(3, 259, 259), (0, 2147483650, 2147483650), (0, 2147483650, 2147484647), (0, 2147483650, 2147483650), (0, 2147483649, 2147483649)], [], kd_P250)
def kd_C250q138 : List (Nat × kd_Tc) := []
def kd_S250q138 : List kd_St := []
theorem kd_e250q138 : kd_run0 kd_ty kd_x250 9 (kd_call kd_ty kd_xt (kd_ctl kd_C250q138) 600 3) kd_T250q138 600 kd_S250q138 = true := by decide +kernel
theorem kd_h250q138 {g : kc_G} (hg : kc_ok g) : kd_hold g 4 kd_ty 250 kd_T250q138 := kd_mk (d0 := 0) (di := 3) hg kd_xk250 rfl rfl rfl rfl (kd_al_r kd_C250q138 trivial) (by decide) (by decide +kernel) kd_e250q138 (kd_al_r kd_S250q138 trivial)
def kd_T250q139 : kd_Tc := ([(3, 259, 259), (0, 2147483650, 2147483650), (0, 2147483650, 2147484647), (0, 2147483650, 2147483650), (0, 2147483650, 2147484647)], [], kd_P250)
def kd_C250q139 : List (Nat × kd_Tc) := []
def kd_S250q139 : List kd_St := []
theorem kd_e250q139 : kd_run0 kd_ty kd_x250 9 (kd_call kd_ty kd_xt (kd_ctl kd_C250q139) 600 3) kd_T250q139 600 kd_S250q139 = true := by decide +kernel
theorem kd_h250q139 {g : kc_G} (hg : kc_ok g) : kd_hold g 4 kd_ty 250 kd_T250q139 := kd_mk (d0 := 0) (di := 3) hg kd_xk250 rfl rfl rfl rfl (kd_al_r kd_C250q139 trivial) (by decide) (by decide +kernel) kd_e250q139 (kd_al_r kd_S250q139 trivial)
def kd_T250q140 : kd_Tc := ([(3, 259, 259), (0, 2147483650, 2147483650), (0, 2147483650, 2147484647), (0, 2147483651, 2147484647), (0, 2147482650, 2147483647)], [], kd_P250)
def kd_C250q140 : List (Nat × kd_Tc) := []
def kd_S250q140 : List kd_St := []
theorem kd_e250q140 : kd_run0 kd_ty kd_x250 9 (kd_call kd_ty kd_xt (kd_ctl kd_C250q140) 600 3) kd_T250q140 600 kd_S250q140 = true := by decide +kernel
theorem kd_h250q140 {g : kc_G} (hg : kc_ok g) : kd_hold g 4 kd_ty 250 kd_T250q140 := kd_mk (d0 := 0) (di := 3) hg kd_xk250 rfl rfl rfl rfl (kd_al_r kd_C250q140 trivial) (by decide) (by decide +kernel) kd_e250q140 (kd_al_r kd_S250q140 trivial)
def kd_T250q141 : kd_Tc := ([(3, 259, 259), (0, 2147483650, 2147483650), (0, 2147483650, 2147484647), (0, 2147483651, 2147484647), (0, 2147483648, 2147483648)], [], kd_P250)
def kd_C250q141 : List (Nat × kd_Tc) := []
def kd_S250q141 : List kd_St := []
theorem kd_e250q141 : kd_run0 kd_ty kd_x250 9 (kd_call kd_ty kd_xt (kd_ctl kd_C250q141) 600 3) kd_T250q141 600 kd_S250q141 = true := by decide +kernel
theorem kd_h250q141 {g : kc_G} (hg : kc_ok g) : kd_hold g 4 kd_ty 250 kd_T250q141 := kd_mk (d0 := 0) (di := 3) hg kd_xk250 rfl rfl rfl rfl (kd_al_r kd_C250q141 trivial) (by decide) (by decide +kernel) kd_e250q141 (kd_al_r kd_S250q141 trivial)
def kd_T250q142 : kd_Tc := ([(3, 259, 259), (0, 2147483650, 2147483650), (0, 2147483650, 2147484647), (0, 2147483651, 2147484647), (0, 2147483649, 2147483649)], [], kd_P250)
def kd_C250q142 : List (Nat × kd_Tc) := []
def kd_S250q142 : List kd_St := []
theorem kd_e250q142 : kd_run0 kd_ty kd_x250 9 (kd_call kd_ty kd_xt (kd_ctl kd_C250q142) 600 3) kd_T250q142 600 kd_S250q142 = true := by decide +kernel
theorem kd_h250q142 {g : kc_G} (hg : kc_ok g) : kd_hold g 4 kd_ty 250 kd_T250q142 := kd_mk (d0 := 0) (di := 3) hg kd_xk250 rfl rfl rfl rfl (kd_al_r kd_C250q142 trivial) (by decide) (by decide +kernel) kd_e250q142 (kd_al_r kd_S250q142 trivial)
def kd_T250q143 : kd_Tc := ([(3, 259, 259), (0, 2147483650, 2147483650), (0, 2147483650, 2147484647), (0, 2147483651, 2147484647), (0, 2147483650, 2147484647)], [], kd_P250)
def kd_C250q143 : List (Nat × kd_Tc) := []
def kd_S250q143 : List kd_St := []
theorem kd_e250q143 : kd_run0 kd_ty kd_x250 9 (kd_call kd_ty kd_xt (kd_ctl kd_C250q143) 600 3) kd_T250q143 600 kd_S250q143 = true := by decide +kernel
theorem kd_h250q143 {g : kc_G} (hg : kc_ok g) : kd_hold g 4 kd_ty 250 kd_T250q143 := kd_mk (d0 := 0) (di := 3) hg kd_xk250 rfl rfl rfl rfl (kd_al_r kd_C250q143 trivial) (by decide) (by decide +kernel) kd_e250q143 (kd_al_r kd_S250q143 trivial)
def kd_T250q144 : kd_Tc := ([(3, 259, 259), (0, 2147483651, 2147484647), (0, 2147483648, 2147483648), (0, 2147483648, 2147483648), (0, 2147482650, 2147483647)], [], kd_P250)
def kd_C250q144 : List (Nat × kd_Tc) := []
def kd_S250q144 : List kd_St := []
theorem kd_e250q144 : kd_run0 kd_ty kd_x250 9 (kd_call kd_ty kd_xt (kd_ctl kd_C250q144) 600 3) kd_T250q144 600 kd_S250q144 = true := by decide +kernel
theorem kd_h250q144 {g : kc_G} (hg : kc_ok g) : kd_hold g 4 kd_ty 250 kd_T250q144 := kd_mk (d0 := 0) (di := 3) hg kd_xk250 rfl rfl rfl rfl (kd_al_r kd_C250q144 trivial) (by decide) (by decide +kernel) kd_e250q144 (kd_al_r kd_S250q144 trivial)
def kd_T250q145 : kd_Tc := ([(3, 259, 259), (0, 2147483651, 2147484647), (0, 2147483648, 2147483648), (0, 2147483648, 2147483648), (0, 2147483648, 2147483648)], [], kd_P250)
def kd_C250q145 : List (Nat × kd_Tc) := []
def kd_S250q145 : List kd_St := []
theorem kd_e250q145 : kd_run0 kd_ty kd_x250 9 (kd_call kd_ty kd_xt (kd_ctl kd_C250q145) 600 3) kd_T250q145 600 kd_S250q145 = true := by decide +kernel
theorem kd_h250q145 {g : kc_G} (hg : kc_ok g) : kd_hold g 4 kd_ty 250 kd_T250q145 := kd_mk (d0 := 0) (di := 3) hg kd_xk250 rfl rfl rfl rfl (kd_al_r kd_C250q145 trivial) (by decide) (by decide +kernel) kd_e250q145 (kd_al_r kd_S250q145 trivial)
def kd_T250q146 : kd_Tc := ([(3, 259, 259), (0, 2147483651, 2147484647), (0, 2147483648, 2147483648), (0, 2147483648, 2147483648), (0, 2147483649, 2147483649)], [], kd_P250)
def kd_C250q146 : List (Nat × kd_Tc) := []
def kd_S250q146 : List kd_St := []
theorem kd_e250q146 : kd_run0 kd_ty kd_x250 9 (kd_call kd_ty kd_xt (kd_ctl kd_C250q146) 600 3) kd_T250q146 600 kd_S250q146 = true := by decide +kernel
theorem kd_h250q146 {g : kc_G} (hg : kc_ok g) : kd_hold g 4 kd_ty 250 kd_T250q146 := kd_mk (d0 := 0) (di := 3) hg kd_xk250 rfl rfl rfl rfl (kd_al_r kd_C250q146 trivial) (by decide) (by decide +kernel) kd_e250q146 (kd_al_r kd_S250q146 trivial)
def kd_T250q147 : kd_Tc := ([(3, 259, 259), (0, 2147483651, 2147484647), (0, 2147483648, 2147483648), (0, 2147483648, 2147483648), (0, 2147483650, 2147484647)], [], kd_P250)
def kd_C250q147 : List (Nat × kd_Tc) := []
def kd_S250q147 : List kd_St := []
theorem kd_e250q147 : kd_run0 kd_ty kd_x250 9 (kd_call kd_ty kd_xt (kd_ctl kd_C250q147) 600 3) kd_T250q147 600 kd_S250q147 = true := by decide +kernel
theorem kd_h250q147 {g : kc_G} (hg : kc_ok g) : kd_hold g 4 kd_ty 250 kd_T250q147 := kd_mk (d0 := 0) (di := 3) hg kd_xk250 rfl rfl rfl rfl (kd_al_r kd_C250q147 trivial) (by decide) (by decide +kernel) kd_e250q147 (kd_al_r kd_S250q147 trivial)
def kd_T250q148 : kd_Tc := ([(3, 259, 259), (0, 2147483651, 2147484647), (0, 2147483648, 2147483648), (0, 2147483649, 2147483649), (0, 2147482650, 2147483647)], [], kd_P250)
def kd_C250q148 : List (Nat × kd_Tc) := []
def kd_S250q148 : List kd_St := []
theorem kd_e250q148 : kd_run0 kd_ty kd_x250 9 (kd_call kd_ty kd_xt (kd_ctl kd_C250q148) 600 3) kd_T250q148 600 kd_S250q148 = true := by decide +kernel
theorem kd_h250q148 {g : kc_G} (hg : kc_ok g) : kd_hold g 4 kd_ty 250 kd_T250q148 := kd_mk (d0 := 0) (di := 3) hg kd_xk250 rfl rfl rfl rfl (kd_al_r kd_C250q148 trivial) (by decide) (by decide +kernel) kd_e250q148 (kd_al_r kd_S250q148 trivial)
def kd_T250q149 : kd_Tc := ([(3, 259, 259), (0, 2147483651, 2147484647), (0, 2147483648, 2147483648), (0, 2147483649, 2147483649), (0, 2147483648, 2147483648)], [], kd_P250)
def kd_C250q149 : List (Nat × kd_Tc) := []
def kd_S250q149 : List kd_St := []
theorem kd_e250q149 : kd_run0 kd_ty kd_x250 9 (kd_call kd_ty kd_xt (kd_ctl kd_C250q149) 600 3) kd_T250q149 600 kd_S250q149 = true := by decide +kernel
theorem kd_h250q149 {g : kc_G} (hg : kc_ok g) : kd_hold g 4 kd_ty 250 kd_T250q149 := kd_mk (d0 := 0) (di := 3) hg kd_xk250 rfl rfl rfl rfl (kd_al_r kd_C250q149 trivial) (by decide) (by decide +kernel) kd_e250q149 (kd_al_r kd_S250q149 trivial)
def kd_T250q150 : kd_Tc := ([(3, 259, 259), (0, 2147483651, 2147484647), (0, 2147483648, 2147483648), (0, 2147483649, 2147483649), (0, 2147483649, 2147483649)], [], kd_P250)
def kd_C250q150 : List (Nat × kd_Tc) := []
def kd_S250q150 : List kd_St := []
theorem kd_e250q150 : kd_run0 kd_ty kd_x250 9 (kd_call kd_ty kd_xt (kd_ctl kd_C250q150) 600 3) kd_T250q150 600 kd_S250q150 = true := by decide +kernel
theorem kd_h250q150 {g : kc_G} (hg : kc_ok g) : kd_hold g 4 kd_ty 250 kd_T250q150 := kd_mk (d0 := 0) (di := 3) hg kd_xk250 rfl rfl rfl rfl (kd_al_r kd_C250q150 trivial) (by decide) (by decide +kernel) kd_e250q150 (kd_al_r kd_S250q150 trivial)
def kd_T250q151 : kd_Tc := ([(3, 259, 259), (0, 2147483651, 2147484647), (0, 2147483648, 2147483648), (0, 2147483649, 2147483649), (0, 2147483650, 2147484647)], [], kd_P250)
def kd_C250q151 : List (Nat × kd_Tc) := []
def kd_S250q151 : List kd_St := []
theorem kd_e250q151 : kd_run0 kd_ty kd_x250 9 (kd_call kd_ty kd_xt (kd_ctl kd_C250q151) 600 3) kd_T250q151 600 kd_S250q151 = true := by decide +kernel
theorem kd_h250q151 {g : kc_G} (hg : kc_ok g) : kd_hold g 4 kd_ty 250 kd_T250q151 := kd_mk (d0 := 0) (di := 3) hg kd_xk250 rfl rfl rfl rfl (kd_al_r kd_C250q151 trivial) (by decide) (by decide +kernel) kd_e250q151 (kd_al_r kd_S250q151 trivial)
def kd_T250q152 : kd_Tc := ([(3, 259, 259), (0, 2147483651, 2147484647), (0, 2147483648, 2147483648), (0, 2147483650, 2147483650), (0, 2147482650, 2147483647)], [], kd_P250)
def kd_C250q152 : List (Nat × kd_Tc) := []
def kd_S250q152 : List kd_St := []
theorem kd_e250q152 : kd_run0 kd_ty kd_x250 9 (kd_call kd_ty kd_xt (kd_ctl kd_C250q152) 600 3) kd_T250q152 600 kd_S250q152 = true := by decide +kernel
theorem kd_h250q152 {g : kc_G} (hg : kc_ok g) : kd_hold g 4 kd_ty 250 kd_T250q152 := kd_mk (d0 := 0) (di := 3) hg kd_xk250 rfl rfl rfl rfl (kd_al_r kd_C250q152 trivial) (by decide) (by decide +kernel) kd_e250q152 (kd_al_r kd_S250q152 trivial)
def kd_T250q153 : kd_Tc := ([(3, 259, 259), (0, 2147483651, 2147484647), (0, 2147483648, 2147483648), (0, 2147483650, 2147483650), (0, 2147483648, 2147483648)], [], kd_P250)
def kd_C250q153 : List (Nat × kd_Tc) := []
def kd_S250q153 : List kd_St := []
theorem kd_e250q153 : kd_run0 kd_ty kd_x250 9 (kd_call kd_ty kd_xt (kd_ctl kd_C250q153) 600 3) kd_T250q153 600 kd_S250q153 = true := by decide +kernel
theorem kd_h250q153 {g : kc_G} (hg : kc_ok g) : kd_hold g 4 kd_ty 250 kd_T250q153 := kd_mk (d0 := 0) (di := 3) hg kd_xk250 rfl rfl rfl rfl (kd_al_r kd_C250q153 trivial) (by decide) (by decide +kernel) kd_e250q153 (kd_al_r kd_S250q153 trivial)
def kd_T250q154 : kd_Tc := ([(3, 259, 259), (0, 2147483651, 2147484647), (0, 2147483648, 2147483648), (0, 2147483650, 2147483650), (0, 2147483649, 2147483649)], [], kd_P250)
def kd_C250q154 : List (Nat × kd_Tc) := []
def kd_S250q154 : List kd_St := []
theorem kd_e250q154 : kd_run0 kd_ty kd_x250 9 (kd_call kd_ty kd_xt (kd_ctl kd_C250q154) 600 3) kd_T250q154 600 kd_S250q154 = true := by decide +kernel
theorem kd_h250q154 {g : kc_G} (hg : kc_ok g) : kd_hold g 4 kd_ty 250 kd_T250q154 := kd_mk (d0 := 0) (di := 3) hg kd_xk250 rfl rfl rfl rfl (kd_al_r kd_C250q154 trivial) (by decide) (by decide +kernel) kd_e250q154 (kd_al_r kd_S250q154 trivial)
def kd_T250q155 : kd_Tc := ([(3, 259, 259), (0, 2147483651, 2147484647), (0, 2147483648, 2147483648), (0, 2147483650, 2147483650), (0, 2147483650, 2147484647)], [], kd_P250)
def kd_C250q155 : List (Nat × kd_Tc) := []
def kd_S250q155 : List kd_St := []
theorem kd_e250q155 : kd_run0 kd_ty kd_x250 9 (kd_call kd_ty kd_xt (kd_ctl kd_C250q155) 600 3) kd_T250q155 600 kd_S250q155 = true := by decide +kernel
theorem kd_h250q155 {g : kc_G} (hg : kc_ok g) : kd_hold g 4 kd_ty 250 kd_T250q155 := kd_mk (d0 := 0) (di := 3) hg kd_xk250 rfl rfl rfl rfl (kd_al_r kd_C250q155 trivial) (by decide) (by decide +kernel) kd_e250q155 (kd_al_r kd_S250q155 trivial)
def kd_T250q156 : kd_Tc := ([(3, 259, 259), (0, 2147483651, 2147484647), (0, 2147483648, 2147483648), (0, 2147483651, 2147484647), (0, 2147482650, 2147483647)], [], kd_P250)
def kd_C250q156 : List (Nat × kd_Tc) := []
def kd_S250q156 : List kd_St := []
theorem kd_e250q156 : kd_run0 kd_ty kd_x250 9 (kd_call kd_ty kd_xt (kd_ctl kd_C250q156) 600 3) kd_T250q156 600 kd_S250q156 = true := by decide +kernel
theorem kd_h250q156 {g : kc_G} (hg : kc_ok g) : kd_hold g 4 kd_ty 250 kd_T250q156 := kd_mk (d0 := 0) (di := 3) hg kd_xk250 rfl rfl rfl rfl (kd_al_r kd_C250q156 trivial) (by decide) (by decide +kernel) kd_e250q156 (kd_al_r kd_S250q156 trivial)
def kd_T250q157 : kd_Tc := ([(3, 259, 259), (0, 2147483651, 2147484647), (0, 2147483648, 2147483648), (0, 2147483651, 2147484647), (0, 2147483648, 2147483648)], [], kd_P250)
def kd_C250q157 : List (Nat × kd_Tc) := []
def kd_S250q157 : List kd_St := []
theorem kd_e250q157 : kd_run0 kd_ty kd_x250 9 (kd_call kd_ty kd_xt (kd_ctl kd_C250q157) 600 3) kd_T250q157 600 kd_S250q157 = true := by decide +kernel
theorem kd_h250q157 {g : kc_G} (hg : kc_ok g) : kd_hold g 4 kd_ty 250 kd_T250q157 := kd_mk (d0 := 0) (di := 3) hg kd_xk250 rfl rfl rfl rfl (kd_al_r kd_C250q157 trivial) (by decide) (by decide +kernel) kd_e250q157 (kd_al_r kd_S250q157 trivial)
def kd_T250q158 : kd_Tc := ([(3, 259, 259), (0, 2147483651, 2147484647), (0, 2147483648, 2147483648), (0, 2147483651, 2147484647), (0, 2147483649, 2147483649)], [], kd_P250)
def kd_C250q158 : List (Nat × kd_Tc) := []
def kd_S250q158 : List kd_St := []
theorem kd_e250q158 : kd_run0 kd_ty kd_x250 9 (kd_call kd_ty kd_xt (kd_ctl kd_C250q158) 600 3) kd_T250q158 600 kd_S250q158 = true := by decide +kernel
theorem kd_h250q158 {g : kc_G} (hg : kc_ok g) : kd_hold g 4 kd_ty 250 kd_T250q158 := kd_mk (d0 := 0) (di := 3) hg kd_xk250 rfl rfl rfl rfl (kd_al_r kd_C250q158 trivial) (by decide) (by decide +kernel) kd_e250q158 (kd_al_r kd_S250q158 trivial)
def kd_T250q159 : kd_Tc := ([(3, 259, 259), (0, 2147483651, 2147484647), (0, 2147483648, 2147483648), (0, 2147483651, 2147484647), (0, 2147483650, 2147484647)], [], kd_P250)
def kd_C250q159 : List (Nat × kd_Tc) := []
def kd_S250q159 : List kd_St := []
theorem kd_e250q159 : kd_run0 kd_ty kd_x250 9 (kd_call kd_ty kd_xt (kd_ctl kd_C250q159) 600 3) kd_T250q159 600 kd_S250q159 = true := by decide +kernel
theorem kd_h250q159 {g : kc_G} (hg : kc_ok g) : kd_hold g 4 kd_ty 250 kd_T250q159 := kd_mk (d0 := 0) (di := 3) hg kd_xk250 rfl rfl rfl rfl (kd_al_r kd_C250q159 trivial) (by decide) (by decide +kernel) kd_e250q159 (kd_al_r kd_S250q159 trivial)
def kd_T250q160 : kd_Tc := ([(3, 259, 259), (0, 2147483651, 2147484647), (0, 2147483649, 2147483649), (0, 2147483648, 2147483648), (0, 2147482650, 2147483647)], [], kd_P250)
def kd_C250q160 : List (Nat × kd_Tc) := []
def kd_S250q160 : List kd_St := []
theorem kd_e250q160 : kd_run0 kd_ty kd_x250 9 (kd_call kd_ty kd_xt (kd_ctl kd_C250q160) 600 3) kd_T250q160 600 kd_S250q160 = true := by decide +kernel
theorem kd_h250q160 {g : kc_G} (hg : kc_ok g) : kd_hold g 4 kd_ty 250 kd_T250q160 := kd_mk (d0 := 0) (di := 3) hg kd_xk250 rfl rfl rfl rfl (kd_al_r kd_C250q160 trivial) (by decide) (by decide +kernel) kd_e250q160 (kd_al_r kd_S250q160 trivial)
def kd_T250q161 : kd_Tc := ([(3, 259, 259), (0, 2147483651, 2147484647), (0, 2147483649, 2147483649), (0, 2147483648, 2147483648), (0, 2147483648, 2147483648)], [], kd_P250)
def kd_C250q161 : List (Nat × kd_Tc) := []
def kd_S250q161 : List kd_St := []
theorem kd_e250q161 : kd_run0 kd_ty kd_x250 9 (kd_call kd_ty kd_xt (kd_ctl kd_C250q161) 600 3) kd_T250q161 600 kd_S250q161 = true := by decide +kernel
theorem kd_h250q161 {g : kc_G} (hg : kc_ok g) : kd_hold g 4 kd_ty 250 kd_T250q161 := kd_mk (d0 := 0) (di := 3) hg kd_xk250 rfl rfl rfl rfl (kd_al_r kd_C250q161 trivial) (by decide) (by decide +kernel) kd_e250q161 (kd_al_r kd_S250q161 trivial)
def kd_T250q162 : kd_Tc := ([(3, 259, 259), (0, 2147483651, 2147484647), (0, 2147483649, 2147483649), (0, 2147483648, 2147483648), (0, 2147483649, 2147483649)], [], kd_P250)
def kd_C250q162 : List (Nat × kd_Tc) := []
def kd_S250q162 : List kd_St := []
theorem kd_e250q162 : kd_run0 kd_ty kd_x250 9 (kd_call kd_ty kd_xt (kd_ctl kd_C250q162) 600 3) kd_T250q162 600 kd_S250q162 = true := by decide +kernel
theorem kd_h250q162 {g : kc_G} (hg : kc_ok g) : kd_hold g 4 kd_ty 250 kd_T250q162 := kd_mk (d0 := 0) (di := 3) hg kd_xk250 rfl rfl rfl rfl (kd_al_r kd_C250q162 trivial) (by decide) (by decide +kernel) kd_e250q162 (kd_al_r kd_S250q162 trivial)
def kd_T250q163 : kd_Tc := ([(3, 259, 259), (0, 2147483651, 2147484647), (0, 2147483649, 2147483649), (0, 2147483648, 2147483648), (0, 2147483650, 2147484647)], [], kd_P250)
def kd_C250q163 : List (Nat × kd_Tc) := []
def kd_S250q163 : List kd_St := []
theorem kd_e250q163 : kd_run0 kd_ty kd_x250 9 (kd_call kd_ty kd_xt (kd_ctl kd_C250q163) 600 3) kd_T250q163 600 kd_S250q163 = true := by decide +kernel
theorem kd_h250q163 {g : kc_G} (hg : kc_ok g) : kd_hold g 4 kd_ty 250 kd_T250q163 := kd_mk (d0 := 0) (di := 3) hg kd_xk250 rfl rfl rfl rfl (kd_al_r kd_C250q163 trivial) (by decide) (by decide +kernel) kd_e250q163 (kd_al_r kd_S250q163 trivial)
def kd_T250q164 : kd_Tc := ([(3, 259, 259), (0, 2147483651, 2147484647), (0, 2147483649, 2147483649), (0, 2147483649, 2147483649), (0, 2147482650, 2147483647)], [], kd_P250)
def kd_C250q164 : List (Nat × kd_Tc) := []
def kd_S250q164 : List kd_St := []
theorem kd_e250q164 : kd_run0 kd_ty kd_x250 9 (kd_call kd_ty kd_xt (kd_ctl kd_C250q164) 600 3) kd_T250q164 600 kd_S250q164 = true := by decide +kernel
theorem kd_h250q164 {g : kc_G} (hg : kc_ok g) : kd_hold g 4 kd_ty 250 kd_T250q164 := kd_mk (d0 := 0) (di := 3) hg kd_xk250 rfl rfl rfl rfl (kd_al_r kd_C250q164 trivial) (by decide) (by decide +kernel) kd_e250q164 (kd_al_r kd_S250q164 trivial)
def kd_T250q165 : kd_Tc := ([(3, 259, 259), (0, 2147483651, 2147484647), (0, 2147483649, 2147483649), (0, 2147483649, 2147483649), (0, 2147483648, 2147483648)], [], kd_P250)
def kd_C250q165 : List (Nat × kd_Tc) := []
def kd_S250q165 : List kd_St := []
theorem kd_e250q165 : kd_run0 kd_ty kd_x250 9 (kd_call kd_ty kd_xt (kd_ctl kd_C250q165) 600 3) kd_T250q165 600 kd_S250q165 = true := by decide +kernel
theorem kd_h250q165 {g : kc_G} (hg : kc_ok g) : kd_hold g 4 kd_ty 250 kd_T250q165 := kd_mk (d0 := 0) (di := 3) hg kd_xk250 rfl rfl rfl rfl (kd_al_r kd_C250q165 trivial) (by decide) (by decide +kernel) kd_e250q165 (kd_al_r kd_S250q165 trivial)
def kd_T250q166 : kd_Tc := ([(3, 259, 259), (0, 2147483651, 2147484647), (0, 2147483649, 2147483649), (0, 2147483649, 2147483649), (0, 2147483649, 2147483649)], [], kd_P250)
def kd_C250q166 : List (Nat × kd_Tc) := []
def kd_S250q166 : List kd_St := []
theorem kd_e250q166 : kd_run0 kd_ty kd_x250 9 (kd_call kd_ty kd_xt (kd_ctl kd_C250q166) 600 3) kd_T250q166 600 kd_S250q166 = true := by decide +kernel
theorem kd_h250q166 {g : kc_G} (hg : kc_ok g) : kd_hold g 4 kd_ty 250 kd_T250q166 := kd_mk (d0 := 0) (di := 3) hg kd_xk250 rfl rfl rfl rfl (kd_al_r kd_C250q166 trivial) (by decide) (by decide +kernel) kd_e250q166 (kd_al_r kd_S250q166 trivial)
def kd_T250q167 : kd_Tc := ([(3, 259, 259), (0, 2147483651, 2147484647), (0, 2147483649, 2147483649), (0, 2147483649, 2147483649), (0, 2147483650, 2147484647)], [], kd_P250)
def kd_C250q167 : List (Nat × kd_Tc) := []
def kd_S250q167 : List kd_St := []
theorem kd_e250q167 : kd_run0 kd_ty kd_x250 9 (kd_call kd_ty kd_xt (kd_ctl kd_C250q167) 600 3) kd_T250q167 600 kd_S250q167 = true := by decide +kernel
theorem kd_h250q167 {g : kc_G} (hg : kc_ok g) : kd_hold g 4 kd_ty 250 kd_T250q167 := kd_mk (d0 := 0) (di := 3) hg kd_xk250 rfl rfl rfl rfl (kd_al_r kd_C250q167 trivial) (by decide) (by decide +kernel) kd_e250q167 (kd_al_r kd_S250q167 trivial)
def kd_T250q168 : kd_Tc := ([(3, 259, 259), (0, 2147483651, 2147484647), (0, 2147483649, 2147483649), (0, 2147483650, 2147483650), (0, 2147482650, 2147483647)], [], kd_P250)
def kd_C250q168 : List (Nat × kd_Tc) := []
def kd_S250q168 : List kd_St := []
theorem kd_e250q168 : kd_run0 kd_ty kd_x250 9 (kd_call kd_ty kd_xt (kd_ctl kd_C250q168) 600 3) kd_T250q168 600 kd_S250q168 = true := by decide +kernel
theorem kd_h250q168 {g : kc_G} (hg : kc_ok g) : kd_hold g 4 kd_ty 250 kd_T250q168 := kd_mk (d0 := 0) (di := 3) hg kd_xk250 rfl rfl rfl rfl (kd_al_r kd_C250q168 trivial) (by decide) (by decide +kernel) kd_e250q168 (kd_al_r kd_S250q168 trivial)
def kd_T250q169 : kd_Tc := ([(3, 259, 259), (0, 2147483651, 2147484647), (0, 2147483649, 2147483649), (0, 2147483650, 2147483650), (0, 2147483648, 2147483648)], [], kd_P250)
def kd_C250q169 : List (Nat × kd_Tc) := []
def kd_S250q169 : List kd_St := []
theorem kd_e250q169 : kd_run0 kd_ty kd_x250 9 (kd_call kd_ty kd_xt (kd_ctl kd_C250q169) 600 3) kd_T250q169 600 kd_S250q169 = true := by decide +kernel
theorem kd_h250q169 {g : kc_G} (hg : kc_ok g) : kd_hold g 4 kd_ty 250 kd_T250q169 := kd_mk (d0 := 0) (di := 3) hg kd_xk250 rfl rfl rfl rfl (kd_al_r kd_C250q169 trivial) (by decide) (by decide +kernel) kd_e250q169 (kd_al_r kd_S250q169 trivial)
def kd_T250q170 : kd_Tc := ([(3, 259, 259), (0, 2147483651, 2147484647), (0, 2147483649, 2147483649), (0, 2147483650, 2147483650), (0, 2147483649, 2147483649)], [], kd_P250)
def kd_C250q170 : List (Nat × kd_Tc) := []
def kd_S250q170 : List kd_St := []
theorem kd_e250q170 : kd_run0 kd_ty kd_x250 9 (kd_call kd_ty kd_xt (kd_ctl kd_C250q170) 600 3) kd_T250q170 600 kd_S250q170 = true := by decide +kernel
theorem kd_h250q170 {g : kc_G} (hg : kc_ok g) : kd_hold g 4 kd_ty 250 kd_T250q170 := kd_mk (d0 := 0) (di := 3) hg kd_xk250 rfl rfl rfl rfl (kd_al_r kd_C250q170 trivial) (by decide) (by decide +kernel) kd_e250q170 (kd_al_r kd_S250q170 trivial)
def kd_T250q171 : kd_Tc := ([(3, 259, 259), (0, 2147483651, 2147484647), (0, 2147483649, 2147483649), (0, 2147483650, 2147483650), (0, 2147483650, 2147484647)], [], kd_P250)
def kd_C250q171 : List (Nat × kd_Tc) := []
def kd_S250q171 : List kd_St := []
theorem kd_e250q171 : kd_run0 kd_ty kd_x250 9 (kd_call kd_ty kd_xt (kd_ctl kd_C250q171) 600 3) kd_T250q171 600 kd_S250q171 = true := by decide +kernel
theorem kd_h250q171 {g : kc_G} (hg : kc_ok g) : kd_hold g 4 kd_ty 250 kd_T250q171 := kd_mk (d0 := 0) (di := 3) hg kd_xk250 rfl rfl rfl rfl (kd_al_r kd_C250q171 trivial) (by decide) (by decide +kernel) kd_e250q171 (kd_al_r kd_S250q171 trivial)
def kd_T250q172 : kd_Tc := ([(3, 259, 259), (0, 2147483651, 2147484647), (0, 2147483649, 2147483649), (0, 2147483651, 2147484647), (0, 2147482650, 2147483647)], [], kd_P250)
def kd_C250q172 : List (Nat × kd_Tc) := []
def kd_S250q172 : List kd_St := []
theorem kd_e250q172 : kd_run0 kd_ty kd_x250 9 (kd_call kd_ty kd_xt (kd_ctl kd_C250q172) 600 3) kd_T250q172 600 kd_S250q172 = true := by decide +kernel
theorem kd_h250q172 {g : kc_G} (hg : kc_ok g) : kd_hold g 4 kd_ty 250 kd_T250q172 := kd_mk (d0 := 0) (di := 3) hg kd_xk250 rfl rfl rfl rfl (kd_al_r kd_C250q172 trivial) (by decide) (by decide +kernel) kd_e250q172 (kd_al_r kd_S250q172 trivial)
def kd_T250q173 : kd_Tc := ([(3, 259, 259), (0, 2147483651, 2147484647), (0, 2147483649, 2147483649), (0, 2147483651, 2147484647), (0, 2147483648, 2147483648)], [], kd_P250)
def kd_C250q173 : List (Nat × kd_Tc) := []
def kd_S250q173 : List kd_St := []
theorem kd_e250q173 : kd_run0 kd_ty kd_x250 9 (kd_call kd_ty kd_xt (kd_ctl kd_C250q173) 600 3) kd_T250q173 600 kd_S250q173 = true := by decide +kernel
theorem kd_h250q173 {g : kc_G} (hg : kc_ok g) : kd_hold g 4 kd_ty 250 kd_T250q173 := kd_mk (d0 := 0) (di := 3) hg kd_xk250 rfl rfl rfl rfl (kd_al_r kd_C250q173 trivial) (by decide) (by decide +kernel) kd_e250q173 (kd_al_r kd_S250q173 trivial)
def kd_T250q174 : kd_Tc := ([(3, 259, 259), (0, 2147483651, 2147484647), (0, 2147483649, 2147483649), (0, 2147483651, 2147484647), (0, 2147483649, 2147483649)], [], kd_P250)
def kd_C250q174 : List (Nat × kd_Tc) := []
def kd_S250q174 : List kd_St := []
theorem kd_e250q174 : kd_run0 kd_ty kd_x250 9 (kd_call kd_ty kd_xt (kd_ctl kd_C250q174) 600 3) kd_T250q174 600 kd_S250q174 = true := by decide +kernel
theorem kd_h250q174 {g : kc_G} (hg : kc_ok g) : kd_hold g 4 kd_ty 250 kd_T250q174 := kd_mk (d0 := 0) (di := 3) hg kd_xk250 rfl rfl rfl rfl (kd_al_r kd_C250q174 trivial) (by decide) (by decide +kernel) kd_e250q174 (kd_al_r kd_S250q174 trivial)
def kd_T250q175 : kd_Tc := ([(3, 259, 259), (0, 2147483651, 2147484647), (0, 2147483649, 2147483649), (0, 2147483651, 2147484647), (0, 2147483650, 2147484647)], [], kd_P250)
def kd_C250q175 : List (Nat × kd_Tc) := []
def kd_S250q175 : List kd_St := []
theorem kd_e250q175 : kd_run0 kd_ty kd_x250 9 (kd_call kd_ty kd_xt (kd_ctl kd_C250q175) 600 3) kd_T250q175 600 kd_S250q175 = true := by decide +kernel
theorem kd_h250q175 {g : kc_G} (hg : kc_ok g) : kd_hold g 4 kd_ty 250 kd_T250q175 := kd_mk (d0 := 0) (di := 3) hg kd_xk250 rfl rfl rfl rfl (kd_al_r kd_C250q175 trivial) (by decide) (by decide +kernel) kd_e250q175 (kd_al_r kd_S250q175 trivial)
def kd_T250q176 : kd_Tc := ([(3, 259, 259), (0, 2147483651, 2147484647), (0, 2147483650, 2147484647), (0, 2147483648, 2147483648), (0, 2147482650, 2147483647)], [], kd_P250)
def kd_C250q176 : List (Nat × kd_Tc) := []
def kd_S250q176 : List kd_St := []
theorem kd_e250q176 : kd_run0 kd_ty kd_x250 9 (kd_call kd_ty kd_xt (kd_ctl kd_C250q176) 600 3) kd_T250q176 600 kd_S250q176 = true := by decide +kernel
theorem kd_h250q176 {g : kc_G} (hg : kc_ok g) : kd_hold g 4 kd_ty 250 kd_T250q176 := kd_mk (d0 := 0) (di := 3) hg kd_xk250 rfl rfl rfl rfl (kd_al_r kd_C250q176 trivial) (by decide) (by decide +kernel) kd_e250q176 (kd_al_r kd_S250q176 trivial)
def kd_T250q177 : kd_Tc := ([(3, 259, 259), (0, 2147483651, 2147484647), (0, 2147483650, 2147484647), (0, 2147483648, 2147483648), (0, 2147483648, 2147483648)], [], kd_P250)
def kd_C250q177 : List (Nat × kd_Tc) := []
def kd_S250q177 : List kd_St := []
theorem kd_e250q177 : kd_run0 kd_ty kd_x250 9 (kd_call kd_ty kd_xt (kd_ctl kd_C250q177) 600 3) kd_T250q177 600 kd_S250q177 = true := by decide +kernel
theorem kd_h250q177 {g : kc_G} (hg : kc_ok g) : kd_hold g 4 kd_ty 250 kd_T250q177 := kd_mk (d0 := 0) (di := 3) hg kd_xk250 rfl rfl rfl rfl (kd_al_r kd_C250q177 trivial) (by decide) (by decide +kernel) kd_e250q177 (kd_al_r kd_S250q177 trivial)
def kd_T250q178 : kd_Tc := ([(3, 259, 259), (0, 2147483651, 2147484647), (0, 2147483650, 2147484647), (0, 2147483648, 2147483648), (0, 2147483649, 2147483649)], [], kd_P250)
def kd_C250q178 : List (Nat × kd_Tc) := []
def kd_S250q178 : List kd_St := []
theorem kd_e250q178 : kd_run0 kd_ty kd_x250 9 (kd_call kd_ty kd_xt (kd_ctl kd_C250q178) 600 3) kd_T250q178 600 kd_S250q178 = true := by decide +kernel
theorem kd_h250q178 {g : kc_G} (hg : kc_ok g) : kd_hold g 4 kd_ty 250 kd_T250q178 := kd_mk (d0 := 0) (di := 3) hg kd_xk250 rfl rfl rfl rfl (kd_al_r kd_C250q178 trivial) (by decide) (by decide +kernel) kd_e250q178 (kd_al_r kd_S250q178 trivial)
def kd_T250q179 : kd_Tc := ([(3, 259, 259), (0, 2147483651, 2147484647), (0, 2147483650, 2147484647), (0, 2147483648, 2147483648), (0, 2147483650, 2147484647)], [], kd_P250)
def kd_C250q179 : List (Nat × kd_Tc) := []
def kd_S250q179 : List kd_St := []
theorem kd_e250q179 : kd_run0 kd_ty kd_x250 9 (kd_call kd_ty kd_xt (kd_ctl kd_C250q179) 600 3) kd_T250q179 600 kd_S250q179 = true := by decide +kernel
theorem kd_h250q179 {g : kc_G} (hg : kc_ok g) : kd_hold g 4 kd_ty 250 kd_T250q179 := kd_mk (d0 := 0) (di := 3) hg kd_xk250 rfl rfl rfl rfl (kd_al_r kd_C250q179 trivial) (by decide) (by decide +kernel) kd_e250q179 (kd_al_r kd_S250q179 trivial)
def kd_T250q180 : kd_Tc := ([(3, 259, 259), (0, 2147483651, 2147484647), (0, 2147483650, 2147484647), (0, 2147483649, 2147483649), (0, 2147482650, 2147483647)], [], kd_P250)
def kd_C250q180 : List (Nat × kd_Tc) := []
def kd_S250q180 : List kd_St := []
theorem kd_e250q180 : kd_run0 kd_ty kd_x250 9 (kd_call kd_ty kd_xt (kd_ctl kd_C250q180) 600 3) kd_T250q180 600 kd_S250q180 = true := by decide +kernel
theorem kd_h250q180 {g : kc_G} (hg : kc_ok g) : kd_hold g 4 kd_ty 250 kd_T250q180 := kd_mk (d0 := 0) (di := 3) hg kd_xk250 rfl rfl rfl rfl (kd_al_r kd_C250q180 trivial) (by decide) (by decide +kernel) kd_e250q180 (kd_al_r kd_S250q180 trivial)
def kd_T250q181 : kd_Tc := ([(3, 259, 259), (0, 2147483651, 2147484647), (0, 2147483650, 2147484647), (0, 2147483649, 2147483649), (0, 2147483648, 2147483648)], [], kd_P250)
def kd_C250q181 : List (Nat × kd_Tc) := []
def kd_S250q181 : List kd_St := []
theorem kd_e250q181 : kd_run0 kd_ty kd_x250 9 (kd_call kd_ty kd_xt (kd_ctl kd_C250q181) 600 3) kd_T250q181 600 kd_S250q181 = true := by decide +kernel
theorem kd_h250q181 {g : kc_G} (hg : kc_ok g) : kd_hold g 4 kd_ty 250 kd_T250q181 := kd_mk (d0 := 0) (di := 3) hg kd_xk250 rfl rfl rfl rfl (kd_al_r kd_C250q181 trivial) (by decide) (by decide +kernel) kd_e250q181 (kd_al_r kd_S250q181 trivial)
def kd_T250q182 : kd_Tc := ([(3, 259, 259), (0, 2147483651, 2147484647), (0, 2147483650, 2147484647), (0, 2147483649, 2147483649), (0, 2147483649, 2147483649)], [], kd_P250)
def kd_C250q182 : List (Nat × kd_Tc) := []
def kd_S250q182 : List kd_St := []
theorem kd_e250q182 : kd_run0 kd_ty kd_x250 9 (kd_call kd_ty kd_xt (kd_ctl kd_C250q182) 600 3) kd_T250q182 600 kd_S250q182 = true := by decide +kernel
theorem kd_h250q182 {g : kc_G} (hg : kc_ok g) : kd_hold g 4 kd_ty 250 kd_T250q182 := kd_mk (d0 := 0) (di := 3) hg kd_xk250 rfl rfl rfl rfl (kd_al_r kd_C250q182 trivial) (by decide) (by decide +kernel) kd_e250q182 (kd_al_r kd_S250q182 trivial)
def kd_T250q183 : kd_Tc := ([(3, 259, 259), (0, 2147483651, 2147484647), (0, 2147483650, 2147484647), (0, 2147483649, 2147483649), (0, 2147483650, 2147484647)], [], kd_P250)
def kd_C250q183 : List (Nat × kd_Tc) := []
def kd_S250q183 : List kd_St := []
theorem kd_e250q183 : kd_run0 kd_ty kd_x250 9 (kd_call kd_ty kd_xt (kd_ctl kd_C250q183) 600 3) kd_T250q183 600 kd_S250q183 = true := by decide +kernel
theorem kd_h250q183 {g : kc_G} (hg : kc_ok g) : kd_hold g 4 kd_ty 250 kd_T250q183 := kd_mk (d0 := 0) (di := 3) hg kd_xk250 rfl rfl rfl rfl (kd_al_r kd_C250q183 trivial) (by decide) (by decide +kernel) kd_e250q183 (kd_al_r kd_S250q183 trivial)
def kd_T250q184 : kd_Tc := ([(3, 259, 259), (0, 2147483651, 2147484647), (0, 2147483650, 2147484647), (0, 2147483650, 2147483650), (0, 2147482650, 2147483647)], [], kd_P250)
def kd_C250q184 : List (Nat × kd_Tc) := []
def kd_S250q184 : List kd_St := []
theorem kd_e250q184 : kd_run0 kd_ty kd_x250 9 (kd_call kd_ty kd_xt (kd_ctl kd_C250q184) 600 3) kd_T250q184 600 kd_S250q184 = true := by decide +kernel
theorem kd_h250q184 {g : kc_G} (hg : kc_ok g) : kd_hold g 4 kd_ty 250 kd_T250q184 := kd_mk (d0 := 0) (di := 3) hg kd_xk250 rfl rfl rfl rfl (kd_al_r kd_C250q184 trivial) (by decide) (by decide +kernel) kd_e250q184 (kd_al_r kd_S250q184 trivial)
def kd_T250q185 : kd_Tc := ([(3, 259, 259), (0, 2147483651, 2147484647), (0, 2147483650, 2147484647), (0, 2147483650, 2147483650), (0, 2147483648, 2147483648)], [], kd_P250)
def kd_C250q185 : List (Nat × kd_Tc) := []
def kd_S250q185 : List kd_St := []
theorem kd_e250q185 : kd_run0 kd_ty kd_x250 9 (kd_call kd_ty kd_xt (kd_ctl kd_C250q185) 600 3) kd_T250q185 600 kd_S250q185 = true := by decide +kernel
theorem kd_h250q185 {g : kc_G} (hg : kc_ok g) : kd_hold g 4 kd_ty 250 kd_T250q185 := kd_mk (d0 := 0) (di := 3) hg kd_xk250 rfl rfl rfl rfl (kd_al_r kd_C250q185 trivial) (by decide) (by decide +kernel) kd_e250q185 (kd_al_r kd_S250q185 trivial)
def kd_T250q186 : kd_Tc := ([(3, 259, 259), (0, 2147483651, 2147484647), (0, 2147483650, 2147484647), (0, 2147483650, 2147483650), (0, 2147483649, 2147483649)], [], kd_P250)
def kd_C250q186 : List (Nat × kd_Tc) := []
def kd_S250q186 : List kd_St := []
theorem kd_e250q186 : kd_run0 kd_ty kd_x250 9 (kd_call kd_ty kd_xt (kd_ctl kd_C250q186) 600 3) kd_T250q186 600 kd_S250q186 = true := by decide +kernel
theorem kd_h250q186 {g : kc_G} (hg : kc_ok g) : kd_hold g 4 kd_ty 250 kd_T250q186 := kd_mk (d0 := 0) (di := 3) hg kd_xk250 rfl rfl rfl rfl (kd_al_r kd_C250q186 trivial) (by decide) (by decide +kernel) kd_e250q186 (kd_al_r kd_S250q186 trivial)
def kd_T250q187 : kd_Tc := ([(3, 259, 259), (0, 2147483651, 2147484647), (0, 2147483650, 2147484647), (0, 2147483650, 2147483650), (0, 2147483650, 2147484647)], [], kd_P250)
def kd_C250q187 : List (Nat × kd_Tc) := []
def kd_S250q187 : List kd_St := []
theorem kd_e250q187 : kd_run0 kd_ty kd_x250 9 (kd_call kd_ty kd_xt (kd_ctl kd_C250q187) 600 3) kd_T250q187 600 kd_S250q187 = true := by decide +kernel
theorem kd_h250q187 {g : kc_G} (hg : kc_ok g) : kd_hold g 4 kd_ty 250 kd_T250q187 := kd_mk (d0 := 0) (di := 3) hg kd_xk250 rfl rfl rfl rfl (kd_al_r kd_C250q187 trivial) (by decide) (by decide +kernel) kd_e250q187 (kd_al_r kd_S250q187 trivial)
def kd_T250q188 : kd_Tc := ([(3, 259, 259), (0, 2147483651, 2147484647), (0, 2147483650, 2147484647), (0, 2147483651, 2147484647), (0, 2147482650, 2147483647)], [], kd_P250)
def kd_C250q188 : List (Nat × kd_Tc) := []
def kd_S250q188 : List kd_St := []
theorem kd_e250q188 : kd_run0 kd_ty kd_x250 9 (kd_call kd_ty kd_xt (kd_ctl kd_C250q188) 600 3) kd_T250q188 600 kd_S250q188 = true := by decide +kernel
theorem kd_h250q188 {g : kc_G} (hg : kc_ok g) : kd_hold g 4 kd_ty 250 kd_T250q188 := kd_mk (d0 := 0) (di := 3) hg kd_xk250 rfl rfl rfl rfl (kd_al_r kd_C250q188 trivial) (by decide) (by decide +kernel) kd_e250q188 (kd_al_r kd_S250q188 trivial)
def kd_T250q189 : kd_Tc := ([(3, 259, 259), (0, 2147483651, 2147484647), (0, 2147483650, 2147484647), (0, 2147483651, 2147484647), (0, 2147483648, 2147483648)], [], kd_P250)
def kd_C250q189 : List (Nat × kd_Tc) := []
def kd_S250q189 : List kd_St := []
theorem kd_e250q189 : kd_run0 kd_ty kd_x250 9 (kd_call kd_ty kd_xt (kd_ctl kd_C250q189) 600 3) kd_T250q189 600 kd_S250q189 = true := by decide +kernel
theorem kd_h250q189 {g : kc_G} (hg : kc_ok g) : kd_hold g 4 kd_ty 250 kd_T250q189 := kd_mk (d0 := 0) (di := 3) hg kd_xk250 rfl rfl rfl rfl (kd_al_r kd_C250q189 trivial) (by decide) (by decide +kernel) kd_e250q189 (kd_al_r kd_S250q189 trivial)
def kd_T250q190 : kd_Tc := ([(3, 259, 259), (0, 2147483651, 2147484647), (0, 2147483650, 2147484647), (0, 2147483651, 2147484647), (0, 2147483649, 2147483649)], [], kd_P250)
def kd_C250q190 : List (Nat × kd_Tc) := []
def kd_S250q190 : List kd_St := []
theorem kd_e250q190 : kd_run0 kd_ty kd_x250 9 (kd_call kd_ty kd_xt (kd_ctl kd_C250q190) 600 3) kd_T250q190 600 kd_S250q190 = true := by decide +kernel
theorem kd_h250q190 {g : kc_G} (hg : kc_ok g) : kd_hold g 4 kd_ty 250 kd_T250q190 := kd_mk (d0 := 0) (di := 3) hg kd_xk250 rfl rfl rfl rfl (kd_al_r kd_C250q190 trivial) (by decide) (by decide +kernel) kd_e250q190 (kd_al_r kd_S250q190 trivial)
def kd_T250q191 : kd_Tc := ([(3, 259, 259), (0, 2147483651, 2147484647), (0, 2147483650, 2147484647), (0, 2147483651, 2147484647), (0, 2147483650, 2147484647)], [], kd_P250)
def kd_C250q191 : List (Nat × kd_Tc) := []
def kd_S250q191 : List kd_St := []
theorem kd_e250q191 : kd_run0 kd_ty kd_x250 9 (kd_call kd_ty kd_xt (kd_ctl kd_C250q191) 600 3) kd_T250q191 600 kd_S250q191 = true := by decide +kernel
theorem kd_h250q191 {g : kc_G} (hg : kc_ok g) : kd_hold g 4 kd_ty 250 kd_T250q191 := kd_mk (d0 := 0) (di := 3) hg kd_xk250 rfl rfl rfl rfl (kd_al_r kd_C250q191 trivial) (by decide) (by decide +kernel) kd_e250q191 (kd_al_r kd_S250q191 trivial)
def kd_T250 : kd_Tc := ([(3, 259, 259), (0, 2147483648, 2147484647), (0, 2147483648, 2147484647), (0, 2147483648, 2147484647), (0, 2147482650, 2147484647)], [], kd_P250)
theorem kd_h250 {g : kc_G} (hg : kc_ok g) : kd_hold g 10 kd_ty 250 kd_T250 := kd_hold_arg [(3, 259, 259)] [(2147483648, 2147483648), (2147483649, 2147483649), (2147483650, 2147483650), (2147483651, 2147484647)] (by decide +kernel) (kd_al_r [(2147483648, 2147483648), (2147483649, 2147483649), (2147483650, 2147483650), (2147483651, 2147484647)] ⟨(kd_hold_arg [(3, 259, 259), (0, 2147483648, 2147483648)] [(2147483648, 2147483648), (2147483649, 2147483649), (2147483650, 2147484647)] (by decide +kernel) (kd_al_r [(2147483648, 2147483648), (2147483649, 2147483649), (2147483650, 2147484647)] ⟨(kd_hold_arg [(3, 259, 259), (0, 2147483648, 2147483648), (0, 2147483648, 2147483648)] [(2147483648, 2147483648), (2147483649, 2147483649), (2147483650, 2147483650), (2147483651, 2147484647)] (by decide +kernel) (kd_al_r [(2147483648, 2147483648), (2147483649, 2147483649), (2147483650, 2147483650), (2147483651, 2147484647)] ⟨(kd_hold_arg [(3, 259, 259), (0, 2147483648, 2147483648), (0, 2147483648, 2147483648), (0, 2147483648, 2147483648)] [(2147482650, 2147483647), (2147483648, 2147483648), (2147483649, 2147483649), (2147483650, 2147484647)] (by decide +kernel) (kd_al_r [(2147482650, 2147483647), (2147483648, 2147483648), (2147483649, 2147483649), (2147483650, 2147484647)] ⟨(kd_hold_le (kd_h250q0 hg) (by decide)), (kd_hold_le (kd_h250q1 hg) (by decide)), (kd_hold_le (kd_h250q2 hg) (by decide)), (kd_hold_le (kd_h250q3 hg) (by decide)), trivial⟩)), (kd_hold_arg [(3, 259, 259), (0, 2147483648, 2147483648), (0, 2147483648, 2147483648), (0, 2147483649, 2147483649)] [(2147482650, 2147483647), (2147483648, 2147483648), (2147483649, 2147483649), (2147483650, 2147484647)] (by decide +kernel) (kd_al_r [(2147482650, 2147483647), (2147483648, 2147483648), (2147483649, 2147483649), (2147483650, 2147484647)] ⟨(kd_hold_le (kd_h250q4 hg) (by decide)), (kd_hold_le (kd_h250q5 hg) (by decide)), (kd_hold_le (kd_h250q6 hg) (by decide)), (kd_hold_le (kd_h250q7 hg) (by decide)), trivial⟩)), (kd_hold_arg [(3, 259, 259), (0, 2147483648, 2147483648), (0, 2147483648, 2147483648), (0, 2147483650, 2147483650)] [(2147482650, 2147483647), (2147483648, 2147483648), (2147483649, 2147483649), (2147483650, 2147484647)] (by decide +kernel) (kd_al_r [(2147482650, 2147483647), (2147483648, 2147483648), (2147483649, 2147483649), (2147483650, 2147484647)] ⟨(kd_hold_le (kd_h250q8 hg) (by decide)), (kd_hold_le (kd_h250q9 hg) (by decide)), (kd_hold_le (kd_h250q10 hg) (by decide)), (kd_hold_le (kd_h250q11 hg) (by decide)), trivial⟩)), (kd_hold_arg [(3, 259, 259), (0, 2147483648, 2147483648), (0, 2147483648, 2147483648), (0, 2147483651, 2147484647)] [(2147482650, 2147483647), (2147483648, 2147483648), (2147483649, 2147483649), (2147483650, 2147484647)] (by decide +kernel) (kd_al_r [(2147482650, 2147483647), (2147483648, 2147483648), (2147483649, 2147483649), (2147483650, 2147484647)] ⟨(kd_hold_le (kd_h250q12 hg) (by decide)), (kd_hold_le (kd_h250q13 hg) (by decide)), (kd_hold_le (kd_h250q14 hg) (by decide)), (kd_hold_le (kd_h250q15 hg) (by decide)), trivial⟩)), trivial⟩)), (kd_hold_arg [(3, 259, 259), (0, 2147483648, 2147483648), (0, 2147483649, 2147483649)] [(2147483648, 2147483648), (2147483649, 2147483649), (2147483650, 2147483650), (2147483651, 2147484647)] (by decide +kernel) (kd_al_r [(2147483648, 2147483648), (2147483649, 2147483649), (2147483650, 2147483650), (2147483651, 2147484647)] ⟨(kd_hold_arg [(3, 259, 259), (0, 2147483648, 2147483648), (0, 2147483649, 2147483649), (0, 2147483648, 2147483648)] [(2147482650, 2147483647), (2147483648, 2147483648), (2147483649, 2147483649), (2147483650, 2147484647)] (by decide +kernel) (kd_al_r [(2147482650, 2147483647), (2147483648, 2147483648), (2147483649, 2147483649), (2147483650, 2147484647)] ⟨(kd_hold_le (kd_h250q16 hg) (by decide)), (kd_hold_le (kd_h250q17 hg) (by decide)), (kd_hold_le (kd_h250q18 hg) (by decide)), (kd_hold_le (kd_h250q19 hg) (by decide)), trivial⟩)), (kd_hold_arg [(3, 259, 259), (0, 2147483648, 2147483648), (0, 2147483649, 2147483649), (0, 2147483649, 2147483649)] [(2147482650, 2147483647), (2147483648, 2147483648), (2147483649, 2147483649), (2147483650, 2147484647)] (by decide +kernel) (kd_al_r [(2147482650, 2147483647), (2147483648, 2147483648), (2147483649, 2147483649), (2147483650, 2147484647)] ⟨(kd_hold_le (kd_h250q20 hg) (by decide)), (kd_hold_le (kd_h250q21 hg) (by decide)), (kd_hold_le (kd_h250q22 hg) (by decide)), (kd_hold_le (kd_h250q23 hg) (by decide)), trivial⟩)), (kd_hold_arg [(3, 259, 259), (0, 2147483648, 2147483648), (0, 2147483649, 2147483649), (0, 2147483650, 2147483650)] [(2147482650, 2147483647), (2147483648, 2147483648), (2147483649, 2147483649), (2147483650, 2147484647)] (by decide +kernel) (kd_al_r [(2147482650, 2147483647), (2147483648, 2147483648), (2147483649, 2147483649), (2147483650, 2147484647)] ⟨(kd_hold_le (kd_h250q24 hg) (by decide)), (kd_hold_le (kd_h250q25 hg) (by decide)), (kd_hold_le (kd_h250q26 hg) (by decide)), (kd_hold_le (kd_h250q27 hg) (by decide)), trivial⟩)), (kd_hold_arg [(3, 259, 259), (0, 2147483648, 2147483648), (0, 2147483649, 2147483649), (0, 2147483651, 2147484647)] [(2147482650, 2147483647), (2147483648, 2147483648), (2147483649, 2147483649), (2147483650, 2147484647)] (by decide +kernel) (kd_al_r [(2147482650, 2147483647), (2147483648, 2147483648), (2147483649, 2147483649), (2147483650, 2147484647)] ⟨(kd_hold_le (kd_h250q28 hg) (by decide)), (kd_hold_le (kd_h250q29 hg) (by decide)), (kd_hold_le (kd_h250q30 hg) (by decide)), (kd_hold_le (kd_h250q31 hg) (by decide)), trivial⟩)), trivial⟩)), (kd_hold_arg [(3, 259, 259), (0, 2147483648, 2147483648), (0, 2147483650, 2147484647)] [(2147483648, 2147483648), (2147483649, 2147483649), (2147483650, 2147483650), (2147483651, 2147484647)] (by decide +kernel) (kd_al_r [(2147483648, 2147483648), (2147483649, 2147483649), (2147483650, 2147483650), (2147483651, 2147484647)] ⟨(kd_hold_arg [(3, 259, 259), (0, 2147483648, 2147483648), (0, 2147483650, 2147484647), (0, 2147483648, 2147483648)] [(2147482650, 2147483647), (2147483648, 2147483648), (2147483649, 2147483649), (2147483650, 2147484647)] (by decide +kernel) (kd_al_r [(2147482650, 2147483647), (2147483648, 2147483648), (2147483649, 2147483649), (2147483650, 2147484647)] ⟨(kd_hold_le (kd_h250q32 hg) (by decide)), (kd_hold_le (kd_h250q33 hg) (by decide)), (kd_hold_le (kd_h250q34 hg) (by decide)), (kd_hold_le (kd_h250q35 hg) (by decide)), trivial⟩)), (kd_hold_arg [(3, 259, 259), (0, 2147483648, 2147483648), (0, 2147483650, 2147484647), (0, 2147483649, 2147483649)] [(2147482650, 2147483647), (2147483648, 2147483648), (2147483649, 2147483649), (2147483650, 2147484647)] (by decide +kernel) (kd_al_r [(2147482650, 2147483647), (2147483648, 2147483648), (2147483649, 2147483649), (2147483650, 2147484647)] ⟨(kd_hold_le (kd_h250q36 hg) (by decide)), (kd_hold_le (kd_h250q37 hg) (by decide)), (kd_hold_le (kd_h250q38 hg) (by decide)), (kd_hold_le (kd_h250q39 hg) (by decide)), trivial⟩)), (kd_hold_arg [(3, 259, 259), (0, 2147483648, 2147483648), (0, 2147483650, 2147484647), (0, 2147483650, 2147483650)] [(2147482650, 2147483647), (2147483648, 2147483648), (2147483649, 2147483649), (2147483650, 2147484647)] (by decide +kernel) (kd_al_r [(2147482650, 2147483647), (2147483648, 2147483648), (2147483649, 2147483649), (2147483650, 2147484647)] ⟨(kd_hold_le (kd_h250q40 hg) (by decide)), (kd_hold_le (kd_h250q41 hg) (by decide)), (kd_hold_le (kd_h250q42 hg) (by decide)), (kd_hold_le (kd_h250q43 hg) (by decide)), trivial⟩)), (kd_hold_arg [(3, 259, 259), (0, 2147483648, 2147483648), (0, 2147483650, 2147484647), (0, 2147483651, 2147484647)] [(2147482650, 2147483647), (2147483648, 2147483648), (2147483649, 2147483649), (2147483650, 2147484647)] (by decide +kernel) (kd_al_r [(2147482650, 2147483647), (2147483648, 2147483648), (2147483649, 2147483649), (2147483650, 2147484647)] ⟨(kd_hold_le (kd_h250q44 hg) (by decide)), (kd_hold_le (kd_h250q45 hg) (by decide)), (kd_hold_le (kd_h250q46 hg) (by decide)), (kd_hold_le (kd_h250q47 hg) (by decide)), trivial⟩)), trivial⟩)), trivial⟩)), (kd_hold_arg [(3, 259, 259), (0, 2147483649, 2147483649)] [(2147483648, 2147483648), (2147483649, 2147483649), (2147483650, 2147484647)] (by decide +kernel) (kd_al_r [(2147483648, 2147483648), (2147483649, 2147483649), (2147483650, 2147484647)] ⟨(kd_hold_arg [(3, 259, 259), (0, 2147483649, 2147483649), (0, 2147483648, 2147483648)] [(2147483648, 2147483648), (2147483649, 2147483649), (2147483650, 2147483650), (2147483651, 2147484647)] (by decide +kernel) (kd_al_r [(2147483648, 2147483648), (2147483649, 2147483649), (2147483650, 2147483650), (2147483651, 2147484647)] ⟨(kd_hold_arg [(3, 259, 259), (0, 2147483649, 2147483649), (0, 2147483648, 2147483648), (0, 2147483648, 2147483648)] [(2147482650, 2147483647), (2147483648, 2147483648), (2147483649, 2147483649), (2147483650, 2147484647)] (by decide +kernel) (kd_al_r [(2147482650, 2147483647), (2147483648, 2147483648), (2147483649, 2147483649), (2147483650, 2147484647)] ⟨(kd_hold_le (kd_h250q48 hg) (by decide)), (kd_hold_le (kd_h250q49 hg) (by decide)), (kd_hold_le (kd_h250q50 hg) (by decide)), (kd_hold_le (kd_h250q51 hg) (by decide)), trivial⟩)), (kd_hold_arg [(3, 259, 259), (0, 2147483649, 2147483649), (0, 2147483648, 2147483648), (0, 2147483649, 2147483649)] [(2147482650, 2147483647), (2147483648, 2147483648), (2147483649, 2147483649), (2147483650, 2147484647)] (by decide +kernel) (kd_al_r [(2147482650, 2147483647), (2147483648, 2147483648), (2147483649, 2147483649), (2147483650, 2147484647)] ⟨(kd_hold_le (kd_h250q52 hg) (by decide)), (kd_hold_le (kd_h250q53 hg) (by decide)), (kd_hold_le (kd_h250q54 hg) (by decide)), (kd_hold_le (kd_h250q55 hg) (by decide)), trivial⟩)), (kd_hold_arg [(3, 259, 259), (0, 2147483649, 2147483649), (0, 2147483648, 2147483648), (0, 2147483650, 2147483650)] [(2147482650, 2147483647), (2147483648, 2147483648), (2147483649, 2147483649), (2147483650, 2147484647)] (by decide +kernel) (kd_al_r [(2147482650, 2147483647), (2147483648, 2147483648), (2147483649, 2147483649), (2147483650, 2147484647)] ⟨(kd_hold_le (kd_h250q56 hg) (by decide)), (kd_hold_le (kd_h250q57 hg) (by decide)), (kd_hold_le (kd_h250q58 hg) (by decide)), (kd_hold_le (kd_h250q59 hg) (by decide)), trivial⟩)), (kd_hold_arg [(3, 259, 259), (0, 2147483649, 2147483649), (0, 2147483648, 2147483648), (0, 2147483651, 2147484647)] [(2147482650, 2147483647), (2147483648, 2147483648), (2147483649, 2147483649), (2147483650, 2147484647)] (by decide +kernel) (kd_al_r [(2147482650, 2147483647), (2147483648, 2147483648), (2147483649, 2147483649), (2147483650, 2147484647)] ⟨(kd_hold_le (kd_h250q60 hg) (by decide)), (kd_hold_le (kd_h250q61 hg) (by decide)), (kd_hold_le (kd_h250q62 hg) (by decide)), (kd_hold_le (kd_h250q63 hg) (by decide)), trivial⟩)), trivial⟩)), (kd_hold_arg [(3, 259, 259), (0, 2147483649, 2147483649), (0, 2147483649, 2147483649)] [(2147483648, 2147483648), (2147483649, 2147483649), (2147483650, 2147483650), (2147483651, 2147484647)] (by decide +kernel) (kd_al_r [(2147483648, 2147483648), (2147483649, 2147483649), (2147483650, 2147483650), (2147483651, 2147484647)] ⟨(kd_hold_arg [(3, 259, 259), (0, 2147483649, 2147483649), (0, 2147483649, 2147483649), (0, 2147483648, 2147483648)] [(2147482650, 2147483647), (2147483648, 2147483648), (2147483649, 2147483649), (2147483650, 2147484647)] (by decide +kernel) (kd_al_r [(2147482650, 2147483647), (2147483648, 2147483648), (2147483649, 2147483649), (2147483650, 2147484647)] ⟨(kd_hold_le (kd_h250q64 hg) (by decide)), (kd_hold_le (kd_h250q65 hg) (by decide)), (kd_hold_le (kd_h250q66 hg) (by decide)), (kd_hold_le (kd_h250q67 hg) (by decide)), trivial⟩)), (kd_hold_arg [(3, 259, 259), (0, 2147483649, 2147483649), (0, 2147483649, 2147483649), (0, 2147483649, 2147483649)] [(2147482650, 2147483647), (2147483648, 2147483648), (2147483649, 2147483649), (2147483650, 2147484647)] (by decide +kernel) (kd_al_r [(2147482650, 2147483647), (2147483648, 2147483648), (2147483649, 2147483649), (2147483650, 2147484647)] ⟨(kd_hold_le (kd_h250q68 hg) (by decide)), (kd_hold_le (kd_h250q69 hg) (by decide)), (kd_hold_le (kd_h250q70 hg) (by decide)), (kd_hold_le (kd_h250q71 hg) (by decide)), trivial⟩)), (kd_hold_arg [(3, 259, 259), (0, 2147483649, 2147483649), (0, 2147483649, 2147483649), (0, 2147483650, 2147483650)] [(2147482650, 2147483647), (2147483648, 2147483648), (2147483649, 2147483649), (2147483650, 2147484647)] (by decide +kernel) (kd_al_r [(2147482650, 2147483647), (2147483648, 2147483648), (2147483649, 2147483649), (2147483650, 2147484647)] ⟨(kd_hold_le (kd_h250q72 hg) (by decide)), (kd_hold_le (kd_h250q73 hg) (by decide)), (kd_hold_le (kd_h250q74 hg) (by decide)), (kd_hold_le (kd_h250q75 hg) (by decide)), trivial⟩)), (kd_hold_arg [(3, 259, 259), (0, 2147483649, 2147483649), (0, 2147483649, 2147483649), (0, 2147483651, 2147484647)] [(2147482650, 2147483647), (2147483648, 2147483648), (2147483649, 2147483649), (2147483650, 2147484647)] (by decide +kernel) (kd_al_r [(2147482650, 2147483647), (2147483648, 2147483648), (2147483649, 2147483649), (2147483650, 2147484647)] ⟨(kd_hold_le (kd_h250q76 hg) (by decide)), (kd_hold_le (kd_h250q77 hg) (by decide)), (kd_hold_le (kd_h250q78 hg) (by decide)), (kd_hold_le (kd_h250q79 hg) (by decide)), trivial⟩)), trivial⟩)), (kd_hold_arg [(3, 259, 259), (0, 2147483649, 2147483649), (0, 2147483650, 2147484647)] [(2147483648, 2147483648), (2147483649, 2147483649), (2147483650, 2147483650), (2147483651, 2147484647)] (by decide +kernel) (kd_al_r [(2147483648, 2147483648), (2147483649, 2147483649), (2147483650, 2147483650), (2147483651, 2147484647)] ⟨(kd_hold_arg [(3, 259, 259), (0, 2147483649, 2147483649), (0, 2147483650, 2147484647), (0, 2147483648, 2147483648)] [(2147482650, 2147483647), (2147483648, 2147483648), (2147483649, 2147483649), (2147483650, 2147484647)] (by decide +kernel) (kd_al_r [(2147482650, 2147483647), (2147483648, 2147483648), (2147483649, 2147483649), (2147483650, 2147484647)] ⟨(kd_hold_le (kd_h250q80 hg) (by decide)), (kd_hold_le (kd_h250q81 hg) (by decide)), (kd_hold_le (kd_h250q82 hg) (by decide)), (kd_hold_le (kd_h250q83 hg) (by decide)), trivial⟩)), (kd_hold_arg [(3, 259, 259), (0, 2147483649, 2147483649), (0, 2147483650, 2147484647), (0, 2147483649, 2147483649)] [(2147482650, 2147483647), (2147483648, 2147483648), (2147483649, 2147483649), (2147483650, 2147484647)] (by decide +kernel) (kd_al_r [(2147482650, 2147483647), (2147483648, 2147483648), (2147483649, 2147483649), (2147483650, 2147484647)] ⟨(kd_hold_le (kd_h250q84 hg) (by decide)), (kd_hold_le (kd_h250q85 hg) (by decide)), (kd_hold_le (kd_h250q86 hg) (by decide)), (kd_hold_le (kd_h250q87 hg) (by decide)), trivial⟩)), (kd_hold_arg [(3, 259, 259), (0, 2147483649, 2147483649), (0, 2147483650, 2147484647), (0, 2147483650, 2147483650)] [(2147482650, 2147483647), (2147483648, 2147483648), (2147483649, 2147483649), (2147483650, 2147484647)] (by decide +kernel) (kd_al_r [(2147482650, 2147483647), (2147483648, 2147483648), (2147483649, 2147483649), (2147483650, 2147484647)] ⟨(kd_hold_le (kd_h250q88 hg) (by decide)), (kd_hold_le (kd_h250q89 hg) (by decide)), (kd_hold_le (kd_h250q90 hg) (by decide)), (kd_hold_le (kd_h250q91 hg) (by decide)), trivial⟩)), (kd_hold_arg [(3, 259, 259), (0, 2147483649, 2147483649), (0, 2147483650, 2147484647), (0, 2147483651, 2147484647)] [(2147482650, 2147483647), (2147483648, 2147483648), (2147483649, 2147483649), (2147483650, 2147484647)] (by decide +kernel) (kd_al_r [(2147482650, 2147483647), (2147483648, 2147483648), (2147483649, 2147483649), (2147483650, 2147484647)] ⟨(kd_hold_le (kd_h250q92 hg) (by decide)), (kd_hold_le (kd_h250q93 hg) (by decide)), (kd_hold_le (kd_h250q94 hg) (by decide)), (kd_hold_le (kd_h250q95 hg) (by decide)), trivial⟩)), trivial⟩)), trivial⟩)), (kd_hold_arg [(3, 259, 259), (0, 2147483650, 2147483650)] [(2147483648, 2147483648), (2147483649, 2147483649), (2147483650, 2147484647)] (by decide +kernel) (kd_al_r [(2147483648, 2147483648), (2147483649, 2147483649), (2147483650, 2147484647)] ⟨(kd_hold_arg [(3, 259, 259), (0, 2147483650, 2147483650), (0, 2147483648, 2147483648)] [(2147483648, 2147483648), (2147483649, 2147483649), (2147483650, 2147483650), (2147483651, 2147484647)] (by decide +kernel) (kd_al_r [(2147483648, 2147483648), (2147483649, 2147483649), (2147483650, 2147483650), (2147483651, 2147484647)] ⟨(kd_hold_arg [(3, 259, 259), (0, 2147483650, 2147483650), (0, 2147483648, 2147483648), (0, 2147483648, 2147483648)] [(2147482650, 2147483647), (2147483648, 2147483648), (2147483649, 2147483649), (2147483650, 2147484647)] (by decide +kernel) (kd_al_r [(2147482650, 2147483647), (2147483648, 2147483648), (2147483649, 2147483649), (2147483650, 2147484647)] ⟨(kd_hold_le (kd_h250q96 hg) (by decide)), (kd_hold_le (kd_h250q97 hg) (by decide)), (kd_hold_le (kd_h250q98 hg) (by decide)), (kd_hold_le (kd_h250q99 hg) (by decide)), trivial⟩)), (kd_hold_arg [(3, 259, 259), (0, 2147483650, 2147483650), (0, 2147483648, 2147483648), (0, 2147483649, 2147483649)] [(2147482650, 2147483647), (2147483648, 2147483648), (2147483649, 2147483649), (2147483650, 2147484647)] (by decide +kernel) (kd_al_r [(2147482650, 2147483647), (2147483648, 2147483648), (2147483649, 2147483649), (2147483650, 2147484647)] ⟨(kd_hold_le (kd_h250q100 hg) (by decide)), (kd_hold_le (kd_h250q101 hg) (by decide)), (kd_hold_le (kd_h250q102 hg) (by decide)), (kd_hold_le (kd_h250q103 hg) (by decide)), trivial⟩)), (kd_hold_arg [(3, 259, 259), (0, 2147483650, 2147483650), (0, 2147483648, 2147483648), (0, 2147483650, 2147483650)] [(2147482650, 2147483647), (2147483648, 2147483648), (2147483649, 2147483649), (2147483650, 2147484647)] (by decide +kernel) (kd_al_r [(2147482650, 2147483647), (2147483648, 2147483648), (2147483649, 2147483649), (2147483650, 2147484647)] ⟨(kd_hold_le (kd_h250q104 hg) (by decide)), (kd_hold_le (kd_h250q105 hg) (by decide)), (kd_hold_le (kd_h250q106 hg) (by decide)), (kd_hold_le (kd_h250q107 hg) (by decide)), trivial⟩)), (kd_hold_arg [(3, 259, 259), (0, 2147483650, 2147483650), (0, 2147483648, 2147483648), (0, 2147483651, 2147484647)] [(2147482650, 2147483647), (2147483648, 2147483648), (2147483649, 2147483649), (2147483650, 2147484647)] (by decide +kernel) (kd_al_r [(2147482650, 2147483647), (2147483648, 2147483648), (2147483649, 2147483649), (2147483650, 2147484647)] ⟨(kd_hold_le (kd_h250q108 hg) (by decide)), (kd_hold_le (kd_h250q109 hg) (by decide)), (kd_hold_le (kd_h250q110 hg) (by decide)), (kd_hold_le (kd_h250q111 hg) (by decide)), trivial⟩)), trivial⟩)), (kd_hold_arg [(3, 259, 259), (0, 2147483650, 2147483650), (0, 2147483649, 2147483649)] [(2147483648, 2147483648), (2147483649, 2147483649), (2147483650, 2147483650), (2147483651, 2147484647)] (by decide +kernel) (kd_al_r [(2147483648, 2147483648), (2147483649, 2147483649), (2147483650, 2147483650), (2147483651, 2147484647)] ⟨(kd_hold_arg [(3, 259, 259), (0, 2147483650, 2147483650), (0, 2147483649, 2147483649), (0, 2147483648, 2147483648)] [(2147482650, 2147483647), (2147483648, 2147483648), (2147483649, 2147483649), (2147483650, 2147484647)] (by decide +kernel) (kd_al_r [(2147482650, 2147483647), (2147483648, 2147483648), (2147483649, 2147483649), (2147483650, 2147484647)] ⟨(kd_hold_le (kd_h250q112 hg) (by decide)), (kd_hold_le (kd_h250q113 hg) (by decide)), (kd_hold_le (kd_h250q114 hg) (by decide)), (kd_hold_le (kd_h250q115 hg) (by decide)), trivial⟩)), (kd_hold_arg [(3, 259, 259), (0, 2147483650, 2147483650), (0, 2147483649, 2147483649), (0, 2147483649, 2147483649)] [(2147482650, 2147483647), (2147483648, 2147483648), (2147483649, 2147483649), (2147483650, 2147484647)] (by decide +kernel) (kd_al_r [(2147482650, 2147483647), (2147483648, 2147483648), (2147483649, 2147483649), (2147483650, 2147484647)] ⟨(kd_hold_le (kd_h250q116 hg) (by decide)), (kd_hold_le (kd_h250q117 hg) (by decide)), (kd_hold_le (kd_h250q118 hg) (by decide)), (kd_hold_le (kd_h250q119 hg) (by decide)), trivial⟩)), (kd_hold_arg [(3, 259, 259), (0, 2147483650, 2147483650), (0, 2147483649, 2147483649), (0, 2147483650, 2147483650)] [(2147482650, 2147483647), (2147483648, 2147483648), (2147483649, 2147483649), (2147483650, 2147484647)] (by decide +kernel) (kd_al_r [(2147482650, 2147483647), (2147483648, 2147483648), (2147483649, 2147483649), (2147483650, 2147484647)] ⟨(kd_hold_le (kd_h250q120 hg) (by decide)), (kd_hold_le (kd_h250q121 hg) (by decide)), (kd_hold_le (kd_h250q122 hg) (by decide)), (kd_hold_le (kd_h250q123 hg) (by decide)), trivial⟩)), (kd_hold_arg [(3, 259, 259), (0, 2147483650, 2147483650), (0, 2147483649, 2147483649), (0, 2147483651, 2147484647)] [(2147482650, 2147483647), (2147483648, 2147483648), (2147483649, 2147483649), (2147483650, 2147484647)] (by decide +kernel) (kd_al_r [(2147482650, 2147483647), (2147483648, 2147483648), (2147483649, 2147483649), (2147483650, 2147484647)] ⟨(kd_hold_le (kd_h250q124 hg) (by decide)), (kd_hold_le (kd_h250q125 hg) (by decide)), (kd_hold_le (kd_h250q126 hg) (by decide)), (kd_hold_le (kd_h250q127 hg) (by decide)), trivial⟩)), trivial⟩)), (kd_hold_arg [(3, 259, 259), (0, 2147483650, 2147483650), (0, 2147483650, 2147484647)] [(2147483648, 2147483648), (2147483649, 2147483649), (2147483650, 2147483650), (2147483651, 2147484647)] (by decide +kernel) (kd_al_r [(2147483648, 2147483648), (2147483649, 2147483649), (2147483650, 2147483650), (2147483651, 2147484647)] ⟨(kd_hold_arg [(3, 259, 259), (0, 2147483650, 2147483650), (0, 2147483650, 2147484647), (0, 2147483648, 2147483648)] [(2147482650, 2147483647), (2147483648, 2147483648), (2147483649, 2147483649), (2147483650, 2147484647)] (by decide +kernel) (kd_al_r [(2147482650, 2147483647), (2147483648, 2147483648), (2147483649, 2147483649), (2147483650, 2147484647)] ⟨(kd_hold_le (kd_h250q128 hg) (by decide)), (kd_hold_le (kd_h250q129 hg) (by decide)), (kd_hold_le (kd_h250q130 hg) (by decide)), (kd_hold_le (kd_h250q131 hg) (by decide)), trivial⟩)), (kd_hold_arg [(3, 259, 259), (0, 2147483650, 2147483650), (0, 2147483650, 2147484647), (0, 2147483649, 2147483649)] [(2147482650, 2147483647), (2147483648, 2147483648), (2147483649, 2147483649), (2147483650, 2147484647)] (by decide +kernel) (kd_al_r [(2147482650, 2147483647), (2147483648, 2147483648), (2147483649, 2147483649), (2147483650, 2147484647)] ⟨(kd_hold_le (kd_h250q132 hg) (by decide)), (kd_hold_le (kd_h250q133 hg) (by decide)), (kd_hold_le (kd_h250q134 hg) (by decide)), (kd_hold_le (kd_h250q135 hg) (by decide)), trivial⟩)), (kd_hold_arg [(3, 259, 259), (0, 2147483650, 2147483650), (0, 2147483650, 2147484647), (0, 2147483650, 2147483650)] [(2147482650, 2147483647), (2147483648, 2147483648), (2147483649, 2147483649), (2147483650, 2147484647)] (by decide +kernel) (kd_al_r [(2147482650, 2147483647), (2147483648, 2147483648), (2147483649, 2147483649), (2147483650, 2147484647)] ⟨(kd_hold_le (kd_h250q136 hg) (by decide)), (kd_hold_le (kd_h250q137 hg) (by decide)), (kd_hold_le (kd_h250q138 hg) (by decide)), (kd_hold_le (kd_h250q139 hg) (by decide)), trivial⟩)), (kd_hold_arg [(3, 259, 259), (0, 2147483650, 2147483650), (0, 2147483650, 2147484647), (0, 2147483651, 2147484647)] [(2147482650, 2147483647), (2147483648, 2147483648), (2147483649, 2147483649), (2147483650, 2147484647)] (by decide +kernel) (kd_al_r [(2147482650, 2147483647), (2147483648, 2147483648), (2147483649, 2147483649), (2147483650, 2147484647)] ⟨(kd_hold_le (kd_h250q140 hg) (by decide)), (kd_hold_le (kd_h250q141 hg) (by decide)), (kd_hold_le (kd_h250q142 hg) (by decide)), (kd_hold_le (kd_h250q143 hg) (by decide)), trivial⟩)), trivial⟩)), trivial⟩)), (kd_hold_arg [(3, 259, 259), (0, 2147483651, 2147484647)] [(2147483648, 2147483648), (2147483649, 2147483649), (2147483650, 2147484647)] (by decide +kernel) (kd_al_r [(2147483648, 2147483648), (2147483649, 2147483649), (2147483650, 2147484647)] ⟨(kd_hold_arg [(3, 259, 259), (0, 2147483651, 2147484647), (0, 2147483648, 2147483648)] [(2147483648, 2147483648), (2147483649, 2147483649), (2147483650, 2147483650), (2147483651, 2147484647)] (by decide +kernel) (kd_al_r [(2147483648, 2147483648), (2147483649, 2147483649), (2147483650, 2147483650), (2147483651, 2147484647)] ⟨(kd_hold_arg [(3, 259, 259), (0, 2147483651, 2147484647), (0, 2147483648, 2147483648), (0, 2147483648, 2147483648)] [(2147482650, 2147483647), (2147483648, 2147483648), (2147483649, 2147483649), (2147483650, 2147484647)] (by decide +kernel) (kd_al_r [(2147482650, 2147483647), (2147483648, 2147483648), (2147483649, 2147483649), (2147483650, 2147484647)] ⟨(kd_hold_le (kd_h250q144 hg) (by decide)), (kd_hold_le (kd_h250q145 hg) (by decide)), (kd_hold_le (kd_h250q146 hg) (by decide)), (kd_hold_le (kd_h250q147 hg) (by decide)), trivial⟩)), (kd_hold_arg [(3, 259, 259), (0, 2147483651, 2147484647), (0, 2147483648, 2147483648), (0, 2147483649, 2147483649)] [(2147482650, 2147483647), (2147483648, 2147483648), (2147483649, 2147483649), (2147483650, 2147484647)] (by decide +kernel) (kd_al_r [(2147482650, 2147483647), (2147483648, 2147483648), (2147483649, 2147483649), (2147483650, 2147484647)] ⟨(kd_hold_le (kd_h250q148 hg) (by decide)), (kd_hold_le (kd_h250q149 hg) (by decide)), (kd_hold_le (kd_h250q150 hg) (by decide)), (kd_hold_le (kd_h250q151 hg) (by decide)), trivial⟩)), (kd_hold_arg [(3, 259, 259), (0, 2147483651, 2147484647), (0, 2147483648, 2147483648), (0, 2147483650, 2147483650)] [(2147482650, 2147483647), (2147483648, 2147483648), (2147483649, 2147483649), (2147483650, 2147484647)] (by decide +kernel) (kd_al_r [(2147482650, 2147483647), (2147483648, 2147483648), (2147483649, 2147483649), (2147483650, 2147484647)] ⟨(kd_hold_le (kd_h250q152 hg) (by decide)), (kd_hold_le (kd_h250q153 hg) (by decide)), (kd_hold_le (kd_h250q154 hg) (by decide)), (kd_hold_le (kd_h250q155 hg) (by decide)), trivial⟩)), (kd_hold_arg [(3, 259, 259), (0, 2147483651, 2147484647), (0, 2147483648, 2147483648), (0, 2147483651, 2147484647)] [(2147482650, 2147483647), (2147483648, 2147483648), (2147483649, 2147483649), (2147483650, 2147484647)] (by decide +kernel) (kd_al_r [(2147482650, 2147483647), (2147483648, 2147483648), (2147483649, 2147483649), (2147483650, 2147484647)] ⟨(kd_hold_le (kd_h250q156 hg) (by decide)), (kd_hold_le (kd_h250q157 hg) (by decide)), (kd_hold_le (kd_h250q158 hg) (by decide)), (kd_hold_le (kd_h250q159 hg) (by decide)), trivial⟩)), trivial⟩)), (kd_hold_arg [(3, 259, 259), (0, 2147483651, 2147484647), (0, 2147483649, 2147483649)] [(2147483648, 2147483648), (2147483649, 2147483649), (2147483650, 2147483650), (2147483651, 2147484647)] (by decide +kernel) (kd_al_r [(2147483648, 2147483648), (2147483649, 2147483649), (2147483650, 2147483650), (2147483651, 2147484647)] ⟨(kd_hold_arg [(3, 259, 259), (0, 2147483651, 2147484647), (0, 2147483649, 2147483649), (0, 2147483648, 2147483648)] [(2147482650, 2147483647), (2147483648, 2147483648), (2147483649, 2147483649), (2147483650, 2147484647)] (by decide +kernel) (kd_al_r [(2147482650, 2147483647), (2147483648, 2147483648), (2147483649, 2147483649), (2147483650, 2147484647)] ⟨(kd_hold_le (kd_h250q160 hg) (by decide)), (kd_hold_le (kd_h250q161 hg) (by decide)), (kd_hold_le (kd_h250q162 hg) (by decide)), (kd_hold_le (kd_h250q163 hg) (by decide)), trivial⟩)), (kd_hold_arg [(3, 259, 259), (0, 2147483651, 2147484647), (0, 2147483649, 2147483649), (0, 2147483649, 2147483649)] [(2147482650, 2147483647), (2147483648, 2147483648), (2147483649, 2147483649), (2147483650, 2147484647)] (by decide +kernel) (kd_al_r [(2147482650, 2147483647), (2147483648, 2147483648), (2147483649, 2147483649), (2147483650, 2147484647)] ⟨(kd_hold_le (kd_h250q164 hg) (by decide)), (kd_hold_le (kd_h250q165 hg) (by decide)), (kd_hold_le (kd_h250q166 hg) (by decide)), (kd_hold_le (kd_h250q167 hg) (by decide)), trivial⟩)), (kd_hold_arg [(3, 259, 259), (0, 2147483651, 2147484647), (0, 2147483649, 2147483649), (0, 2147483650, 2147483650)] [(2147482650, 2147483647), (2147483648, 2147483648), (2147483649, 2147483649), (2147483650, 2147484647)] (by decide +kernel) (kd_al_r [(2147482650, 2147483647), (2147483648, 2147483648), (2147483649, 2147483649), (2147483650, 2147484647)] ⟨(kd_hold_le (kd_h250q168 hg) (by decide)), (kd_hold_le (kd_h250q169 hg) (by decide)), (kd_hold_le (kd_h250q170 hg) (by decide)), (kd_hold_le (kd_h250q171 hg) (by decide)), trivial⟩)), (kd_hold_arg [(3, 259, 259), (0, 2147483651, 2147484647), (0, 2147483649, 2147483649), (0, 2147483651, 2147484647)] [(2147482650, 2147483647), (2147483648, 2147483648), (2147483649, 2147483649), (2147483650, 2147484647)] (by decide +kernel) (kd_al_r [(2147482650, 2147483647), (2147483648, 2147483648), (2147483649, 2147483649), (2147483650, 2147484647)] ⟨(kd_hold_le (kd_h250q172 hg) (by decide)), (kd_hold_le (kd_h250q173 hg) (by decide)), (kd_hold_le (kd_h250q174 hg) (by decide)), (kd_hold_le (kd_h250q175 hg) (by decide)), trivial⟩)), trivial⟩)), (kd_hold_arg [(3, 259, 259), (0, 2147483651, 2147484647), (0, 2147483650, 2147484647)] [(2147483648, 2147483648), (2147483649, 2147483649), (2147483650, 2147483650), (2147483651, 2147484647)] (by decide +kernel) (kd_al_r [(2147483648, 2147483648), (2147483649, 2147483649), (2147483650, 2147483650), (2147483651, 2147484647)] ⟨(kd_hold_arg [(3, 259, 259), (0, 2147483651, 2147484647), (0, 2147483650, 2147484647), (0, 2147483648, 2147483648)] [(2147482650, 2147483647), (2147483648, 2147483648), (2147483649, 2147483649), (2147483650, 2147484647)] (by decide +kernel) (kd_al_r [(2147482650, 2147483647), (2147483648, 2147483648), (2147483649, 2147483649), (2147483650, 2147484647)] ⟨(kd_hold_le (kd_h250q176 hg) (by decide)), (kd_hold_le (kd_h250q177 hg) (by decide)), (kd_hold_le (kd_h250q178 hg) (by decide)), (kd_hold_le (kd_h250q179 hg) (by decide)), trivial⟩)), (kd_hold_arg [(3, 259, 259), (0, 2147483651, 2147484647), (0, 2147483650, 2147484647), (0, 2147483649, 2147483649)] [(2147482650, 2147483647), (2147483648, 2147483648), (2147483649, 2147483649), (2147483650, 2147484647)] (by decide +kernel) (kd_al_r [(2147482650, 2147483647), (2147483648, 2147483648), (2147483649, 2147483649), (2147483650, 2147484647)] ⟨(kd_hold_le (kd_h250q180 hg) (by decide)), (kd_hold_le (kd_h250q181 hg) (by decide)), (kd_hold_le (kd_h250q182 hg) (by decide)), (kd_hold_le (kd_h250q183 hg) (by decide)), trivial⟩)), (kd_hold_arg [(3, 259, 259), (0, 2147483651, 2147484647), (0, 2147483650, 2147484647), (0, 2147483650, 2147483650)] [(2147482650, 2147483647), (2147483648, 2147483648), (2147483649, 2147483649), (2147483650, 2147484647)] (by decide +kernel) (kd_al_r [(2147482650, 2147483647), (2147483648, 2147483648), (2147483649, 2147483649), (2147483650, 2147484647)] ⟨(kd_hold_le (kd_h250q184 hg) (by decide)), (kd_hold_le (kd_h250q185 hg) (by decide)), (kd_hold_le (kd_h250q186 hg) (by decide)), (kd_hold_le (kd_h250q187 hg) (by decide)), trivial⟩)), (kd_hold_arg [(3, 259, 259), (0, 2147483651, 2147484647), (0, 2147483650, 2147484647), (0, 2147483651, 2147484647)] [(2147482650, 2147483647), (2147483648, 2147483648), (2147483649, 2147483649), (2147483650, 2147484647)] (by decide +kernel) (kd_al_r [(2147482650, 2147483647), (2147483648, 2147483648), (2147483649, 2147483649), (2147483650, 2147484647)] ⟨(kd_hold_le (kd_h250q188 hg) (by decide)), (kd_hold_le (kd_h250q189 hg) (by decide)), (kd_hold_le (kd_h250q190 hg) (by decide)), (kd_hold_le (kd_h250q191 hg) (by decide)), trivial⟩)), trivial⟩)), trivial⟩)), trivial⟩)
