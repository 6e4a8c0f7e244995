/-! ===== contracts, km 2 ===== -/
def kd_P239 : List kd_P := [(some (0, 2147483648, 2147483653), [], [(268, 268, 0, 5), (266, 266, 0, 9), (267, 267, 0, 17)])]
def kd_T239q0 : kd_Tc := ([(3, 259, 259), (0, 2147483648, 2147484647), (0, 2147483648, 2147483648), (0, 2147483648, 2147483648)], [], kd_P239)
def kd_C239q0 : List (Nat × kd_Tc) := [(248, kd_T248c0), (240, kd_T240c0)]
def kd_S239q0 : List kd_St := []
theorem kd_e239q0 : kd_run0 kd_ty kd_x239 5 (kd_call kd_ty kd_xt (kd_ctl kd_C239q0) 600 3) kd_T239q0 600 kd_S239q0 = true := by decide +kernel
theorem kd_h239q0 {g : kc_G} (hg : kc_ok g) : kd_hold g 10 kd_ty 239 kd_T239q0 := kd_mk (d0 := 6) (di := 3) hg kd_xk239 rfl rfl rfl rfl (kd_al_r kd_C239q0 ⟨kd_hold_le (kd_h248c0 hg) (by decide), kd_hold_le (kd_h240c0 hg) (by decide), trivial⟩) (by decide) (by decide +kernel) kd_e239q0 (kd_al_r kd_S239q0 trivial)
def kd_T239q1 : kd_Tc := ([(3, 259, 259), (0, 2147483648, 2147484647), (0, 2147483648, 2147483648), (0, 2147483649, 2147483649)], [], kd_P239)
def kd_C239q1 : List (Nat × kd_Tc) := [(248, kd_T248c1), (240, kd_T240c1)]
def kd_S239q1 : List kd_St := []
theorem kd_e239q1 : kd_run0 kd_ty kd_x239 5 (kd_call kd_ty kd_xt (kd_ctl kd_C239q1) 600 3) kd_T239q1 600 kd_S239q1 = true := by decide +kernel
theorem kd_h239q1 {g : kc_G} (hg : kc_ok g) : kd_hold g 10 kd_ty 239 kd_T239q1 := kd_mk (d0 := 6) (di := 3) hg kd_xk239 rfl rfl rfl rfl (kd_al_r kd_C239q1 ⟨kd_hold_le (kd_h248c1 hg) (by decide), kd_hold_le (kd_h240c1 hg) (by decide), trivial⟩) (by decide) (by decide +kernel) kd_e239q1 (kd_al_r kd_S239q1 trivial)
def kd_T239q2 : kd_Tc := ([(3, 259, 259), (0, 2147483648, 2147484647), (0, 2147483648, 2147483648), (0, 2147483650, 2147484647)], [], kd_P239)
def kd_C239q2 : List (Nat × kd_Tc) := []
def kd_S239q2 : List kd_St := []
theorem kd_e239q2 : kd_run0 kd_ty kd_x239 5 (kd_call kd_ty kd_xt (kd_ctl kd_C239q2) 600 3) kd_T239q2 600 kd_S239q2 = true := by decide +kernel
theorem kd_h239q2 {g : kc_G} (hg : kc_ok g) : kd_hold g 4 kd_ty 239 kd_T239q2 := kd_mk (d0 := 0) (di := 3) hg kd_xk239 rfl rfl rfl rfl (kd_al_r kd_C239q2 trivial) (by decide) (by decide +kernel) kd_e239q2 (kd_al_r kd_S239q2 trivial)
def kd_T239q3 : kd_Tc := ([(3, 259, 259), (0, 2147483648, 2147484647), (0, 2147483649, 2147483649), (0, 2147483648, 2147483648)], [], kd_P239)
def kd_C239q3 : List (Nat × kd_Tc) := [(248, kd_T248c2), (240, kd_T240c2)]
def kd_S239q3 : List kd_St := []
theorem kd_e239q3 : kd_run0 kd_ty kd_x239 5 (kd_call kd_ty kd_xt (kd_ctl kd_C239q3) 600 3) kd_T239q3 600 kd_S239q3 = true := by decide +kernel
theorem kd_h239q3 {g : kc_G} (hg : kc_ok g) : kd_hold g 10 kd_ty 239 kd_T239q3 := kd_mk (d0 := 6) (di := 3) hg kd_xk239 rfl rfl rfl rfl (kd_al_r kd_C239q3 ⟨kd_hold_le (kd_h248c2 hg) (by decide), kd_hold_le (kd_h240c2 hg) (by decide), trivial⟩) (by decide) (by decide +kernel) kd_e239q3 (kd_al_r kd_S239q3 trivial)
def kd_T239q4 : kd_Tc := ([(3, 259, 259), (0, 2147483648, 2147484647), (0, 2147483649, 2147483649), (0, 2147483649, 2147483649)], [], kd_P239)
def kd_C239q4 : List (Nat × kd_Tc) := [(248, kd_T248c3), (240, kd_T240c3)]
def kd_S239q4 : List kd_St := []
theorem kd_e239q4 : kd_run0 kd_ty kd_x239 5 (kd_call kd_ty kd_xt (kd_ctl kd_C239q4) 600 3) kd_T239q4 600 kd_S239q4 = true := by decide +kernel
theorem kd_h239q4 {g : kc_G} (hg : kc_ok g) : kd_hold g 10 kd_ty 239 kd_T239q4 := kd_mk (d0 := 6) (di := 3) hg kd_xk239 rfl rfl rfl rfl (kd_al_r kd_C239q4 ⟨kd_hold_le (kd_h248c3 hg) (by decide), kd_hold_le (kd_h240c3 hg) (by decide), trivial⟩) (by decide) (by decide +kernel) kd_e239q4 (kd_al_r kd_S239q4 trivial)
def kd_T239q5 : kd_Tc := ([(3, 259, 259), (0, 2147483648, 2147484647), (0, 2147483649, 2147483649), (0, 2147483650, 2147484647)], [], kd_P239)
def kd_C239q5 : List (Nat × kd_Tc) := []
def kd_S239q5 : List kd_St := []
theorem kd_e239q5 : kd_run0 kd_ty kd_x239 5 (kd_call kd_ty kd_xt (kd_ctl kd_C239q5) 600 3) kd_T239q5 600 kd_S239q5 = true := by decide +kernel
theorem kd_h239q5 {g : kc_G} (hg : kc_ok g) : kd_hold g 4 kd_ty 239 kd_T239q5 := kd_mk (d0 := 0) (di := 3) hg kd_xk239 rfl rfl rfl rfl (kd_al_r kd_C239q5 trivial) (by decide) (by decide +kernel) kd_e239q5 (kd_al_r kd_S239q5 trivial)
def kd_T239q6 : kd_Tc := ([(3, 259, 259), (0, 2147483648, 2147484647), (0, 2147483650, 2147483650), (0, 2147483648, 2147483648)], [], kd_P239)
def kd_C239q6 : List (Nat × kd_Tc) := [(248, kd_T248c4), (240, kd_T240c4)]
def kd_S239q6 : List kd_St := []
theorem kd_e239q6 : kd_run0 kd_ty kd_x239 5 (kd_call kd_ty kd_xt (kd_ctl kd_C239q6) 600 3) kd_T239q6 600 kd_S239q6 = true := by decide +kernel
theorem kd_h239q6 {g : kc_G} (hg : kc_ok g) : kd_hold g 10 kd_ty 239 kd_T239q6 := kd_mk (d0 := 6) (di := 3) hg kd_xk239 rfl rfl rfl rfl (kd_al_r kd_C239q6 ⟨kd_hold_le (kd_h248c4 hg) (by decide), kd_hold_le (kd_h240c4 hg) (by decide), trivial⟩) (by decide) (by decide +kernel) kd_e239q6 (kd_al_r kd_S239q6 trivial)
def kd_T239q7 : kd_Tc := ([(3, 259, 259), (0, 2147483648, 2147484647), (0, 2147483650, 2147483650), (0, 2147483649, 2147483649)], [], kd_P239)
def kd_C239q7 : List (Nat × kd_Tc) := [(248, kd_T248c5), (240, kd_T240c5)]
def kd_S239q7 : List kd_St := []
theorem kd_e239q7 : kd_run0 kd_ty kd_x239 5 (kd_call kd_ty kd_xt (kd_ctl kd_C239q7) 600 3) kd_T239q7 600 kd_S239q7 = true := by decide +kernel
theorem kd_h239q7 {g : kc_G} (hg : kc_ok g) : kd_hold g 10 kd_ty 239 kd_T239q7 := kd_mk (d0 := 6) (di := 3) hg kd_xk239 rfl rfl rfl rfl (kd_al_r kd_C239q7 ⟨kd_hold_le (kd_h248c5 hg) (by decide), kd_hold_le (kd_h240c5 hg) (by decide), trivial⟩) (by decide) (by decide +kernel) kd_e239q7 (kd_al_r kd_S239q7 trivial)
def kd_T239q8 : kd_Tc := ([(3, 259, 259), (0, 2147483648, 2147484647), (0, 2147483650, 2147483650), (0, 2147483650, 2147484647)], [], kd_P239)
def kd_C239q8 : List (Nat × kd_Tc) := []
def kd_S239q8 : List kd_St := []
theorem kd_e239q8 : kd_run0 kd_ty kd_x239 5 (kd_call kd_ty kd_xt (kd_ctl kd_C239q8) 600 3) kd_T239q8 600 kd_S239q8 = true := by decide +kernel
theorem kd_h239q8 {g : kc_G} (hg : kc_ok g) : kd_hold g 4 kd_ty 239 kd_T239q8 := kd_mk (d0 := 0) (di := 3) hg kd_xk239 rfl rfl rfl rfl (kd_al_r kd_C239q8 trivial) (by decide) (by decide +kernel) kd_e239q8 (kd_al_r kd_S239q8 trivial)
def kd_T239q9 : kd_Tc := ([(3, 259, 259), (0, 2147483648, 2147484647), (0, 2147483651, 2147484647), (0, 2147483648, 2147483648)], [], kd_P239)
def kd_C239q9 : List (Nat × kd_Tc) := []
def kd_S239q9 : List kd_St := []
theorem kd_e239q9 : kd_run0 kd_ty kd_x239 5 (kd_call kd_ty kd_xt (kd_ctl kd_C239q9) 600 3) kd_T239q9 600 kd_S239q9 = true := by decide +kernel
theorem kd_h239q9 {g : kc_G} (hg : kc_ok g) : kd_hold g 4 kd_ty 239 kd_T239q9 := kd_mk (d0 := 0) (di := 3) hg kd_xk239 rfl rfl rfl rfl (kd_al_r kd_C239q9 trivial) (by decide) (by decide +kernel) kd_e239q9 (kd_al_r kd_S239q9 trivial)
def kd_T239q10 : kd_Tc := ([(3, 259, 259), (0, 2147483648, 2147484647), (0, 2147483651, 2147484647), (0, 2147483649, 2147483649)], [], kd_P239)
def kd_C239q10 : List (Nat × kd_Tc) := []
def kd_S239q10 : List kd_St := []
theorem kd_e239q10 : kd_run0 kd_ty kd_x239 5 (kd_call kd_ty kd_xt (kd_ctl kd_C239q10) 600 3) kd_T239q10 600 kd_S239q10 = true := by decide +kernel
theorem kd_h239q10 {g : kc_G} (hg : kc_ok g) : kd_hold g 4 kd_ty 239 kd_T239q10 := kd_mk (d0 := 0) (di := 3) hg kd_xk239 rfl rfl rfl rfl (kd_al_r kd_C239q10 trivial) (by decide) (by decide +kernel) kd_e239q10 (kd_al_r kd_S239q10 trivial)
def kd_T239q11 : kd_Tc := ([(3, 259, 259), (0, 2147483648, 2147484647), (0, 2147483651, 2147484647), (0, 2147483650, 2147484647)], [], kd_P239)
def kd_C239q11 : List (Nat × kd_Tc) := []
def kd_S239q11 : List kd_St := []
theorem kd_e239q11 : kd_run0 kd_ty kd_x239 5 (kd_call kd_ty kd_xt (kd_ctl kd_C239q11) 600 3) kd_T239q11 600 kd_S239q11 = true := by decide +kernel
theorem kd_h239q11 {g : kc_G} (hg : kc_ok g) : kd_hold g 4 kd_ty 239 kd_T239q11 := kd_mk (d0 := 0) (di := 3) hg kd_xk239 rfl rfl rfl rfl (kd_al_r kd_C239q11 trivial) (by decide) (by decide +kernel) kd_e239q11 (kd_al_r kd_S239q11 trivial)
def kd_T239 : kd_Tc := ([(3, 259, 259), (0, 2147483648, 2147484647), (0, 2147483648, 2147484647), (0, 2147483648, 2147484647)], [], kd_P239)
theorem kd_h239 {g : kc_G} (hg : kc_ok g) : kd_hold g 10 kd_ty 239 kd_T239 := kd_hold_arg [(3, 259, 259), (0, 2147483648, 2147484647)] [(2147483648, 2147483648), (2147483649, 2147483649), (2147483650, 2147483650), (2147483651, 2147484647)] (by decide +kernel) (kd_al_r [(2147483648, 2147483648), (2147483649, 2147483649), (2147483650, 2147483650), (2147483651, 2147484647)] ⟨(kd_hold_arg [(3, 259, 259), (0, 2147483648, 2147484647), (0, 2147483648, 2147483648)] [(2147483648, 2147483648), (2147483649, 2147483649), (2147483650, 2147484647)] (by decide +kernel) (kd_al_r [(2147483648, 2147483648), (2147483649, 2147483649), (2147483650, 2147484647)] ⟨(kd_hold_le (kd_h239q0 hg) (by decide)), (kd_hold_le (kd_h239q1 hg) (by decide)), (kd_hold_le (kd_h239q2 hg) (by decide)), trivial⟩)), (kd_hold_arg [(3, 259, 259), (0, 2147483648, 2147484647), (0, 2147483649, 2147483649)] [(2147483648, 2147483648), (2147483649, 2147483649), (2147483650, 2147484647)] (by decide +kernel) (kd_al_r [(2147483648, 2147483648), (2147483649, 2147483649), (2147483650, 2147484647)] ⟨(kd_hold_le (kd_h239q3 hg) (by decide)), (kd_hold_le (kd_h239q4 hg) (by decide)), (kd_hold_le (kd_h239q5 hg) (by decide)), trivial⟩)), (kd_hold_arg [(3, 259, 259), (0, 2147483648, 2147484647), (0, 2147483650, 2147483650)] [(2147483648, 2147483648), (2147483649, 2147483649), (2147483650, 2147484647)] (by decide +kernel) (kd_al_r [(2147483648, 2147483648), (2147483649, 2147483649), (2147483650, 2147484647)] ⟨(kd_hold_le (kd_h239q6 hg) (by decide)), (kd_hold_le (kd_h239q7 hg) (by decide)), (kd_hold_le (kd_h239q8 hg) (by decide)), trivial⟩)), (kd_hold_arg [(3, 259, 259), (0, 2147483648, 2147484647), (0, 2147483651, 2147484647)] [(2147483648, 2147483648), (2147483649, 2147483649), (2147483650, 2147484647)] (by decide +kernel) (kd_al_r [(2147483648, 2147483648), (2147483649, 2147483649), (2147483650, 2147484647)] ⟨(kd_hold_le (kd_h239q9 hg) (by decide)), (kd_hold_le (kd_h239q10 hg) (by decide)), (kd_hold_le (kd_h239q11 hg) (by decide)), trivial⟩)), trivial⟩)
def kd_P249 : List kd_P := [(some (0, 2147483648, 2147483650), [], [(268, 268, 0, 5), (266, 266, 0, 9)])]
def kd_T249q0 : kd_Tc := ([(3, 259, 259), (0, 2147483648, 2147483648), (0, 2147483648, 2147483648)], [], kd_P249)
def kd_C249q0 : List (Nat × kd_Tc) := []
def kd_S249q0 : List kd_St := []
theorem kd_e249q0 : kd_run0 kd_ty kd_x249 3 (kd_call kd_ty kd_xt (kd_ctl kd_C249q0) 600 3) kd_T249q0 600 kd_S249q0 = true := by decide +kernel
theorem kd_h249q0 {g : kc_G} (hg : kc_ok g) : kd_hold g 4 kd_ty 249 kd_T249q0 := kd_mk (d0 := 0) (di := 3) hg kd_xk249 rfl rfl rfl rfl (kd_al_r kd_C249q0 trivial) (by decide) (by decide +kernel) kd_e249q0 (kd_al_r kd_S249q0 trivial)
def kd_T249q1 : kd_Tc := ([(3, 259, 259), (0, 2147483648, 2147483648), (0, 2147483649, 2147483649)], [], kd_P249)
def kd_C249q1 : List (Nat × kd_Tc) := []
def kd_S249q1 : List kd_St := []
theorem kd_e249q1 : kd_run0 kd_ty kd_x249 3 (kd_call kd_ty kd_xt (kd_ctl kd_C249q1) 600 3) kd_T249q1 600 kd_S249q1 = true := by decide +kernel
theorem kd_h249q1 {g : kc_G} (hg : kc_ok g) : kd_hold g 4 kd_ty 249 kd_T249q1 := kd_mk (d0 := 0) (di := 3) hg kd_xk249 rfl rfl rfl rfl (kd_al_r kd_C249q1 trivial) (by decide) (by decide +kernel) kd_e249q1 (kd_al_r kd_S249q1 trivial)
def kd_T249q2 : kd_Tc := ([(3, 259, 259), (0, 2147483648, 2147483648), (0, 2147483650, 2147484647)], [], kd_P249)
def kd_C249q2 : List (Nat × kd_Tc) := []
def kd_S249q2 : List kd_St := []
theorem kd_e249q2 : kd_run0 kd_ty kd_x249 3 (kd_call kd_ty kd_xt (kd_ctl kd_C249q2) 600 3) kd_T249q2 600 kd_S249q2 = true := by decide +kernel
theorem kd_h249q2 {g : kc_G} (hg : kc_ok g) : kd_hold g 4 kd_ty 249 kd_T249q2 := kd_mk (d0 := 0) (di := 3) hg kd_xk249 rfl rfl rfl rfl (kd_al_r kd_C249q2 trivial) (by decide) (by decide +kernel) kd_e249q2 (kd_al_r kd_S249q2 trivial)
def kd_T249q3 : kd_Tc := ([(3, 259, 259), (0, 2147483649, 2147483649), (0, 2147483648, 2147483648)], [], kd_P249)
def kd_C249q3 : List (Nat × kd_Tc) := []
def kd_S249q3 : List kd_St := []
theorem kd_e249q3 : kd_run0 kd_ty kd_x249 3 (kd_call kd_ty kd_xt (kd_ctl kd_C249q3) 600 3) kd_T249q3 600 kd_S249q3 = true := by decide +kernel
theorem kd_h249q3 {g : kc_G} (hg : kc_ok g) : kd_hold g 4 kd_ty 249 kd_T249q3 := kd_mk (d0 := 0) (di := 3) hg kd_xk249 rfl rfl rfl rfl (kd_al_r kd_C249q3 trivial) (by decide) (by decide +kernel) kd_e249q3 (kd_al_r kd_S249q3 trivial)
def kd_T249q4 : kd_Tc := ([(3, 259, 259), (0, 2147483649, 2147483649), (0, 2147483649, 2147483649)], [], kd_P249)
def kd_C249q4 : List (Nat × kd_Tc) := []
def kd_S249q4 : List kd_St := []
theorem kd_e249q4 : kd_run0 kd_ty kd_x249 3 (kd_call kd_ty kd_xt (kd_ctl kd_C249q4) 600 3) kd_T249q4 600 kd_S249q4 = true := by decide +kernel
theorem kd_h249q4 {g : kc_G} (hg : kc_ok g) : kd_hold g 4 kd_ty 249 kd_T249q4 := kd_mk (d0 := 0) (di := 3) hg kd_xk249 rfl rfl rfl rfl (kd_al_r kd_C249q4 trivial) (by decide) (by decide +kernel) kd_e249q4 (kd_al_r kd_S249q4 trivial)
def kd_T249q5 : kd_Tc := ([(3, 259, 259), (0, 2147483649, 2147483649), (0, 2147483650, 2147484647)], [], kd_P249)
def kd_C249q5 : List (Nat × kd_Tc) := []
def kd_S249q5 : List kd_St := []
theorem kd_e249q5 : kd_run0 kd_ty kd_x249 3 (kd_call kd_ty kd_xt (kd_ctl kd_C249q5) 600 3) kd_T249q5 600 kd_S249q5 = true := by decide +kernel
theorem kd_h249q5 {g : kc_G} (hg : kc_ok g) : kd_hold g 4 kd_ty 249 kd_T249q5 := kd_mk (d0 := 0) (di := 3) hg kd_xk249 rfl rfl rfl rfl (kd_al_r kd_C249q5 trivial) (by decide) (by decide +kernel) kd_e249q5 (kd_al_r kd_S249q5 trivial)
def kd_T249q6 : kd_Tc := ([(3, 259, 259), (0, 2147483650, 2147483650), (0, 2147483648, 2147483648)], [], kd_P249)
def kd_C249q6 : List (Nat × kd_Tc) := []
def kd_S249q6 : List kd_St := []
theorem kd_e249q6 : kd_run0 kd_ty kd_x249 3 (kd_call kd_ty kd_xt (kd_ctl kd_C249q6) 600 3) kd_T249q6 600 kd_S249q6 = true := by decide +kernel
theorem kd_h249q6 {g : kc_G} (hg : kc_ok g) : kd_hold g 4 kd_ty 249 kd_T249q6 := kd_mk (d0 := 0) (di := 3) hg kd_xk249 rfl rfl rfl rfl (kd_al_r kd_C249q6 trivial) (by decide) (by decide +kernel) kd_e249q6 (kd_al_r kd_S249q6 trivial)
def kd_T249q7 : kd_Tc := ([(3, 259, 259), (0, 2147483650, 2147483650), (0, 2147483649, 2147483649)], [], kd_P249)
def kd_C249q7 : List (Nat × kd_Tc) := []
def kd_S249q7 : List kd_St := []
theorem kd_e249q7 : kd_run0 kd_ty kd_x249 3 (kd_call kd_ty kd_xt (kd_ctl kd_C249q7) 600 3) kd_T249q7 600 kd_S249q7 = true := by decide +kernel
theorem kd_h249q7 {g : kc_G} (hg : kc_ok g) : kd_hold g 4 kd_ty 249 kd_T249q7 := kd_mk (d0 := 0) (di := 3) hg kd_xk249 rfl rfl rfl rfl (kd_al_r kd_C249q7 trivial) (by decide) (by decide +kernel) kd_e249q7 (kd_al_r kd_S249q7 trivial)
def kd_T249q8 : kd_Tc := ([(3, 259, 259), (0, 2147483650, 2147483650), (0, 2147483650, 2147484647)], [], kd_P249)
def kd_C249q8 : List (Nat × kd_Tc) := []
def kd_S249q8 : List kd_St := []
theorem kd_e249q8 : kd_run0 kd_ty kd_x249 3 (kd_call kd_ty kd_xt (kd_ctl kd_C249q8) 600 3) kd_T249q8 600 kd_S249q8 = true := by decide +kernel
theorem kd_h249q8 {g : kc_G} (hg : kc_ok g) : kd_hold g 4 kd_ty 249 kd_T249q8 := kd_mk (d0 := 0) (di := 3) hg kd_xk249 rfl rfl rfl rfl (kd_al_r kd_C249q8 trivial) (by decide) (by decide +kernel) kd_e249q8 (kd_al_r kd_S249q8 trivial)
def kd_T249q9 : kd_Tc := ([(3, 259, 259), (0, 2147483651, 2147484647), (0, 2147483648, 2147483648)], [], kd_P249)
def kd_C249q9 : List (Nat × kd_Tc) := []
def kd_S249q9 : List kd_St := []
theorem kd_e249q9 : kd_run0 kd_ty kd_x249 3 (kd_call kd_ty kd_xt (kd_ctl kd_C249q9) 600 3) kd_T249q9 600 kd_S249q9 = true := by decide +kernel
theorem kd_h249q9 {g : kc_G} (hg : kc_ok g) : kd_hold g 4 kd_ty 249 kd_T249q9 := kd_mk (d0 := 0) (di := 3) hg kd_xk249 rfl rfl rfl rfl (kd_al_r kd_C249q9 trivial) (by decide) (by decide +kernel) kd_e249q9 (kd_al_r kd_S249q9 trivial)
def kd_T249q10 : kd_Tc := ([(3, 259, 259), (0, 2147483651, 2147484647), (0, 2147483649, 2147483649)], [], kd_P249)
def kd_C249q10 : List (Nat × kd_Tc) := []
def kd_S249q10 : List kd_St := []
theorem kd_e249q10 : kd_run0 kd_ty kd_x249 3 (kd_call kd_ty kd_xt (kd_ctl kd_C249q10) 600 3) kd_T249q10 600 kd_S249q10 = true := by decide +kernel
theorem kd_h249q10 {g : kc_G} (hg : kc_ok g) : kd_hold g 4 kd_ty 249 kd_T249q10 := kd_mk (d0 := 0) (di := 3) hg kd_xk249 rfl rfl rfl rfl (kd_al_r kd_C249q10 trivial) (by decide) (by decide +kernel) kd_e249q10 (kd_al_r kd_S249q10 trivial)
def kd_T249q11 : kd_Tc := ([(3, 259, 259), (0, 2147483651, 2147484647), (0, 2147483650, 2147484647)], [], kd_P249)
def kd_C249q11 : List (Nat × kd_Tc) := []
def kd_S249q11 : List kd_St := []
theorem kd_e249q11 : kd_run0 kd_ty kd_x249 3 (kd_call kd_ty kd_xt (kd_ctl kd_C249q11) 600 3) kd_T249q11 600 kd_S249q11 = true := by decide +kernel
theorem kd_h249q11 {g : kc_G} (hg : kc_ok g) : kd_hold g 4 kd_ty 249 kd_T249q11 := kd_mk (d0 := 0) (di := 3) hg kd_xk249 rfl rfl rfl rfl (kd_al_r kd_C249q11 trivial) (by decide) (by decide +kernel) kd_e249q11 (kd_al_r kd_S249q11 trivial)
def kd_T249 : kd_Tc := ([(3, 259, 259), (0, 2147483648, 2147484647), (0, 2147483648, 2147484647)], [], kd_P249)
theorem kd_h249 {g : kc_G} (hg : kc_ok g) : kd_hold g 4 kd_ty 249 kd_T249 := kd_hold_arg [(3, 259, 259)] [(2147483648, 2147483648), (2147483649, 2147483649), (2147483650, 2147483650), (2147483651, 2147484647)] (by decide +kernel) (kd_al_r [(2147483648, 2147483648), (2147483649, 2147483649), (2147483650, 2147483650), (2147483651, 2147484647)] ⟨(kd_hold_arg [(3, 259, 259), (0, 2147483648, 2147483648)] [(2147483648, 2147483648), (2147483649, 2147483649), (2147483650, 2147484647)] (by decide +kernel) (kd_al_r [(2147483648, 2147483648), (2147483649, 2147483649), (2147483650, 2147484647)] ⟨(kd_hold_le (kd_h249q0 hg) (by decide)), (kd_hold_le (kd_h249q1 hg) (by decide)), (kd_hold_le (kd_h249q2 hg) (by decide)), trivial⟩)), (kd_hold_arg [(3, 259, 259), (0, 2147483649, 2147483649)] [(2147483648, 2147483648), (2147483649, 2147483649), (2147483650, 2147484647)] (by decide +kernel) (kd_al_r [(2147483648, 2147483648), (2147483649, 2147483649), (2147483650, 2147484647)] ⟨(kd_hold_le (kd_h249q3 hg) (by decide)), (kd_hold_le (kd_h249q4 hg) (by decide)), (kd_hold_le (kd_h249q5 hg) (by decide)), trivial⟩)), (kd_hold_arg [(3, 259, 259), (0, 2147483650, 2147483650)] [(2147483648, 2147483648), (2147483649, 2147483649), (2147483650, 2147484647)] (by decide +kernel) (kd_al_r [(2147483648, 2147483648), (2147483649, 2147483649), (2147483650, 2147484647)] ⟨(kd_hold_le (kd_h249q6 hg) (by decide)), (kd_hold_le (kd_h249q7 hg) (by decide)), (kd_hold_le (kd_h249q8 hg) (by decide)), trivial⟩)), (kd_hold_arg [(3, 259, 259), (0, 2147483651, 2147484647)] [(2147483648, 2147483648), (2147483649, 2147483649), (2147483650, 2147484647)] (by decide +kernel) (kd_al_r [(2147483648, 2147483648), (2147483649, 2147483649), (2147483650, 2147484647)] ⟨(kd_hold_le (kd_h249q9 hg) (by decide)), (kd_hold_le (kd_h249q10 hg) (by decide)), (kd_hold_le (kd_h249q11 hg) (by decide)), trivial⟩)), trivial⟩)
