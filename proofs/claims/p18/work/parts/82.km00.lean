/-! ===== contracts, km 0 ===== -/
def kd_P237k0 : List kd_P := [(some (0, 2147483648, 2147483747), [], [])]
def kd_T237k0q0 : kd_Tc := ([(3, 259, 259), (0, 2147483648, 2147483648), (0, 2147483648, 2147483648)], [], kd_P237k0)
def kd_C237k0q0 : List (Nat × kd_Tc) := []
def kd_S237k0q0 : List kd_St := []
theorem kd_e237k0q0 : kd_run0 kd_ty kd_x237 3 (kd_call kd_ty kd_xt (kd_ctl kd_C237k0q0) 600 0) kd_T237k0q0 600 kd_S237k0q0 = true := by decide +kernel
theorem kd_h237k0q0 {g : kc_G} (hg : kc_ok g) : kd_hold g 1 kd_ty 237 kd_T237k0q0 := kd_mk (d0 := 0) (di := 0) hg kd_xk237 rfl rfl rfl rfl (kd_al_r kd_C237k0q0 trivial) (by decide) (by decide +kernel) kd_e237k0q0 (kd_al_r kd_S237k0q0 trivial)
def kd_T237k0q1 : kd_Tc := ([(3, 259, 259), (0, 2147483649, 2147483649), (0, 2147483648, 2147483648)], [], kd_P237k0)
def kd_C237k0q1 : List (Nat × kd_Tc) := []
def kd_S237k0q1 : List kd_St := []
theorem kd_e237k0q1 : kd_run0 kd_ty kd_x237 3 (kd_call kd_ty kd_xt (kd_ctl kd_C237k0q1) 600 0) kd_T237k0q1 600 kd_S237k0q1 = true := by decide +kernel
theorem kd_h237k0q1 {g : kc_G} (hg : kc_ok g) : kd_hold g 1 kd_ty 237 kd_T237k0q1 := kd_mk (d0 := 0) (di := 0) hg kd_xk237 rfl rfl rfl rfl (kd_al_r kd_C237k0q1 trivial) (by decide) (by decide +kernel) kd_e237k0q1 (kd_al_r kd_S237k0q1 trivial)
def kd_T237k0q2 : kd_Tc := ([(3, 259, 259), (0, 2147483650, 2147483650), (0, 2147483648, 2147483648)], [], kd_P237k0)
def kd_C237k0q2 : List (Nat × kd_Tc) := []
def kd_S237k0q2 : List kd_St := []
theorem kd_e237k0q2 : kd_run0 kd_ty kd_x237 3 (kd_call kd_ty kd_xt (kd_ctl kd_C237k0q2) 600 0) kd_T237k0q2 600 kd_S237k0q2 = true := by decide +kernel
theorem kd_h237k0q2 {g : kc_G} (hg : kc_ok g) : kd_hold g 1 kd_ty 237 kd_T237k0q2 := kd_mk (d0 := 0) (di := 0) hg kd_xk237 rfl rfl rfl rfl (kd_al_r kd_C237k0q2 trivial) (by decide) (by decide +kernel) kd_e237k0q2 (kd_al_r kd_S237k0q2 trivial)
def kd_T237k0q3 : kd_Tc := ([(3, 259, 259), (0, 2147483651, 2147483651), (0, 2147483648, 2147483648)], [], kd_P237k0)
def kd_C237k0q3 : List (Nat × kd_Tc) := []
def kd_S237k0q3 : List kd_St := []
theorem kd_e237k0q3 : kd_run0 kd_ty kd_x237 3 (kd_call kd_ty kd_xt (kd_ctl kd_C237k0q3) 600 0) kd_T237k0q3 600 kd_S237k0q3 = true := by decide +kernel
theorem kd_h237k0q3 {g : kc_G} (hg : kc_ok g) : kd_hold g 1 kd_ty 237 kd_T237k0q3 := kd_mk (d0 := 0) (di := 0) hg kd_xk237 rfl rfl rfl rfl (kd_al_r kd_C237k0q3 trivial) (by decide) (by decide +kernel) kd_e237k0q3 (kd_al_r kd_S237k0q3 trivial)
def kd_T237k0q4 : kd_Tc := ([(3, 259, 259), (0, 2147483652, 2147483652), (0, 2147483648, 2147483648)], [], kd_P237k0)
def kd_C237k0q4 : List (Nat × kd_Tc) := []
def kd_S237k0q4 : List kd_St := []
theorem kd_e237k0q4 : kd_run0 kd_ty kd_x237 3 (kd_call kd_ty kd_xt (kd_ctl kd_C237k0q4) 600 0) kd_T237k0q4 600 kd_S237k0q4 = true := by decide +kernel
theorem kd_h237k0q4 {g : kc_G} (hg : kc_ok g) : kd_hold g 1 kd_ty 237 kd_T237k0q4 := kd_mk (d0 := 0) (di := 0) hg kd_xk237 rfl rfl rfl rfl (kd_al_r kd_C237k0q4 trivial) (by decide) (by decide +kernel) kd_e237k0q4 (kd_al_r kd_S237k0q4 trivial)
def kd_T237k0q5 : kd_Tc := ([(3, 259, 259), (0, 2147483653, 2147483653), (0, 2147483648, 2147483648)], [], kd_P237k0)
def kd_C237k0q5 : List (Nat × kd_Tc) := []
def kd_S237k0q5 : List kd_St := []
theorem kd_e237k0q5 : kd_run0 kd_ty kd_x237 3 (kd_call kd_ty kd_xt (kd_ctl kd_C237k0q5) 600 0) kd_T237k0q5 600 kd_S237k0q5 = true := by decide +kernel
theorem kd_h237k0q5 {g : kc_G} (hg : kc_ok g) : kd_hold g 1 kd_ty 237 kd_T237k0q5 := kd_mk (d0 := 0) (di := 0) hg kd_xk237 rfl rfl rfl rfl (kd_al_r kd_C237k0q5 trivial) (by decide) (by decide +kernel) kd_e237k0q5 (kd_al_r kd_S237k0q5 trivial)
def kd_T237k0q6 : kd_Tc := ([(3, 259, 259), (0, 2147483654, 2147483654), (0, 2147483648, 2147483648)], [], kd_P237k0)
def kd_C237k0q6 : List (Nat × kd_Tc) := []
def kd_S237k0q6 : List kd_St := []
theorem kd_e237k0q6 : kd_run0 kd_ty kd_x237 3 (kd_call kd_ty kd_xt (kd_ctl kd_C237k0q6) 600 0) kd_T237k0q6 600 kd_S237k0q6 = true := by decide +kernel
theorem kd_h237k0q6 {g : kc_G} (hg : kc_ok g) : kd_hold g 1 kd_ty 237 kd_T237k0q6 := kd_mk (d0 := 0) (di := 0) hg kd_xk237 rfl rfl rfl rfl (kd_al_r kd_C237k0q6 trivial) (by decide) (by decide +kernel) kd_e237k0q6 (kd_al_r kd_S237k0q6 trivial)
def kd_T237k0q7 : kd_Tc := ([(3, 259, 259), (0, 2147483655, 2147483655), (0, 2147483648, 2147483648)], [], kd_P237k0)
def kd_C237k0q7 : List (Nat × kd_Tc) := []
def kd_S237k0q7 : List kd_St := []
theorem kd_e237k0q7 : kd_run0 kd_ty kd_x237 3 (kd_call kd_ty kd_xt (kd_ctl kd_C237k0q7) 600 0) kd_T237k0q7 600 kd_S237k0q7 = true := by decide +kernel
theorem kd_h237k0q7 {g : kc_G} (hg : kc_ok g) : kd_hold g 1 kd_ty 237 kd_T237k0q7 := kd_mk (d0 := 0) (di := 0) hg kd_xk237 rfl rfl rfl rfl (kd_al_r kd_C237k0q7 trivial) (by decide) (by decide +kernel) kd_e237k0q7 (kd_al_r kd_S237k0q7 trivial)
def kd_T237k0q8 : kd_Tc := ([(3, 259, 259), (0, 2147483656, 2147483656), (0, 2147483648, 2147483648)], [], kd_P237k0)
def kd_C237k0q8 : List (Nat × kd_Tc) := []
def kd_S237k0q8 : List kd_St := []
theorem kd_e237k0q8 : kd_run0 kd_ty kd_x237 3 (kd_call kd_ty kd_xt (kd_ctl kd_C237k0q8) 600 0) kd_T237k0q8 600 kd_S237k0q8 = true := by decide +kernel
theorem kd_h237k0q8 {g : kc_G} (hg : kc_ok g) : kd_hold g 1 kd_ty 237 kd_T237k0q8 := kd_mk (d0 := 0) (di := 0) hg kd_xk237 rfl rfl rfl rfl (kd_al_r kd_C237k0q8 trivial) (by decide) (by decide +kernel) kd_e237k0q8 (kd_al_r kd_S237k0q8 trivial)
def kd_T237k0q9 : kd_Tc := ([(3, 259, 259), (0, 2147483657, 2147483657), (0, 2147483648, 2147483648)], [], kd_P237k0)
def kd_C237k0q9 : List (Nat × kd_Tc) := []
def kd_S237k0q9 : List kd_St := []
theorem kd_e237k0q9 : kd_run0 kd_ty kd_x237 3 (kd_call kd_ty kd_xt (kd_ctl kd_C237k0q9) 600 0) kd_T237k0q9 600 kd_S237k0q9 = true := by decide +kernel
theorem kd_h237k0q9 {g : kc_G} (hg : kc_ok g) : kd_hold g 1 kd_ty 237 kd_T237k0q9 := kd_mk (d0 := 0) (di := 0) hg kd_xk237 rfl rfl rfl rfl (kd_al_r kd_C237k0q9 trivial) (by decide) (by decide +kernel) kd_e237k0q9 (kd_al_r kd_S237k0q9 trivial)
def kd_T237k0 : kd_Tc := ([(3, 259, 259), (0, 2147483648, 2147483657), (0, 2147483648, 2147483648)], [], kd_P237k0)
theorem kd_h237k0 {g : kc_G} (hg : kc_ok g) : kd_hold g 1 kd_ty 237 kd_T237k0 := kd_hold_arg [(3, 259, 259)] [(2147483648, 2147483648), (2147483649, 2147483649), (2147483650, 2147483650), (2147483651, 2147483651), (2147483652, 2147483652), (2147483653, 2147483653), (2147483654, 2147483654), (2147483655, 2147483655), (2147483656, 2147483656), (2147483657, 2147483657)] (by decide +kernel) (kd_al_r [(2147483648, 2147483648), (2147483649, 2147483649), (2147483650, 2147483650), (2147483651, 2147483651), (2147483652, 2147483652), (2147483653, 2147483653), (2147483654, 2147483654), (2147483655, 2147483655), (2147483656, 2147483656), (2147483657, 2147483657)] ⟨(kd_hold_le (kd_h237k0q0 hg) (by decide)), (kd_hold_le (kd_h237k0q1 hg) (by decide)), (kd_hold_le (kd_h237k0q2 hg) (by decide)), (kd_hold_le (kd_h237k0q3 hg) (by decide)), (kd_hold_le (kd_h237k0q4 hg) (by decide)), (kd_hold_le (kd_h237k0q5 hg) (by decide)), (kd_hold_le (kd_h237k0q6 hg) (by decide)), (kd_hold_le (kd_h237k0q7 hg) (by decide)), (kd_hold_le (kd_h237k0q8 hg) (by decide)), (kd_hold_le (kd_h237k0q9 hg) (by decide)), trivial⟩)
def kd_P237k1 : List kd_P := [(some (0, 2147483648, 2147483649), [], [])]
def kd_T237k1q0 : kd_Tc := ([(3, 259, 259), (0, 2147483648, 2147483648), (0, 2147483649, 2147483649)], [], kd_P237k1)
def kd_C237k1q0 : List (Nat × kd_Tc) := []
def kd_S237k1q0 : List kd_St := []
theorem kd_e237k1q0 : kd_run0 kd_ty kd_x237 3 (kd_call kd_ty kd_xt (kd_ctl kd_C237k1q0) 600 0) kd_T237k1q0 600 kd_S237k1q0 = true := by decide +kernel
theorem kd_h237k1q0 {g : kc_G} (hg : kc_ok g) : kd_hold g 1 kd_ty 237 kd_T237k1q0 := kd_mk (d0 := 0) (di := 0) hg kd_xk237 rfl rfl rfl rfl (kd_al_r kd_C237k1q0 trivial) (by decide) (by decide +kernel) kd_e237k1q0 (kd_al_r kd_S237k1q0 trivial)
def kd_T237k1q1 : kd_Tc := ([(3, 259, 259), (0, 2147483649, 2147483649), (0, 2147483649, 2147483649)], [], kd_P237k1)
def kd_C237k1q1 : List (Nat × kd_Tc) := []
def kd_S237k1q1 : List kd_St := []
theorem kd_e237k1q1 : kd_run0 kd_ty kd_x237 3 (kd_call kd_ty kd_xt (kd_ctl kd_C237k1q1) 600 0) kd_T237k1q1 600 kd_S237k1q1 = true := by decide +kernel
theorem kd_h237k1q1 {g : kc_G} (hg : kc_ok g) : kd_hold g 1 kd_ty 237 kd_T237k1q1 := kd_mk (d0 := 0) (di := 0) hg kd_xk237 rfl rfl rfl rfl (kd_al_r kd_C237k1q1 trivial) (by decide) (by decide +kernel) kd_e237k1q1 (kd_al_r kd_S237k1q1 trivial)
def kd_T237k1q2 : kd_Tc := ([(3, 259, 259), (0, 2147483650, 2147483650), (0, 2147483649, 2147483649)], [], kd_P237k1)
def kd_C237k1q2 : List (Nat × kd_Tc) := []
def kd_S237k1q2 : List kd_St := []
theorem kd_e237k1q2 : kd_run0 kd_ty kd_x237 3 (kd_call kd_ty kd_xt (kd_ctl kd_C237k1q2) 600 0) kd_T237k1q2 600 kd_S237k1q2 = true := by decide +kernel
theorem kd_h237k1q2 {g : kc_G} (hg : kc_ok g) : kd_hold g 1 kd_ty 237 kd_T237k1q2 := kd_mk (d0 := 0) (di := 0) hg kd_xk237 rfl rfl rfl rfl (kd_al_r kd_C237k1q2 trivial) (by decide) (by decide +kernel) kd_e237k1q2 (kd_al_r kd_S237k1q2 trivial)
def kd_T237k1q3 : kd_Tc := ([(3, 259, 259), (0, 2147483651, 2147483651), (0, 2147483649, 2147483649)], [], kd_P237k1)
def kd_C237k1q3 : List (Nat × kd_Tc) := []
def kd_S237k1q3 : List kd_St := []
theorem kd_e237k1q3 : kd_run0 kd_ty kd_x237 3 (kd_call kd_ty kd_xt (kd_ctl kd_C237k1q3) 600 0) kd_T237k1q3 600 kd_S237k1q3 = true := by decide +kernel
theorem kd_h237k1q3 {g : kc_G} (hg : kc_ok g) : kd_hold g 1 kd_ty 237 kd_T237k1q3 := kd_mk (d0 := 0) (di := 0) hg kd_xk237 rfl rfl rfl rfl (kd_al_r kd_C237k1q3 trivial) (by decide) (by decide +kernel) kd_e237k1q3 (kd_al_r kd_S237k1q3 trivial)
def kd_T237k1q4 : kd_Tc := ([(3, 259, 259), (0, 2147483652, 2147483652), (0, 2147483649, 2147483649)], [], kd_P237k1)
def kd_C237k1q4 : List (Nat × kd_Tc) := []
def kd_S237k1q4 : List kd_St := []
theorem kd_e237k1q4 : kd_run0 kd_ty kd_x237 3 (kd_call kd_ty kd_xt (kd_ctl kd_C237k1q4) 600 0) kd_T237k1q4 600 kd_S237k1q4 = true := by decide +kernel
theorem kd_h237k1q4 {g : kc_G} (hg : kc_ok g) : kd_hold g 1 kd_ty 237 kd_T237k1q4 := kd_mk (d0 := 0) (di := 0) hg kd_xk237 rfl rfl rfl rfl (kd_al_r kd_C237k1q4 trivial) (by decide) (by decide +kernel) kd_e237k1q4 (kd_al_r kd_S237k1q4 trivial)
def kd_T237k1q5 : kd_Tc := ([(3, 259, 259), (0, 2147483653, 2147483653), (0, 2147483649, 2147483649)], [], kd_P237k1)
def kd_C237k1q5 : List (Nat × kd_Tc) := []
def kd_S237k1q5 : List kd_St := []
theorem kd_e237k1q5 : kd_run0 kd_ty kd_x237 3 (kd_call kd_ty kd_xt (kd_ctl kd_C237k1q5) 600 0) kd_T237k1q5 600 kd_S237k1q5 = true := by decide +kernel
theorem kd_h237k1q5 {g : kc_G} (hg : kc_ok g) : kd_hold g 1 kd_ty 237 kd_T237k1q5 := kd_mk (d0 := 0) (di := 0) hg kd_xk237 rfl rfl rfl rfl (kd_al_r kd_C237k1q5 trivial) (by decide) (by decide +kernel) kd_e237k1q5 (kd_al_r kd_S237k1q5 trivial)
def kd_T237k1q6 : kd_Tc := ([(3, 259, 259), (0, 2147483654, 2147483654), (0, 2147483649, 2147483649)], [], kd_P237k1)
def kd_C237k1q6 : List (Nat × kd_Tc) := []
def kd_S237k1q6 : List kd_St := []
theorem kd_e237k1q6 : kd_run0 kd_ty kd_x237 3 (kd_call kd_ty kd_xt (kd_ctl kd_C237k1q6) 600 0) kd_T237k1q6 600 kd_S237k1q6 = true := by decide +kernel
theorem kd_h237k1q6 {g : kc_G} (hg : kc_ok g) : kd_hold g 1 kd_ty 237 kd_T237k1q6 := kd_mk (d0 := 0) (di := 0) hg kd_xk237 rfl rfl rfl rfl (kd_al_r kd_C237k1q6 trivial) (by decide) (by decide +kernel) kd_e237k1q6 (kd_al_r kd_S237k1q6 trivial)
def kd_T237k1q7 : kd_Tc := ([(3, 259, 259), (0, 2147483655, 2147483655), (0, 2147483649, 2147483649)], [], kd_P237k1)
def kd_C237k1q7 : List (Nat × kd_Tc) := []
def kd_S237k1q7 : List kd_St := []
theorem kd_e237k1q7 : kd_run0 kd_ty kd_x237 3 (kd_call kd_ty kd_xt (kd_ctl kd_C237k1q7) 600 0) kd_T237k1q7 600 kd_S237k1q7 = true := by decide +kernel
theorem kd_h237k1q7 {g : kc_G} (hg : kc_ok g) : kd_hold g 1 kd_ty 237 kd_T237k1q7 := kd_mk (d0 := 0) (di := 0) hg kd_xk237 rfl rfl rfl rfl (kd_al_r kd_C237k1q7 trivial) (by decide) (by decide +kernel) kd_e237k1q7 (kd_al_r kd_S237k1q7 trivial)
def kd_T237k1q8 : kd_Tc := ([(3, 259, 259), (0, 2147483656, 2147483656), (0, 2147483649, 2147483649)], [], kd_P237k1)
def kd_C237k1q8 : List (Nat × kd_Tc) := []
def kd_S237k1q8 : List kd_St := []
theorem kd_e237k1q8 : kd_run0 kd_ty kd_x237 3 (kd_call kd_ty kd_xt (kd_ctl kd_C237k1q8) 600 0) kd_T237k1q8 600 kd_S237k1q8 = true := by decide +kernel
theorem kd_h237k1q8 {g : kc_G} (hg : kc_ok g) : kd_hold g 1 kd_ty 237 kd_T237k1q8 := kd_mk (d0 := 0) (di := 0) hg kd_xk237 rfl rfl rfl rfl (kd_al_r kd_C237k1q8 trivial) (by decide) (by decide +kernel) kd_e237k1q8 (kd_al_r kd_S237k1q8 trivial)
def kd_T237k1q9 : kd_Tc := ([(3, 259, 259), (0, 2147483657, 2147483657), (0, 2147483649, 2147483649)], [], kd_P237k1)
def kd_C237k1q9 : List (Nat × kd_Tc) := []
def kd_S237k1q9 : List kd_St := []
theorem kd_e237k1q9 : kd_run0 kd_ty kd_x237 3 (kd_call kd_ty kd_xt (kd_ctl kd_C237k1q9) 600 0) kd_T237k1q9 600 kd_S237k1q9 = true := by decide +kernel
theorem kd_h237k1q9 {g : kc_G} (hg : kc_ok g) : kd_hold g 1 kd_ty 237 kd_T237k1q9 := kd_mk (d0 := 0) (di := 0) hg kd_xk237 rfl rfl rfl rfl (kd_al_r kd_C237k1q9 trivial) (by decide) (by decide +kernel) kd_e237k1q9 (kd_al_r kd_S237k1q9 trivial)
def kd_T237k1 : kd_Tc := ([(3, 259, 259), (0, 2147483648, 2147483657), (0, 2147483649, 2147483649)], [], kd_P237k1)
theorem kd_h237k1 {g : kc_G} (hg : kc_ok g) : kd_hold g 1 kd_ty 237 kd_T237k1 := kd_hold_arg [(3, 259, 259)] [(2147483648, 2147483648), (2147483649, 2147483649), (2147483650, 2147483650), (2147483651, 2147483651), (2147483652, 2147483652), (2147483653, 2147483653), (2147483654, 2147483654), (2147483655, 2147483655), (2147483656, 2147483656), (2147483657, 2147483657)] (by decide +kernel) (kd_al_r [(2147483648, 2147483648), (2147483649, 2147483649), (2147483650, 2147483650), (2147483651, 2147483651), (2147483652, 2147483652), (2147483653, 2147483653), (2147483654, 2147483654), (2147483655, 2147483655), (2147483656, 2147483656), (2147483657, 2147483657)] ⟨(kd_hold_le (kd_h237k1q0 hg) (by decide)), (kd_hold_le (kd_h237k1q1 hg) (by decide)), (kd_hold_le (kd_h237k1q2 hg) (by decide)), (kd_hold_le (kd_h237k1q3 hg) (by decide)), (kd_hold_le (kd_h237k1q4 hg) (by decide)), (kd_hold_le (kd_h237k1q5 hg) (by decide)), (kd_hold_le (kd_h237k1q6 hg) (by decide)), (kd_hold_le (kd_h237k1q7 hg) (by decide)), (kd_hold_le (kd_h237k1q8 hg) (by decide)), (kd_hold_le (kd_h237k1q9 hg) (by decide)), trivial⟩)
def kd_P237k2 : List kd_P := [(some (0, 2147483648, 2147483653), [], [])]
def kd_T237k2q0 : kd_Tc := ([(3, 259, 259), (0, 2147483648, 2147483648), (0, 2147483650, 2147483650)], [], kd_P237k2)
def kd_C237k2q0 : List (Nat × kd_Tc) := []
def kd_S237k2q0 : List kd_St := []
theorem kd_e237k2q0 : kd_run0 kd_ty kd_x237 3 (kd_call kd_ty kd_xt (kd_ctl kd_C237k2q0) 600 0) kd_T237k2q0 600 kd_S237k2q0 = true := by decide +kernel
theorem kd_h237k2q0 {g : kc_G} (hg : kc_ok g) : kd_hold g 1 kd_ty 237 kd_T237k2q0 := kd_mk (d0 := 0) (di := 0) hg kd_xk237 rfl rfl rfl rfl (kd_al_r kd_C237k2q0 trivial) (by decide) (by decide +kernel) kd_e237k2q0 (kd_al_r kd_S237k2q0 trivial)
def kd_T237k2q1 : kd_Tc := ([(3, 259, 259), (0, 2147483649, 2147483649), (0, 2147483650, 2147483650)], [], kd_P237k2)
def kd_C237k2q1 : List (Nat × kd_Tc) := []
def kd_S237k2q1 : List kd_St := []
theorem kd_e237k2q1 : kd_run0 kd_ty kd_x237 3 (kd_call kd_ty kd_xt (kd_ctl kd_C237k2q1) 600 0) kd_T237k2q1 600 kd_S237k2q1 = true := by decide +kernel
theorem kd_h237k2q1 {g : kc_G} (hg : kc_ok g) : kd_hold g 1 kd_ty 237 kd_T237k2q1 := kd_mk (d0 := 0) (di := 0) hg kd_xk237 rfl rfl rfl rfl (kd_al_r kd_C237k2q1 trivial) (by decide) (by decide +kernel) kd_e237k2q1 (kd_al_r kd_S237k2q1 trivial)
def kd_T237k2q2 : kd_Tc := ([(3, 259, 259), (0, 2147483650, 2147483650), (0, 2147483650, 2147483650)], [], kd_P237k2)
def kd_C237k2q2 : List (Nat × kd_Tc) := []
def kd_S237k2q2 : List kd_St := []
theorem kd_e237k2q2 : kd_run0 kd_ty kd_x237 3 (kd_call kd_ty kd_xt (kd_ctl kd_C237k2q2) 600 0) kd_T237k2q2 600 kd_S237k2q2 = true := by decide +kernel
theorem kd_h237k2q2 {g : kc_G} (hg : kc_ok g) : kd_hold g 1 kd_ty 237 kd_T237k2q2 := kd_mk (d0 := 0) (di := 0) hg kd_xk237 rfl rfl rfl rfl (kd_al_r kd_C237k2q2 trivial) (by decide) (by decide +kernel) kd_e237k2q2 (kd_al_r kd_S237k2q2 trivial)
def kd_T237k2q3 : kd_Tc := ([(3, 259, 259), (0, 2147483651, 2147483651), (0, 2147483650, 2147483650)], [], kd_P237k2)
def kd_C237k2q3 : List (Nat × kd_Tc) := []
def kd_S237k2q3 : List kd_St := []
theorem kd_e237k2q3 : kd_run0 kd_ty kd_x237 3 (kd_call kd_ty kd_xt (kd_ctl kd_C237k2q3) 600 0) kd_T237k2q3 600 kd_S237k2q3 = true := by decide +kernel
theorem kd_h237k2q3 {g : kc_G} (hg : kc_ok g) : kd_hold g 1 kd_ty 237 kd_T237k2q3 := kd_mk (d0 := 0) (di := 0) hg kd_xk237 rfl rfl rfl rfl (kd_al_r kd_C237k2q3 trivial) (by decide) (by decide +kernel) kd_e237k2q3 (kd_al_r kd_S237k2q3 trivial)
def kd_T237k2q4 : kd_Tc := ([(3, 259, 259), (0, 2147483652, 2147483652), (0, 2147483650, 2147483650)], [], kd_P237k2)
def kd_C237k2q4 : List (Nat × kd_Tc) := []
def kd_S237k2q4 : List kd_St := []
theorem kd_e237k2q4 : kd_run0 kd_ty kd_x237 3 (kd_call kd_ty kd_xt (kd_ctl kd_C237k2q4) 600 0) kd_T237k2q4 600 kd_S237k2q4 = true := by decide +kernel
theorem kd_h237k2q4 {g : kc_G} (hg : kc_ok g) : kd_hold g 1 kd_ty 237 kd_T237k2q4 := kd_mk (d0 := 0) (di := 0) hg kd_xk237 rfl rfl rfl rfl (kd_al_r kd_C237k2q4 trivial) (by decide) (by decide +kernel) kd_e237k2q4 (kd_al_r kd_S237k2q4 trivial)
def kd_T237k2q5 : kd_Tc := ([(3, 259, 259), (0, 2147483653, 2147483653), (0, 2147483650, 2147483650)], [], kd_P237k2)
def kd_C237k2q5 : List (Nat × kd_Tc) := []
def kd_S237k2q5 : List kd_St := []
theorem kd_e237k2q5 : kd_run0 kd_ty kd_x237 3 (kd_call kd_ty kd_xt (kd_ctl kd_C237k2q5) 600 0) kd_T237k2q5 600 kd_S237k2q5 = true := by decide +kernel
theorem kd_h237k2q5 {g : kc_G} (hg : kc_ok g) : kd_hold g 1 kd_ty 237 kd_T237k2q5 := kd_mk (d0 := 0) (di := 0) hg kd_xk237 rfl rfl rfl rfl (kd_al_r kd_C237k2q5 trivial) (by decide) (by decide +kernel) kd_e237k2q5 (kd_al_r kd_S237k2q5 trivial)
def kd_T237k2q6 : kd_Tc := ([(3, 259, 259), (0, 2147483654, 2147483654), (0, 2147483650, 2147483650)], [], kd_P237k2)
def kd_C237k2q6 : List (Nat × kd_Tc) := []
def kd_S237k2q6 : List kd_St := []
theorem kd_e237k2q6 : kd_run0 kd_ty kd_x237 3 (kd_call kd_ty kd_xt (kd_ctl kd_C237k2q6) 600 0) kd_T237k2q6 600 kd_S237k2q6 = true := by decide +kernel
theorem kd_h237k2q6 {g : kc_G} (hg : kc_ok g) : kd_hold g 1 kd_ty 237 kd_T237k2q6 := kd_mk (d0 := 0) (di := 0) hg kd_xk237 rfl rfl rfl rfl (kd_al_r kd_C237k2q6 trivial) (by decide) (by decide +kernel) kd_e237k2q6 (kd_al_r kd_S237k2q6 trivial)
def kd_T237k2q7 : kd_Tc := ([(3, 259, 259), (0, 2147483655, 2147483655), (0, 2147483650, 2147483650)], [], kd_P237k2)
def kd_C237k2q7 : List (Nat × kd_Tc) := []
def kd_S237k2q7 : List kd_St := []
theorem kd_e237k2q7 : kd_run0 kd_ty kd_x237 3 (kd_call kd_ty kd_xt (kd_ctl kd_C237k2q7) 600 0) kd_T237k2q7 600 kd_S237k2q7 = true := by decide +kernel
theorem kd_h237k2q7 {g : kc_G} (hg : kc_ok g) : kd_hold g 1 kd_ty 237 kd_T237k2q7 := kd_mk (d0 := 0) (di := 0) hg kd_xk237 rfl rfl rfl rfl (kd_al_r kd_C237k2q7 trivial) (by decide) (by decide +kernel) kd_e237k2q7 (kd_al_r kd_S237k2q7 trivial)
def kd_T237k2q8 : kd_Tc := ([(3, 259, 259), (0, 2147483656, 2147483656), (0, 2147483650, 2147483650)], [], kd_P237k2)
def kd_C237k2q8 : List (Nat × kd_Tc) := []
def kd_S237k2q8 : List kd_St := []
theorem kd_e237k2q8 : kd_run0 kd_ty kd_x237 3 (kd_call kd_ty kd_xt (kd_ctl kd_C237k2q8) 600 0) kd_T237k2q8 600 kd_S237k2q8 = true := by decide +kernel
theorem kd_h237k2q8 {g : kc_G} (hg : kc_ok g) : kd_hold g 1 kd_ty 237 kd_T237k2q8 := kd_mk (d0 := 0) (di := 0) hg kd_xk237 rfl rfl rfl rfl (kd_al_r kd_C237k2q8 trivial) (by decide) (by decide +kernel) kd_e237k2q8 (kd_al_r kd_S237k2q8 trivial)
def kd_T237k2q9 : kd_Tc := ([(3, 259, 259), (0, 2147483657, 2147483657), (0, 2147483650, 2147483650)], [], kd_P237k2)
def kd_C237k2q9 : List (Nat × kd_Tc) := []
def kd_S237k2q9 : List kd_St := []
theorem kd_e237k2q9 : kd_run0 kd_ty kd_x237 3 (kd_call kd_ty kd_xt (kd_ctl kd_C237k2q9) 600 0) kd_T237k2q9 600 kd_S237k2q9 = true := by decide +kernel
theorem kd_h237k2q9 {g : kc_G} (hg : kc_ok g) : kd_hold g 1 kd_ty 237 kd_T237k2q9 := kd_mk (d0 := 0) (di := 0) hg kd_xk237 rfl rfl rfl rfl (kd_al_r kd_C237k2q9 trivial) (by decide) (by decide +kernel) kd_e237k2q9 (kd_al_r kd_S237k2q9 trivial)
def kd_T237k2 : kd_Tc := ([(3, 259, 259), (0, 2147483648, 2147483657), (0, 2147483650, 2147483650)], [], kd_P237k2)
theorem kd_h237k2 {g : kc_G} (hg : kc_ok g) : kd_hold g 1 kd_ty 237 kd_T237k2 := kd_hold_arg [(3, 259, 259)] [(2147483648, 2147483648), (2147483649, 2147483649), (2147483650, 2147483650), (2147483651, 2147483651), (2147483652, 2147483652), (2147483653, 2147483653), (2147483654, 2147483654), (2147483655, 2147483655), (2147483656, 2147483656), (2147483657, 2147483657)] (by decide +kernel) (kd_al_r [(2147483648, 2147483648), (2147483649, 2147483649), (2147483650, 2147483650), (2147483651, 2147483651), (2147483652, 2147483652), (2147483653, 2147483653), (2147483654, 2147483654), (2147483655, 2147483655), (2147483656, 2147483656), (2147483657, 2147483657)] ⟨(kd_hold_le (kd_h237k2q0 hg) (by decide)), (kd_hold_le (kd_h237k2q1 hg) (by decide)), (kd_hold_le (kd_h237k2q2 hg) (by decide)), (kd_hold_le (kd_h237k2q3 hg) (by decide)), (kd_hold_le (kd_h237k2q4 hg) (by decide)), (kd_hold_le (kd_h237k2q5 hg) (by decide)), (kd_hold_le (kd_h237k2q6 hg) (by decide)), (kd_hold_le (kd_h237k2q7 hg) (by decide)), (kd_hold_le (kd_h237k2q8 hg) (by decide)), (kd_hold_le (kd_h237k2q9 hg) (by decide)), trivial⟩)
def kd_P237k3 : List kd_P := [(some (0, 2147483648, 2147483653), [], [])]
def kd_T237k3q0 : kd_Tc := ([(3, 259, 259), (0, 2147483648, 2147483648), (0, 2147483651, 2147483651)], [], kd_P237k3)
def kd_C237k3q0 : List (Nat × kd_Tc) := []
def kd_S237k3q0 : List kd_St := []
theorem kd_e237k3q0 : kd_run0 kd_ty kd_x237 3 (kd_call kd_ty kd_xt (kd_ctl kd_C237k3q0) 600 0) kd_T237k3q0 600 kd_S237k3q0 = true := by decide +kernel
theorem kd_h237k3q0 {g : kc_G} (hg : kc_ok g) : kd_hold g 1 kd_ty 237 kd_T237k3q0 := kd_mk (d0 := 0) (di := 0) hg kd_xk237 rfl rfl rfl rfl (kd_al_r kd_C237k3q0 trivial) (by decide) (by decide +kernel) kd_e237k3q0 (kd_al_r kd_S237k3q0 trivial)
def kd_T237k3q1 : kd_Tc := ([(3, 259, 259), (0, 2147483649, 2147483649), (0, 2147483651, 2147483651)], [], kd_P237k3)
def kd_C237k3q1 : List (Nat × kd_Tc) := []
def kd_S237k3q1 : List kd_St := []
theorem kd_e237k3q1 : kd_run0 kd_ty kd_x237 3 (kd_call kd_ty kd_xt (kd_ctl kd_C237k3q1) 600 0) kd_T237k3q1 600 kd_S237k3q1 = true := by decide +kernel
theorem kd_h237k3q1 {g : kc_G} (hg : kc_ok g) : kd_hold g 1 kd_ty 237 kd_T237k3q1 := kd_mk (d0 := 0) (di := 0) hg kd_xk237 rfl rfl rfl rfl (kd_al_r kd_C237k3q1 trivial) (by decide) (by decide +kernel) kd_e237k3q1 (kd_al_r kd_S237k3q1 trivial)
def kd_T237k3q2 : kd_Tc := ([(3, 259, 259), (0, 2147483650, 2147483650), (0, 2147483651, 2147483651)], [], kd_P237k3)
def kd_C237k3q2 : List (Nat × kd_Tc) := []
def kd_S237k3q2 : List kd_St := []
theorem kd_e237k3q2 : kd_run0 kd_ty kd_x237 3 (kd_call kd_ty kd_xt (kd_ctl kd_C237k3q2) 600 0) kd_T237k3q2 600 kd_S237k3q2 = true := by decide +kernel
theorem kd_h237k3q2 {g : kc_G} (hg : kc_ok g) : kd_hold g 1 kd_ty 237 kd_T237k3q2 := kd_mk (d0 := 0) (di := 0) hg kd_xk237 rfl rfl rfl rfl (kd_al_r kd_C237k3q2 trivial) (by decide) (by decide +kernel) kd_e237k3q2 (kd_al_r kd_S237k3q2 trivial)
def kd_T237k3q3 : kd_Tc := ([(3, 259, 259), (0, 2147483651, 2147483651), (0, 2147483651, 2147483651)], [], kd_P237k3)
def kd_C237k3q3 : List (Nat × kd_Tc) := []
def kd_S237k3q3 : List kd_St := []
theorem kd_e237k3q3 : kd_run0 kd_ty kd_x237 3 (kd_call kd_ty kd_xt (kd_ctl kd_C237k3q3) 600 0) kd_T237k3q3 600 kd_S237k3q3 = true := by decide +kernel
theorem kd_h237k3q3 {g : kc_G} (hg : kc_ok g) : kd_hold g 1 kd_ty 237 kd_T237k3q3 := kd_mk (d0 := 0) (di := 0) hg kd_xk237 rfl rfl rfl rfl (kd_al_r kd_C237k3q3 trivial) (by decide) (by decide +kernel) kd_e237k3q3 (kd_al_r kd_S237k3q3 trivial)
def kd_T237k3q4 : kd_Tc := ([(3, 259, 259), (0, 2147483652, 2147483652), (0, 2147483651, 2147483651)], [], kd_P237k3)
def kd_C237k3q4 : List (Nat × kd_Tc) := []
def kd_S237k3q4 : List kd_St := []
theorem kd_e237k3q4 : kd_run0 kd_ty kd_x237 3 (kd_call kd_ty kd_xt (kd_ctl kd_C237k3q4) 600 0) kd_T237k3q4 600 kd_S237k3q4 = true := by decide +kernel
theorem kd_h237k3q4 {g : kc_G} (hg : kc_ok g) : kd_hold g 1 kd_ty 237 kd_T237k3q4 := kd_mk (d0 := 0) (di := 0) hg kd_xk237 rfl rfl rfl rfl (kd_al_r kd_C237k3q4 trivial) (by decide) (by decide +kernel) kd_e237k3q4 (kd_al_r kd_S237k3q4 trivial)
def kd_T237k3q5 : kd_Tc := ([(3, 259, 259), (0, 2147483653, 2147483653), (0, 2147483651, 2147483651)], [], kd_P237k3)
def kd_C237k3q5 : List (Nat × kd_Tc) := []
def kd_S237k3q5 : List kd_St := []
theorem kd_e237k3q5 : kd_run0 kd_ty kd_x237 3 (kd_call kd_ty kd_xt (kd_ctl kd_C237k3q5) 600 0) kd_T237k3q5 600 kd_S237k3q5 = true := by decide +kernel
theorem kd_h237k3q5 {g : kc_G} (hg : kc_ok g) : kd_hold g 1 kd_ty 237 kd_T237k3q5 := kd_mk (d0 := 0) (di := 0) hg kd_xk237 rfl rfl rfl rfl (kd_al_r kd_C237k3q5 trivial) (by decide) (by decide +kernel) kd_e237k3q5 (kd_al_r kd_S237k3q5 trivial)
def kd_T237k3q6 : kd_Tc := ([(3, 259, 259), (0, 2147483654, 2147483654), (0, 2147483651, 2147483651)], [], kd_P237k3)
def kd_C237k3q6 : List (Nat × kd_Tc) := []
def kd_S237k3q6 : List kd_St := []
theorem kd_e237k3q6 : kd_run0 kd_ty kd_x237 3 (kd_call kd_ty kd_xt (kd_ctl kd_C237k3q6) 600 0) kd_T237k3q6 600 kd_S237k3q6 = true := by decide +kernel
theorem kd_h237k3q6 {g : kc_G} (hg : kc_ok g) : kd_hold g 1 kd_ty 237 kd_T237k3q6 := kd_mk (d0 := 0) (di := 0) hg kd_xk237 rfl rfl rfl rfl (kd_al_r kd_C237k3q6 trivial) (by decide) (by decide +kernel) kd_e237k3q6 (kd_al_r kd_S237k3q6 trivial)
def kd_T237k3q7 : kd_Tc := ([(3, 259, 259), (0, 2147483655, 2147483655), (0, 2147483651, 2147483651)], [], kd_P237k3)
def kd_C237k3q7 : List (Nat × kd_Tc) := []
def kd_S237k3q7 : List kd_St := []
theorem kd_e237k3q7 : kd_run0 kd_ty kd_x237 3 (kd_call kd_ty kd_xt (kd_ctl kd_C237k3q7) 600 0) kd_T237k3q7 600 kd_S237k3q7 = true := by decide +kernel
theorem kd_h237k3q7 {g : kc_G} (hg : kc_ok g) : kd_hold g 1 kd_ty 237 kd_T237k3q7 := kd_mk (d0 := 0) (di := 0) hg kd_xk237 rfl rfl rfl rfl (kd_al_r kd_C237k3q7 trivial) (by decide) (by decide +kernel) kd_e237k3q7 (kd_al_r kd_S237k3q7 trivial)
def kd_T237k3q8 : kd_Tc := ([(3, 259, 259), (0, 2147483656, 2147483656), (0, 2147483651, 2147483651)], [], kd_P237k3)
def kd_C237k3q8 : List (Nat × kd_Tc) := []
def kd_S237k3q8 : List kd_St := []
theorem kd_e237k3q8 : kd_run0 kd_ty kd_x237 3 (kd_call kd_ty kd_xt (kd_ctl kd_C237k3q8) 600 0) kd_T237k3q8 600 kd_S237k3q8 = true := by decide +kernel
theorem kd_h237k3q8 {g : kc_G} (hg : kc_ok g) : kd_hold g 1 kd_ty 237 kd_T237k3q8 := kd_mk (d0 := 0) (di := 0) hg kd_xk237 rfl rfl rfl rfl (kd_al_r kd_C237k3q8 trivial) (by decide) (by decide +kernel) kd_e237k3q8 (kd_al_r kd_S237k3q8 trivial)
def kd_T237k3q9 : kd_Tc := ([(3, 259, 259), (0, 2147483657, 2147483657), (0, 2147483651, 2147483651)], [], kd_P237k3)
def kd_C237k3q9 : List (Nat × kd_Tc) := []
def kd_S237k3q9 : List kd_St := []
theorem kd_e237k3q9 : kd_run0 kd_ty kd_x237 3 (kd_call kd_ty kd_xt (kd_ctl kd_C237k3q9) 600 0) kd_T237k3q9 600 kd_S237k3q9 = true := by decide +kernel
theorem kd_h237k3q9 {g : kc_G} (hg : kc_ok g) : kd_hold g 1 kd_ty 237 kd_T237k3q9 := kd_mk (d0 := 0) (di := 0) hg kd_xk237 rfl rfl rfl rfl (kd_al_r kd_C237k3q9 trivial) (by decide) (by decide +kernel) kd_e237k3q9 (kd_al_r kd_S237k3q9 trivial)
def kd_T237k3 : kd_Tc := ([(3, 259, 259), (0, 2147483648, 2147483657), (0, 2147483651, 2147483651)], [], kd_P237k3)
theorem kd_h237k3 {g : kc_G} (hg : kc_ok g) : kd_hold g 1 kd_ty 237 kd_T237k3 := kd_hold_arg [(3, 259, 259)] [(2147483648, 2147483648), (2147483649, 2147483649), (2147483650, 2147483650), (2147483651, 2147483651), (2147483652, 2147483652), (2147483653, 2147483653), (2147483654, 2147483654), (2147483655, 2147483655), (2147483656, 2147483656), (2147483657, 2147483657)] (by decide +kernel) (kd_al_r [(2147483648, 2147483648), (2147483649, 2147483649), (2147483650, 2147483650), (2147483651, 2147483651), (2147483652, 2147483652), (2147483653, 2147483653), (2147483654, 2147483654), (2147483655, 2147483655), (2147483656, 2147483656), (2147483657, 2147483657)] ⟨(kd_hold_le (kd_h237k3q0 hg) (by decide)), (kd_hold_le (kd_h237k3q1 hg) (by decide)), (kd_hold_le (kd_h237k3q2 hg) (by decide)), (kd_hold_le (kd_h237k3q3 hg) (by decide)), (kd_hold_le (kd_h237k3q4 hg) (by decide)), (kd_hold_le (kd_h237k3q5 hg) (by decide)), (kd_hold_le (kd_h237k3q6 hg) (by decide)), (kd_hold_le (kd_h237k3q7 hg) (by decide)), (kd_hold_le (kd_h237k3q8 hg) (by decide)), (kd_hold_le (kd_h237k3q9 hg) (by decide)), trivial⟩)
def kd_P237k4 : List kd_P := [(some (0, 2147483648, 2147483748), [], [])]
def kd_T237k4q0 : kd_Tc := ([(3, 259, 259), (0, 2147483648, 2147483648), (0, 2147483652, 2147483652)], [], kd_P237k4)
def kd_C237k4q0 : List (Nat × kd_Tc) := []
def kd_S237k4q0 : List kd_St := []
theorem kd_e237k4q0 : kd_run0 kd_ty kd_x237 3 (kd_call kd_ty kd_xt (kd_ctl kd_C237k4q0) 600 0) kd_T237k4q0 600 kd_S237k4q0 = true := by decide +kernel
theorem kd_h237k4q0 {g : kc_G} (hg : kc_ok g) : kd_hold g 1 kd_ty 237 kd_T237k4q0 := kd_mk (d0 := 0) (di := 0) hg kd_xk237 rfl rfl rfl rfl (kd_al_r kd_C237k4q0 trivial) (by decide) (by decide +kernel) kd_e237k4q0 (kd_al_r kd_S237k4q0 trivial)
def kd_T237k4q1 : kd_Tc := ([(3, 259, 259), (0, 2147483649, 2147483649), (0, 2147483652, 2147483652)], [], kd_P237k4)
def kd_C237k4q1 : List (Nat × kd_Tc) := []
def kd_S237k4q1 : List kd_St := []
theorem kd_e237k4q1 : kd_run0 kd_ty kd_x237 3 (kd_call kd_ty kd_xt (kd_ctl kd_C237k4q1) 600 0) kd_T237k4q1 600 kd_S237k4q1 = true := by decide +kernel
theorem kd_h237k4q1 {g : kc_G} (hg : kc_ok g) : kd_hold g 1 kd_ty 237 kd_T237k4q1 := kd_mk (d0 := 0) (di := 0) hg kd_xk237 rfl rfl rfl rfl (kd_al_r kd_C237k4q1 trivial) (by decide) (by decide +kernel) kd_e237k4q1 (kd_al_r kd_S237k4q1 trivial)
def kd_T237k4q2 : kd_Tc := ([(3, 259, 259), (0, 2147483650, 2147483650), (0, 2147483652, 2147483652)], [], kd_P237k4)
def kd_C237k4q2 : List (Nat × kd_Tc) := []
def kd_S237k4q2 : List kd_St := []
theorem kd_e237k4q2 : kd_run0 kd_ty kd_x237 3 (kd_call kd_ty kd_xt (kd_ctl kd_C237k4q2) 600 0) kd_T237k4q2 600 kd_S237k4q2 = true := by decide +kernel
theorem kd_h237k4q2 {g : kc_G} (hg : kc_ok g) : kd_hold g 1 kd_ty 237 kd_T237k4q2 := kd_mk (d0 := 0) (di := 0) hg kd_xk237 rfl rfl rfl rfl (kd_al_r kd_C237k4q2 trivial) (by decide) (by decide +kernel) kd_e237k4q2 (kd_al_r kd_S237k4q2 trivial)
def kd_T237k4q3 : kd_Tc := ([(3, 259, 259), (0, 2147483651, 2147483651), (0, 2147483652, 2147483652)], [], kd_P237k4)
def kd_C237k4q3 : List (Nat × kd_Tc) := []
def kd_S237k4q3 : List kd_St := []
theorem kd_e237k4q3 : kd_run0 kd_ty kd_x237 3 (kd_call kd_ty kd_xt (kd_ctl kd_C237k4q3) 600 0) kd_T237k4q3 600 kd_S237k4q3 = true := by decide +kernel
theorem kd_h237k4q3 {g : kc_G} (hg : kc_ok g) : kd_hold g 1 kd_ty 237 kd_T237k4q3 := kd_mk (d0 := 0) (di := 0) hg kd_xk237 rfl rfl rfl rfl (kd_al_r kd_C237k4q3 trivial) (by decide) (by decide +kernel) kd_e237k4q3 (kd_al_r kd_S237k4q3 trivial)
def kd_T237k4q4 : kd_Tc := ([(3, 259, 259), (0, 2147483652, 2147483652), (0, 2147483652, 2147483652)], [], kd_P237k4)
def kd_C237k4q4 : List (Nat × kd_Tc) := []
def kd_S237k4q4 : List kd_St := []
theorem kd_e237k4q4 : kd_run0 kd_ty kd_x237 3 (kd_call kd_ty kd_xt (kd_ctl kd_C237k4q4) 600 0) kd_T237k4q4 600 kd_S237k4q4 = true := by decide +kernel
theorem kd_h237k4q4 {g : kc_G} (hg : kc_ok g) : kd_hold g 1 kd_ty 237 kd_T237k4q4 := kd_mk (d0 := 0) (di := 0) hg kd_xk237 rfl rfl rfl rfl (kd_al_r kd_C237k4q4 trivial) (by decide) (by decide +kernel) kd_e237k4q4 (kd_al_r kd_S237k4q4 trivial)
def kd_T237k4q5 : kd_Tc := ([(3, 259, 259), (0, 2147483653, 2147483653), (0, 2147483652, 2147483652)], [], kd_P237k4)
def kd_C237k4q5 : List (Nat × kd_Tc) := []
def kd_S237k4q5 : List kd_St := []
theorem kd_e237k4q5 : kd_run0 kd_ty kd_x237 3 (kd_call kd_ty kd_xt (kd_ctl kd_C237k4q5) 600 0) kd_T237k4q5 600 kd_S237k4q5 = true := by decide +kernel
theorem kd_h237k4q5 {g : kc_G} (hg : kc_ok g) : kd_hold g 1 kd_ty 237 kd_T237k4q5 := kd_mk (d0 := 0) (di := 0) hg kd_xk237 rfl rfl rfl rfl (kd_al_r kd_C237k4q5 trivial) (by decide) (by decide +kernel) kd_e237k4q5 (kd_al_r kd_S237k4q5 trivial)
def kd_T237k4q6 : kd_Tc := ([(3, 259, 259), (0, 2147483654, 2147483654), (0, 2147483652, 2147483652)], [], kd_P237k4)
def kd_C237k4q6 : List (Nat × kd_Tc) := []
def kd_S237k4q6 : List kd_St := []
theorem kd_e237k4q6 : kd_run0 kd_ty kd_x237 3 (kd_call kd_ty kd_xt (kd_ctl kd_C237k4q6) 600 0) kd_T237k4q6 600 kd_S237k4q6 = true := by decide +kernel
theorem kd_h237k4q6 {g : kc_G} (hg : kc_ok g) : kd_hold g 1 kd_ty 237 kd_T237k4q6 := kd_mk (d0 := 0) (di := 0) hg kd_xk237 rfl rfl rfl rfl (kd_al_r kd_C237k4q6 trivial) (by decide) (by decide +kernel) kd_e237k4q6 (kd_al_r kd_S237k4q6 trivial)
def kd_T237k4q7 : kd_Tc := ([(3, 259, 259), (0, 2147483655, 2147483655), (0, 2147483652, 2147483652)], [], kd_P237k4)
def kd_C237k4q7 : List (Nat × kd_Tc) := []
def kd_S237k4q7 : List kd_St := []
theorem kd_e237k4q7 : kd_run0 kd_ty kd_x237 3 (kd_call kd_ty kd_xt (kd_ctl kd_C237k4q7) 600 0) kd_T237k4q7 600 kd_S237k4q7 = true := by decide +kernel
theorem kd_h237k4q7 {g : kc_G} (hg : kc_ok g) : kd_hold g 1 kd_ty 237 kd_T237k4q7 := kd_mk (d0 := 0) (di := 0) hg kd_xk237 rfl rfl rfl rfl (kd_al_r kd_C237k4q7 trivial) (by decide) (by decide +kernel) kd_e237k4q7 (kd_al_r kd_S237k4q7 trivial)
def kd_T237k4q8 : kd_Tc := ([(3, 259, 259), (0, 2147483656, 2147483656), (0, 2147483652, 2147483652)], [], kd_P237k4)
def kd_C237k4q8 : List (Nat × kd_Tc) := []
def kd_S237k4q8 : List kd_St := []
theorem kd_e237k4q8 : kd_run0 kd_ty kd_x237 3 (kd_call kd_ty kd_xt (kd_ctl kd_C237k4q8) 600 0) kd_T237k4q8 600 kd_S237k4q8 = true := by decide +kernel
theorem kd_h237k4q8 {g : kc_G} (hg : kc_ok g) : kd_hold g 1 kd_ty 237 kd_T237k4q8 := kd_mk (d0 := 0) (di := 0) hg kd_xk237 rfl rfl rfl rfl (kd_al_r kd_C237k4q8 trivial) (by decide) (by decide +kernel) kd_e237k4q8 (kd_al_r kd_S237k4q8 trivial)
def kd_T237k4q9 : kd_Tc := ([(3, 259, 259), (0, 2147483657, 2147483657), (0, 2147483652, 2147483652)], [], kd_P237k4)
def kd_C237k4q9 : List (Nat × kd_Tc) := []
def kd_S237k4q9 : List kd_St := []
theorem kd_e237k4q9 : kd_run0 kd_ty kd_x237 3 (kd_call kd_ty kd_xt (kd_ctl kd_C237k4q9) 600 0) kd_T237k4q9 600 kd_S237k4q9 = true := by decide +kernel
theorem kd_h237k4q9 {g : kc_G} (hg : kc_ok g) : kd_hold g 1 kd_ty 237 kd_T237k4q9 := kd_mk (d0 := 0) (di := 0) hg kd_xk237 rfl rfl rfl rfl (kd_al_r kd_C237k4q9 trivial) (by decide) (by decide +kernel) kd_e237k4q9 (kd_al_r kd_S237k4q9 trivial)
def kd_T237k4 : kd_Tc := ([(3, 259, 259), (0, 2147483648, 2147483657), (0, 2147483652, 2147483652)], [], kd_P237k4)
theorem kd_h237k4 {g : kc_G} (hg : kc_ok g) : kd_hold g 1 kd_ty 237 kd_T237k4 := kd_hold_arg [(3, 259, 259)] [(2147483648, 2147483648), (2147483649, 2147483649), (2147483650, 2147483650), (2147483651, 2147483651), (2147483652, 2147483652), (2147483653, 2147483653), (2147483654, 2147483654), (2147483655, 2147483655), (2147483656, 2147483656), (2147483657, 2147483657)] (by decide +kernel) (kd_al_r [(2147483648, 2147483648), (2147483649, 2147483649), (2147483650, 2147483650), (2147483651, 2147483651), (2147483652, 2147483652), (2147483653, 2147483653), (2147483654, 2147483654), (2147483655, 2147483655), (2147483656, 2147483656), (2147483657, 2147483657)] ⟨(kd_hold_le (kd_h237k4q0 hg) (by decide)), (kd_hold_le (kd_h237k4q1 hg) (by decide)), (kd_hold_le (kd_h237k4q2 hg) (by decide)), (kd_hold_le (kd_h237k4q3 hg) (by decide)), (kd_hold_le (kd_h237k4q4 hg) (by decide)), (kd_hold_le (kd_h237k4q5 hg) (by decide)), (kd_hold_le (kd_h237k4q6 hg) (by decide)), (kd_hold_le (kd_h237k4q7 hg) (by decide)), (kd_hold_le (kd_h237k4q8 hg) (by decide)), (kd_hold_le (kd_h237k4q9 hg) (by decide)), trivial⟩)
def kd_P237k5 : List kd_P := [(some (0, 2147483648, 2147483657), [], [])]
def kd_T237k5q0 : kd_Tc := ([(3, 259, 259), (0, 2147483648, 2147483648), (0, 2147483653, 2147483653)], [], kd_P237k5)
def kd_C237k5q0 : List (Nat × kd_Tc) := []
def kd_S237k5q0 : List kd_St := []
theorem kd_e237k5q0 : kd_run0 kd_ty kd_x237 3 (kd_call kd_ty kd_xt (kd_ctl kd_C237k5q0) 600 0) kd_T237k5q0 600 kd_S237k5q0 = true := by decide +kernel
theorem kd_h237k5q0 {g : kc_G} (hg : kc_ok g) : kd_hold g 1 kd_ty 237 kd_T237k5q0 := kd_mk (d0 := 0) (di := 0) hg kd_xk237 rfl rfl rfl rfl (kd_al_r kd_C237k5q0 trivial) (by decide) (by decide +kernel) kd_e237k5q0 (kd_al_r kd_S237k5q0 trivial)
def kd_T237k5q1 : kd_Tc := ([(3, 259, 259), (0, 2147483649, 2147483649), (0, 2147483653, 2147483653)], [], kd_P237k5)
def kd_C237k5q1 : List (Nat × kd_Tc) := []
def kd_S237k5q1 : List kd_St := []
theorem kd_e237k5q1 : kd_run0 kd_ty kd_x237 3 (kd_call kd_ty kd_xt (kd_ctl kd_C237k5q1) 600 0) kd_T237k5q1 600 kd_S237k5q1 = true := by decide +kernel
theorem kd_h237k5q1 {g : kc_G} (hg : kc_ok g) : kd_hold g 1 kd_ty 237 kd_T237k5q1 := kd_mk (d0 := 0) (di := 0) hg kd_xk237 rfl rfl rfl rfl (kd_al_r kd_C237k5q1 trivial) (by decide) (by decide +kernel) kd_e237k5q1 (kd_al_r kd_S237k5q1 trivial)
def kd_T237k5q2 : kd_Tc := ([(3, 259, 259), (0, 2147483650, 2147483650), (0, 2147483653, 2147483653)], [], kd_P237k5)
def kd_C237k5q2 : List (Nat × kd_Tc) := []
def kd_S237k5q2 : List kd_St := []
theorem kd_e237k5q2 : kd_run0 kd_ty kd_x237 3 (kd_call kd_ty kd_xt (kd_ctl kd_C237k5q2) 600 0) kd_T237k5q2 600 kd_S237k5q2 = true := by decide +kernel
theorem kd_h237k5q2 {g : kc_G} (hg : kc_ok g) : kd_hold g 1 kd_ty 237 kd_T237k5q2 := kd_mk (d0 := 0) (di := 0) hg kd_xk237 rfl rfl rfl rfl (kd_al_r kd_C237k5q2 trivial) (by decide) (by decide +kernel) kd_e237k5q2 (kd_al_r kd_S237k5q2 trivial)
def kd_T237k5q3 : kd_Tc := ([(3, 259, 259), (0, 2147483651, 2147483651), (0, 2147483653, 2147483653)], [], kd_P237k5)
def kd_C237k5q3 : List (Nat × kd_Tc) := []
def kd_S237k5q3 : List kd_St := []
theorem kd_e237k5q3 : kd_run0 kd_ty kd_x237 3 (kd_call kd_ty kd_xt (kd_ctl kd_C237k5q3) 600 0) kd_T237k5q3 600 kd_S237k5q3 = true := by decide +kernel
theorem kd_h237k5q3 {g : kc_G} (hg : kc_ok g) : kd_hold g 1 kd_ty 237 kd_T237k5q3 := kd_mk (d0 := 0) (di := 0) hg kd_xk237 rfl rfl rfl rfl (kd_al_r kd_C237k5q3 trivial) (by decide) (by decide +kernel) kd_e237k5q3 (kd_al_r kd_S237k5q3 trivial)
def kd_T237k5q4 : kd_Tc := ([(3, 259, 259), (0, 2147483652, 2147483652), (0, 2147483653, 2147483653)], [], kd_P237k5)
def kd_C237k5q4 : List (Nat × kd_Tc) := []
def kd_S237k5q4 : List kd_St := []
theorem kd_e237k5q4 : kd_run0 kd_ty kd_x237 3 (kd_call kd_ty kd_xt (kd_ctl kd_C237k5q4) 600 0) kd_T237k5q4 600 kd_S237k5q4 = true := by decide +kernel
theorem kd_h237k5q4 {g : kc_G} (hg : kc_ok g) : kd_hold g 1 kd_ty 237 kd_T237k5q4 := kd_mk (d0 := 0) (di := 0) hg kd_xk237 rfl rfl rfl rfl (kd_al_r kd_C237k5q4 trivial) (by decide) (by decide +kernel) kd_e237k5q4 (kd_al_r kd_S237k5q4 trivial)
def kd_T237k5q5 : kd_Tc := ([(3, 259, 259), (0, 2147483653, 2147483653), (0, 2147483653, 2147483653)], [], kd_P237k5)
def kd_C237k5q5 : List (Nat × kd_Tc) := []
def kd_S237k5q5 : List kd_St := []
theorem kd_e237k5q5 : kd_run0 kd_ty kd_x237 3 (kd_call kd_ty kd_xt (kd_ctl kd_C237k5q5) 600 0) kd_T237k5q5 600 kd_S237k5q5 = true := by decide +kernel
theorem kd_h237k5q5 {g : kc_G} (hg : kc_ok g) : kd_hold g 1 kd_ty 237 kd_T237k5q5 := kd_mk (d0 := 0) (di := 0) hg kd_xk237 rfl rfl rfl rfl (kd_al_r kd_C237k5q5 trivial) (by decide) (by decide +kernel) kd_e237k5q5 (kd_al_r kd_S237k5q5 trivial)
def kd_T237k5q6 : kd_Tc := ([(3, 259, 259), (0, 2147483654, 2147483654), (0, 2147483653, 2147483653)], [], kd_P237k5)
def kd_C237k5q6 : List (Nat × kd_Tc) := []
def kd_S237k5q6 : List kd_St := []
theorem kd_e237k5q6 : kd_run0 kd_ty kd_x237 3 (kd_call kd_ty kd_xt (kd_ctl kd_C237k5q6) 600 0) kd_T237k5q6 600 kd_S237k5q6 = true := by decide +kernel
theorem kd_h237k5q6 {g : kc_G} (hg : kc_ok g) : kd_hold g 1 kd_ty 237 kd_T237k5q6 := kd_mk (d0 := 0) (di := 0) hg kd_xk237 rfl rfl rfl rfl (kd_al_r kd_C237k5q6 trivial) (by decide) (by decide +kernel) kd_e237k5q6 (kd_al_r kd_S237k5q6 trivial)
def kd_T237k5q7 : kd_Tc := ([(3, 259, 259), (0, 2147483655, 2147483655), (0, 2147483653, 2147483653)], [], kd_P237k5)
def kd_C237k5q7 : List (Nat × kd_Tc) := []
def kd_S237k5q7 : List kd_St := []
theorem kd_e237k5q7 : kd_run0 kd_ty kd_x237 3 (kd_call kd_ty kd_xt (kd_ctl kd_C237k5q7) 600 0) kd_T237k5q7 600 kd_S237k5q7 = true := by decide +kernel
theorem kd_h237k5q7 {g : kc_G} (hg : kc_ok g) : kd_hold g 1 kd_ty 237 kd_T237k5q7 := kd_mk (d0 := 0) (di := 0) hg kd_xk237 rfl rfl rfl rfl (kd_al_r kd_C237k5q7 trivial) (by decide) (by decide +kernel) kd_e237k5q7 (kd_al_r kd_S237k5q7 trivial)
def kd_T237k5q8 : kd_Tc := ([(3, 259, 259), (0, 2147483656, 2147483656), (0, 2147483653, 2147483653)], [], kd_P237k5)
def kd_C237k5q8 : List (Nat × kd_Tc) := []
def kd_S237k5q8 : List kd_St := []
theorem kd_e237k5q8 : kd_run0 kd_ty kd_x237 3 (kd_call kd_ty kd_xt (kd_ctl kd_C237k5q8) 600 0) kd_T237k5q8 600 kd_S237k5q8 = true := by decide +kernel
theorem kd_h237k5q8 {g : kc_G} (hg : kc_ok g) : kd_hold g 1 kd_ty 237 kd_T237k5q8 := kd_mk (d0 := 0) (di := 0) hg kd_xk237 rfl rfl rfl rfl (kd_al_r kd_C237k5q8 trivial) (by decide) (by decide +kernel) kd_e237k5q8 (kd_al_r kd_S237k5q8 trivial)
def kd_T237k5q9 : kd_Tc := ([(3, 259, 259), (0, 2147483657, 2147483657), (0, 2147483653, 2147483653)], [], kd_P237k5)
def kd_C237k5q9 : List (Nat × kd_Tc) := []
def kd_S237k5q9 : List kd_St := []
theorem kd_e237k5q9 : kd_run0 kd_ty kd_x237 3 (kd_call kd_ty kd_xt (kd_ctl kd_C237k5q9) 600 0) kd_T237k5q9 600 kd_S237k5q9 = true := by decide +kernel
theorem kd_h237k5q9 {g : kc_G} (hg : kc_ok g) : kd_hold g 1 kd_ty 237 kd_T237k5q9 := kd_mk (d0 := 0) (di := 0) hg kd_xk237 rfl rfl rfl rfl (kd_al_r kd_C237k5q9 trivial) (by decide) (by decide +kernel) kd_e237k5q9 (kd_al_r kd_S237k5q9 trivial)
def kd_T237k5 : kd_Tc := ([(3, 259, 259), (0, 2147483648, 2147483657), (0, 2147483653, 2147483653)], [], kd_P237k5)
theorem kd_h237k5 {g : kc_G} (hg : kc_ok g) : kd_hold g 1 kd_ty 237 kd_T237k5 := kd_hold_arg [(3, 259, 259)] [(2147483648, 2147483648), (2147483649, 2147483649), (2147483650, 2147483650), (2147483651, 2147483651), (2147483652, 2147483652), (2147483653, 2147483653), (2147483654, 2147483654), (2147483655, 2147483655), (2147483656, 2147483656), (2147483657, 2147483657)] (by decide +kernel) (kd_al_r [(2147483648, 2147483648), (2147483649, 2147483649), (2147483650, 2147483650), (2147483651, 2147483651), (2147483652, 2147483652), (2147483653, 2147483653), (2147483654, 2147483654), (2147483655, 2147483655), (2147483656, 2147483656), (2147483657, 2147483657)] ⟨(kd_hold_le (kd_h237k5q0 hg) (by decide)), (kd_hold_le (kd_h237k5q1 hg) (by decide)), (kd_hold_le (kd_h237k5q2 hg) (by decide)), (kd_hold_le (kd_h237k5q3 hg) (by decide)), (kd_hold_le (kd_h237k5q4 hg) (by decide)), (kd_hold_le (kd_h237k5q5 hg) (by decide)), (kd_hold_le (kd_h237k5q6 hg) (by decide)), (kd_hold_le (kd_h237k5q7 hg) (by decide)), (kd_hold_le (kd_h237k5q8 hg) (by decide)), (kd_hold_le (kd_h237k5q9 hg) (by decide)), trivial⟩)
def kd_P237k6 : List kd_P := [(some (0, 2147483647, 2147483653), [], [])]
def kd_T237k6q0 : kd_Tc := ([(3, 259, 259), (0, 2147483648, 2147483648), (0, 2147483654, 2147483654)], [], kd_P237k6)
def kd_C237k6q0 : List (Nat × kd_Tc) := []
def kd_S237k6q0 : List kd_St := []
theorem kd_e237k6q0 : kd_run0 kd_ty kd_x237 3 (kd_call kd_ty kd_xt (kd_ctl kd_C237k6q0) 600 0) kd_T237k6q0 600 kd_S237k6q0 = true := by decide +kernel
theorem kd_h237k6q0 {g : kc_G} (hg : kc_ok g) : kd_hold g 1 kd_ty 237 kd_T237k6q0 := kd_mk (d0 := 0) (di := 0) hg kd_xk237 rfl rfl rfl rfl (kd_al_r kd_C237k6q0 trivial) (by decide) (by decide +kernel) kd_e237k6q0 (kd_al_r kd_S237k6q0 trivial)
def kd_T237k6q1 : kd_Tc := ([(3, 259, 259), (0, 2147483649, 2147483649), (0, 2147483654, 2147483654)], [], kd_P237k6)
def kd_C237k6q1 : List (Nat × kd_Tc) := []
def kd_S237k6q1 : List kd_St := []
theorem kd_e237k6q1 : kd_run0 kd_ty kd_x237 3 (kd_call kd_ty kd_xt (kd_ctl kd_C237k6q1) 600 0) kd_T237k6q1 600 kd_S237k6q1 = true := by decide +kernel
theorem kd_h237k6q1 {g : kc_G} (hg : kc_ok g) : kd_hold g 1 kd_ty 237 kd_T237k6q1 := kd_mk (d0 := 0) (di := 0) hg kd_xk237 rfl rfl rfl rfl (kd_al_r kd_C237k6q1 trivial) (by decide) (by decide +kernel) kd_e237k6q1 (kd_al_r kd_S237k6q1 trivial)
def kd_T237k6q2 : kd_Tc := ([(3, 259, 259), (0, 2147483650, 2147483650), (0, 2147483654, 2147483654)], [], kd_P237k6)
def kd_C237k6q2 : List (Nat × kd_Tc) := []
def kd_S237k6q2 : List kd_St := []
theorem kd_e237k6q2 : kd_run0 kd_ty kd_x237 3 (kd_call kd_ty kd_xt (kd_ctl kd_C237k6q2) 600 0) kd_T237k6q2 600 kd_S237k6q2 = true := by decide +kernel
theorem kd_h237k6q2 {g : kc_G} (hg : kc_ok g) : kd_hold g 1 kd_ty 237 kd_T237k6q2 := kd_mk (d0 := 0) (di := 0) hg kd_xk237 rfl rfl rfl rfl (kd_al_r kd_C237k6q2 trivial) (by decide) (by decide +kernel) kd_e237k6q2 (kd_al_r kd_S237k6q2 trivial)
def kd_T237k6q3 : kd_Tc := ([(3, 259, 259), (0, 2147483651, 2147483651), (0, 2147483654, 2147483654)], [], kd_P237k6)
def kd_C237k6q3 : List (Nat × kd_Tc) := []
def kd_S237k6q3 : List kd_St := []
theorem kd_e237k6q3 : kd_run0 kd_ty kd_x237 3 (kd_call kd_ty kd_xt (kd_ctl kd_C237k6q3) 600 0) kd_T237k6q3 600 kd_S237k6q3 = true := by decide +kernel
theorem kd_h237k6q3 {g : kc_G} (hg : kc_ok g) : kd_hold g 1 kd_ty 237 kd_T237k6q3 := kd_mk (d0 := 0) (di := 0) hg kd_xk237 rfl rfl rfl rfl (kd_al_r kd_C237k6q3 trivial) (by decide) (by decide +kernel) kd_e237k6q3 (kd_al_r kd_S237k6q3 trivial)
def kd_T237k6q4 : kd_Tc := ([(3, 259, 259), (0, 2147483652, 2147483652), (0, 2147483654, 2147483654)], [], kd_P237k6)
def kd_C237k6q4 : List (Nat × kd_Tc) := []
def kd_S237k6q4 : List kd_St := []
theorem kd_e237k6q4 : kd_run0 kd_ty kd_x237 3 (kd_call kd_ty kd_xt (kd_ctl kd_C237k6q4) 600 0) kd_T237k6q4 600 kd_S237k6q4 = true := by decide +kernel
theorem kd_h237k6q4 {g : kc_G} (hg : kc_ok g) : kd_hold g 1 kd_ty 237 kd_T237k6q4 := kd_mk (d0 := 0) (di := 0) hg kd_xk237 rfl rfl rfl rfl (kd_al_r kd_C237k6q4 trivial) (by decide) (by decide +kernel) kd_e237k6q4 (kd_al_r kd_S237k6q4 trivial)
def kd_T237k6q5 : kd_Tc := ([(3, 259, 259), (0, 2147483653, 2147483653), (0, 2147483654, 2147483654)], [], kd_P237k6)
def kd_C237k6q5 : List (Nat × kd_Tc) := []
def kd_S237k6q5 : List kd_St := []
theorem kd_e237k6q5 : kd_run0 kd_ty kd_x237 3 (kd_call kd_ty kd_xt (kd_ctl kd_C237k6q5) 600 0) kd_T237k6q5 600 kd_S237k6q5 = true := by decide +kernel
theorem kd_h237k6q5 {g : kc_G} (hg : kc_ok g) : kd_hold g 1 kd_ty 237 kd_T237k6q5 := kd_mk (d0 := 0) (di := 0) hg kd_xk237 rfl rfl rfl rfl (kd_al_r kd_C237k6q5 trivial) (by decide) (by decide +kernel) kd_e237k6q5 (kd_al_r kd_S237k6q5 trivial)
def kd_T237k6q6 : kd_Tc := ([(3, 259, 259), (0, 2147483654, 2147483654), (0, 2147483654, 2147483654)], [], kd_P237k6)
def kd_C237k6q6 : List (Nat × kd_Tc) := []
def kd_S237k6q6 : List kd_St := []
theorem kd_e237k6q6 : kd_run0 kd_ty kd_x237 3 (kd_call kd_ty kd_xt (kd_ctl kd_C237k6q6) 600 0) kd_T237k6q6 600 kd_S237k6q6 = true := by decide +kernel
theorem kd_h237k6q6 {g : kc_G} (hg : kc_ok g) : kd_hold g 1 kd_ty 237 kd_T237k6q6 := kd_mk (d0 := 0) (di := 0) hg kd_xk237 rfl rfl rfl rfl (kd_al_r kd_C237k6q6 trivial) (by decide) (by decide +kernel) kd_e237k6q6 (kd_al_r kd_S237k6q6 trivial)
def kd_T237k6q7 : kd_Tc := ([(3, 259, 259), (0, 2147483655, 2147483655), (0, 2147483654, 2147483654)], [], kd_P237k6)
def kd_C237k6q7 : List (Nat × kd_Tc) := []
def kd_S237k6q7 : List kd_St := []
theorem kd_e237k6q7 : kd_run0 kd_ty kd_x237 3 (kd_call kd_ty kd_xt (kd_ctl kd_C237k6q7) 600 0) kd_T237k6q7 600 kd_S237k6q7 = true := by decide +kernel
theorem kd_h237k6q7 {g : kc_G} (hg : kc_ok g) : kd_hold g 1 kd_ty 237 kd_T237k6q7 := kd_mk (d0 := 0) (di := 0) hg kd_xk237 rfl rfl rfl rfl (kd_al_r kd_C237k6q7 trivial) (by decide) (by decide +kernel) kd_e237k6q7 (kd_al_r kd_S237k6q7 trivial)
def kd_T237k6q8 : kd_Tc := ([(3, 259, 259), (0, 2147483656, 2147483656), (0, 2147483654, 2147483654)], [], kd_P237k6)
def kd_C237k6q8 : List (Nat × kd_Tc) := []
def kd_S237k6q8 : List kd_St := []
theorem kd_e237k6q8 : kd_run0 kd_ty kd_x237 3 (kd_call kd_ty kd_xt (kd_ctl kd_C237k6q8) 600 0) kd_T237k6q8 600 kd_S237k6q8 = true := by decide +kernel
theorem kd_h237k6q8 {g : kc_G} (hg : kc_ok g) : kd_hold g 1 kd_ty 237 kd_T237k6q8 := kd_mk (d0 := 0) (di := 0) hg kd_xk237 rfl rfl rfl rfl (kd_al_r kd_C237k6q8 trivial) (by decide) (by decide +kernel) kd_e237k6q8 (kd_al_r kd_S237k6q8 trivial)
def kd_T237k6q9 : kd_Tc := ([(3, 259, 259), (0, 2147483657, 2147483657), (0, 2147483654, 2147483654)], [], kd_P237k6)
def kd_C237k6q9 : List (Nat × kd_Tc) := []
def kd_S237k6q9 : List kd_St := []
theorem kd_e237k6q9 : kd_run0 kd_ty kd_x237 3 (kd_call kd_ty kd_xt (kd_ctl kd_C237k6q9) 600 0) kd_T237k6q9 600 kd_S237k6q9 = true := by decide +kernel
theorem kd_h237k6q9 {g : kc_G} (hg : kc_ok g) : kd_hold g 1 kd_ty 237 kd_T237k6q9 := kd_mk (d0 := 0) (di := 0) hg kd_xk237 rfl rfl rfl rfl (kd_al_r kd_C237k6q9 trivial) (by decide) (by decide +kernel) kd_e237k6q9 (kd_al_r kd_S237k6q9 trivial)
def kd_T237k6 : kd_Tc := ([(3, 259, 259), (0, 2147483648, 2147483657), (0, 2147483654, 2147483654)], [], kd_P237k6)
theorem kd_h237k6 {g : kc_G} (hg : kc_ok g) : kd_hold g 1 kd_ty 237 kd_T237k6 := kd_hold_arg [(3, 259, 259)] [(2147483648, 2147483648), (2147483649, 2147483649), (2147483650, 2147483650), (2147483651, 2147483651), (2147483652, 2147483652), (2147483653, 2147483653), (2147483654, 2147483654), (2147483655, 2147483655), (2147483656, 2147483656), (2147483657, 2147483657)] (by decide +kernel) (kd_al_r [(2147483648, 2147483648), (2147483649, 2147483649), (2147483650, 2147483650), (2147483651, 2147483651), (2147483652, 2147483652), (2147483653, 2147483653), (2147483654, 2147483654), (2147483655, 2147483655), (2147483656, 2147483656), (2147483657, 2147483657)] ⟨(kd_hold_le (kd_h237k6q0 hg) (by decide)), (kd_hold_le (kd_h237k6q1 hg) (by decide)), (kd_hold_le (kd_h237k6q2 hg) (by decide)), (kd_hold_le (kd_h237k6q3 hg) (by decide)), (kd_hold_le (kd_h237k6q4 hg) (by decide)), (kd_hold_le (kd_h237k6q5 hg) (by decide)), (kd_hold_le (kd_h237k6q6 hg) (by decide)), (kd_hold_le (kd_h237k6q7 hg) (by decide)), (kd_hold_le (kd_h237k6q8 hg) (by decide)), (kd_hold_le (kd_h237k6q9 hg) (by decide)), trivial⟩)
def kd_P241 : List kd_P := [(some (0, 2147483648, 2147483649), [], [])]
def kd_T241 : kd_Tc := ([(3, 259, 259), (0, 2147483648, 2147483657)], [], kd_P241)
def kd_C241 : List (Nat × kd_Tc) := [(237, kd_T237k1)]
def kd_S241 : List kd_St := []
theorem kd_e241 : kd_run0 kd_ty kd_x241 2 (kd_call kd_ty kd_xt (kd_ctl kd_C241) 600 0) kd_T241 600 kd_S241 = true := by decide +kernel
theorem kd_h241 {g : kc_G} (hg : kc_ok g) : kd_hold g 2 kd_ty 241 kd_T241 := kd_mk (d0 := 1) (di := 0) hg kd_xk241 rfl rfl rfl rfl (kd_al_r kd_C241 ⟨kd_hold_le (kd_h237k1 hg) (by decide), trivial⟩) (by decide) (by decide +kernel) kd_e241 (kd_al_r kd_S241 trivial)
def kd_P243 : List kd_P := [(some (0, 2147483648, 4294967295), [], [])]
def kd_T243 : kd_Tc := ([(3, 259, 259), (0, 2147483648, 2147483657), (0, 0, 4294967295)], [], kd_P243)
def kd_C243 : List (Nat × kd_Tc) := [(237, kd_T237k5), (237, kd_T237k0)]
def kd_S243 : List kd_St := []
theorem kd_e243 : kd_run0 kd_ty kd_x243 4 (kd_call kd_ty kd_xt (kd_ctl kd_C243) 600 0) kd_T243 600 kd_S243 = true := by decide +kernel
theorem kd_h243 {g : kc_G} (hg : kc_ok g) : kd_hold g 2 kd_ty 243 kd_T243 := kd_mk (d0 := 1) (di := 0) hg kd_xk243 rfl rfl rfl rfl (kd_al_r kd_C243 ⟨kd_hold_le (kd_h237k5 hg) (by decide), kd_hold_le (kd_h237k0 hg) (by decide), trivial⟩) (by decide) (by decide +kernel) kd_e243 (kd_al_r kd_S243 trivial)
def kd_P259 : List kd_P := [(some (0, 2147483648, 2147483653), [], [])]
def kd_T259q0 : kd_Tc := ([(3, 259, 259), (0, 2147483648, 2147483648)], [], kd_P259)
def kd_C259q0 : List (Nat × kd_Tc) := []
def kd_S259q0 : List kd_St := []
theorem kd_e259q0 : kd_run0 kd_ty kd_x259 2 (kd_call kd_ty kd_xt (kd_ctl kd_C259q0) 600 0) kd_T259q0 600 kd_S259q0 = true := by decide +kernel
theorem kd_h259q0 {g : kc_G} (hg : kc_ok g) : kd_hold g 1 kd_ty 259 kd_T259q0 := kd_mk (d0 := 0) (di := 0) hg kd_xk259 rfl rfl rfl rfl (kd_al_r kd_C259q0 trivial) (by decide) (by decide +kernel) kd_e259q0 (kd_al_r kd_S259q0 trivial)
def kd_T259q1 : kd_Tc := ([(3, 259, 259), (0, 2147483649, 2147483649)], [], kd_P259)
def kd_C259q1 : List (Nat × kd_Tc) := []
def kd_S259q1 : List kd_St := []
theorem kd_e259q1 : kd_run0 kd_ty kd_x259 2 (kd_call kd_ty kd_xt (kd_ctl kd_C259q1) 600 0) kd_T259q1 600 kd_S259q1 = true := by decide +kernel
theorem kd_h259q1 {g : kc_G} (hg : kc_ok g) : kd_hold g 1 kd_ty 259 kd_T259q1 := kd_mk (d0 := 0) (di := 0) hg kd_xk259 rfl rfl rfl rfl (kd_al_r kd_C259q1 trivial) (by decide) (by decide +kernel) kd_e259q1 (kd_al_r kd_S259q1 trivial)
def kd_T259q2 : kd_Tc := ([(3, 259, 259), (0, 2147483650, 2147483650)], [], kd_P259)
def kd_C259q2 : List (Nat × kd_Tc) := []
def kd_S259q2 : List kd_St := []
theorem kd_e259q2 : kd_run0 kd_ty kd_x259 2 (kd_call kd_ty kd_xt (kd_ctl kd_C259q2) 600 0) kd_T259q2 600 kd_S259q2 = true := by decide +kernel
theorem kd_h259q2 {g : kc_G} (hg : kc_ok g) : kd_hold g 1 kd_ty 259 kd_T259q2 := kd_mk (d0 := 0) (di := 0) hg kd_xk259 rfl rfl rfl rfl (kd_al_r kd_C259q2 trivial) (by decide) (by decide +kernel) kd_e259q2 (kd_al_r kd_S259q2 trivial)
def kd_T259q3 : kd_Tc := ([(3, 259, 259), (0, 2147483651, 2147483651)], [], kd_P259)
def kd_C259q3 : List (Nat × kd_Tc) := []
def kd_S259q3 : List kd_St := []
theorem kd_e259q3 : kd_run0 kd_ty kd_x259 2 (kd_call kd_ty kd_xt (kd_ctl kd_C259q3) 600 0) kd_T259q3 600 kd_S259q3 = true := by decide +kernel
theorem kd_h259q3 {g : kc_G} (hg : kc_ok g) : kd_hold g 1 kd_ty 259 kd_T259q3 := kd_mk (d0 := 0) (di := 0) hg kd_xk259 rfl rfl rfl rfl (kd_al_r kd_C259q3 trivial) (by decide) (by decide +kernel) kd_e259q3 (kd_al_r kd_S259q3 trivial)
def kd_T259q4 : kd_Tc := ([(3, 259, 259), (0, 2147483652, 2147483652)], [], kd_P259)
def kd_C259q4 : List (Nat × kd_Tc) := []
def kd_S259q4 : List kd_St := []
theorem kd_e259q4 : kd_run0 kd_ty kd_x259 2 (kd_call kd_ty kd_xt (kd_ctl kd_C259q4) 600 0) kd_T259q4 600 kd_S259q4 = true := by decide +kernel
theorem kd_h259q4 {g : kc_G} (hg : kc_ok g) : kd_hold g 1 kd_ty 259 kd_T259q4 := kd_mk (d0 := 0) (di := 0) hg kd_xk259 rfl rfl rfl rfl (kd_al_r kd_C259q4 trivial) (by decide) (by decide +kernel) kd_e259q4 (kd_al_r kd_S259q4 trivial)
def kd_T259 : kd_Tc := ([(3, 259, 259), (0, 2147483648, 2147483652)], [], kd_P259)
theorem kd_h259 {g : kc_G} (hg : kc_ok g) : kd_hold g 1 kd_ty 259 kd_T259 := kd_hold_arg [(3, 259, 259)] [(2147483648, 2147483648), (2147483649, 2147483649), (2147483650, 2147483650), (2147483651, 2147483651), (2147483652, 2147483652)] (by decide +kernel) (kd_al_r [(2147483648, 2147483648), (2147483649, 2147483649), (2147483650, 2147483650), (2147483651, 2147483651), (2147483652, 2147483652)] ⟨(kd_hold_le (kd_h259q0 hg) (by decide)), (kd_hold_le (kd_h259q1 hg) (by decide)), (kd_hold_le (kd_h259q2 hg) (by decide)), (kd_hold_le (kd_h259q3 hg) (by decide)), (kd_hold_le (kd_h259q4 hg) (by decide)), trivial⟩)
def kd_P258 : List kd_P := [(some (0, 2147483646, 2147483652), [], [])]
def kd_T258 : kd_Tc := ([(3, 259, 259), (0, 0, 4294967295)], [], kd_P258)
def kd_C258 : List (Nat × kd_Tc) := [(259, kd_T259)]
def kd_S258_0 : kd_St := (2, [(0, 4294967295)], 1, [(3, 259, 259), (1, 0, 2147483648), (0, 2147483648, 2147483648)], [], [], [(0, (0, 3, 3)), (0, (0, 2147483648, 2147483648))])
def kd_S258_1 : kd_St := (2, [(2147483649, 2147483653), (0, 4294967295)], 2, [(3, 259, 259), (1, 0, 2147483648), (0, 2147483649, 2147483649)], [(260, 3, (1, 1, 2147483648))], [], [(0, (0, 3, 3)), (0, (0, 2147483649, 2147483649))])
def kd_S258_2 : kd_St := (2, [(2147483650, 2147483653), (0, 4294967295)], 2, [(3, 259, 259), (1, 0, 2147483648), (0, 2147483650, 2147483650)], [(260, 3, (1, 1, 2147483648))], [], [(0, (0, 3, 3)), (0, (0, 2147483650, 2147483650))])
def kd_S258_3 : kd_St := (2, [(2147483651, 2147483653), (0, 4294967295)], 2, [(3, 259, 259), (1, 0, 2147483648), (0, 2147483651, 2147483651)], [(260, 3, (1, 1, 2147483648))], [], [(0, (0, 3, 3)), (0, (0, 2147483651, 2147483651))])
def kd_S258_4 : kd_St := (2, [(2147483652, 2147483653), (0, 4294967295)], 2, [(3, 259, 259), (1, 0, 2147483648), (0, 2147483652, 2147483652)], [(260, 3, (1, 1, 2147483648))], [], [(0, (0, 3, 3)), (0, (0, 2147483652, 2147483652))])
def kd_S258_5 : kd_St := (2, [(0, 4294967295)], 1, [(3, 259, 259), (1, 0, 2147483648), (0, 2147483653, 2147483653)], [(260, 3, (0, 2147483653, 2147483653))], [], [(0, (0, 3, 3)), (0, (0, 2147483653, 2147483653))])
def kd_S258 : List kd_St := [kd_S258_0, kd_S258_1, kd_S258_2, kd_S258_3, kd_S258_4, kd_S258_5]
theorem kd_e258 : kd_run0 kd_ty kd_x258 3 (kd_call kd_ty kd_xt (kd_ctl kd_C258) 600 0) kd_T258 600 kd_S258 = true := by decide +kernel
theorem kd_r258_0 : kd_run1 kd_ty kd_x258 3 (kd_call kd_ty kd_xt (kd_ctl kd_C258) 600 0) kd_T258.2.2 600 kd_S258 kd_S258_0 = true := by decide +kernel
theorem kd_r258_1 : kd_run1 kd_ty kd_x258 3 (kd_call kd_ty kd_xt (kd_ctl kd_C258) 600 0) kd_T258.2.2 600 kd_S258 kd_S258_1 = true := by decide +kernel
theorem kd_r258_2 : kd_run1 kd_ty kd_x258 3 (kd_call kd_ty kd_xt (kd_ctl kd_C258) 600 0) kd_T258.2.2 600 kd_S258 kd_S258_2 = true := by decide +kernel
theorem kd_r258_3 : kd_run1 kd_ty kd_x258 3 (kd_call kd_ty kd_xt (kd_ctl kd_C258) 600 0) kd_T258.2.2 600 kd_S258 kd_S258_3 = true := by decide +kernel
theorem kd_r258_4 : kd_run1 kd_ty kd_x258 3 (kd_call kd_ty kd_xt (kd_ctl kd_C258) 600 0) kd_T258.2.2 600 kd_S258 kd_S258_4 = true := by decide +kernel
theorem kd_r258_5 : kd_run1 kd_ty kd_x258 3 (kd_call kd_ty kd_xt (kd_ctl kd_C258) 600 0) kd_T258.2.2 600 kd_S258 kd_S258_5 = true := by decide +kernel
theorem kd_h258 {g : kc_G} (hg : kc_ok g) : kd_hold g 2 kd_ty 258 kd_T258 := kd_mk (d0 := 1) (di := 0) hg kd_xk258 rfl rfl rfl rfl (kd_al_r kd_C258 ⟨kd_hold_le (kd_h259 hg) (by decide), trivial⟩) (by decide) (by decide +kernel) kd_e258 (kd_al_r kd_S258 ⟨kd_r258_0, kd_r258_1, kd_r258_2, kd_r258_3, kd_r258_4, kd_r258_5, trivial⟩)
def kd_P254 : List kd_P := [(some (0, 2147483648, 2147483747), [], [])]
def kd_T254 : kd_Tc := ([(3, 259, 259), (0, 2147483648, 2147483653), (0, 2147483648, 2147483653)], [], kd_P254)
def kd_C254 : List (Nat × kd_Tc) := []
def kd_S254 : List kd_St := []
theorem kd_e254 : kd_run0 kd_ty kd_x254 3 (kd_call kd_ty kd_xt (kd_ctl kd_C254) 600 0) kd_T254 600 kd_S254 = true := by decide +kernel
theorem kd_h254 {g : kc_G} (hg : kc_ok g) : kd_hold g 1 kd_ty 254 kd_T254 := kd_mk (d0 := 0) (di := 0) hg kd_xk254 rfl rfl rfl rfl (kd_al_r kd_C254 trivial) (by decide) (by decide +kernel) kd_e254 (kd_al_r kd_S254 trivial)
def kd_P256 : List kd_P := [(some (0, 2147483648, 2147483747), [], [])]
def kd_T256q0 : kd_Tc := ([(3, 259, 259), (0, 2147483648, 2147483648)], [], kd_P256)
def kd_C256q0 : List (Nat × kd_Tc) := []
def kd_S256q0 : List kd_St := []
theorem kd_e256q0 : kd_run0 kd_ty kd_x256 2 (kd_call kd_ty kd_xt (kd_ctl kd_C256q0) 600 0) kd_T256q0 600 kd_S256q0 = true := by decide +kernel
theorem kd_h256q0 {g : kc_G} (hg : kc_ok g) : kd_hold g 1 kd_ty 256 kd_T256q0 := kd_mk (d0 := 0) (di := 0) hg kd_xk256 rfl rfl rfl rfl (kd_al_r kd_C256q0 trivial) (by decide) (by decide +kernel) kd_e256q0 (kd_al_r kd_S256q0 trivial)
def kd_T256q1 : kd_Tc := ([(3, 259, 259), (0, 2147483649, 2147483649)], [], kd_P256)
def kd_C256q1 : List (Nat × kd_Tc) := []
def kd_S256q1 : List kd_St := []
theorem kd_e256q1 : kd_run0 kd_ty kd_x256 2 (kd_call kd_ty kd_xt (kd_ctl kd_C256q1) 600 0) kd_T256q1 600 kd_S256q1 = true := by decide +kernel
theorem kd_h256q1 {g : kc_G} (hg : kc_ok g) : kd_hold g 1 kd_ty 256 kd_T256q1 := kd_mk (d0 := 0) (di := 0) hg kd_xk256 rfl rfl rfl rfl (kd_al_r kd_C256q1 trivial) (by decide) (by decide +kernel) kd_e256q1 (kd_al_r kd_S256q1 trivial)
def kd_T256q2 : kd_Tc := ([(3, 259, 259), (0, 2147483650, 2147483650)], [], kd_P256)
def kd_C256q2 : List (Nat × kd_Tc) := []
def kd_S256q2 : List kd_St := []
theorem kd_e256q2 : kd_run0 kd_ty kd_x256 2 (kd_call kd_ty kd_xt (kd_ctl kd_C256q2) 600 0) kd_T256q2 600 kd_S256q2 = true := by decide +kernel
theorem kd_h256q2 {g : kc_G} (hg : kc_ok g) : kd_hold g 1 kd_ty 256 kd_T256q2 := kd_mk (d0 := 0) (di := 0) hg kd_xk256 rfl rfl rfl rfl (kd_al_r kd_C256q2 trivial) (by decide) (by decide +kernel) kd_e256q2 (kd_al_r kd_S256q2 trivial)
def kd_T256 : kd_Tc := ([(3, 259, 259), (0, 2147483648, 2147483650)], [], kd_P256)
theorem kd_h256 {g : kc_G} (hg : kc_ok g) : kd_hold g 1 kd_ty 256 kd_T256 := kd_hold_arg [(3, 259, 259)] [(2147483648, 2147483648), (2147483649, 2147483649), (2147483650, 2147483650)] (by decide +kernel) (kd_al_r [(2147483648, 2147483648), (2147483649, 2147483649), (2147483650, 2147483650)] ⟨(kd_hold_le (kd_h256q0 hg) (by decide)), (kd_hold_le (kd_h256q1 hg) (by decide)), (kd_hold_le (kd_h256q2 hg) (by decide)), trivial⟩)
def kd_P246 : List kd_P := [(some (0, 2147483648, 2147484647), [], [])]
def kd_T246q0 : kd_Tc := ([(3, 259, 259), (0, 2147483648, 2147483648), (0, 2147483648, 2147483648)], [], kd_P246)
def kd_C246q0 : List (Nat × kd_Tc) := []
def kd_S246q0 : List kd_St := []
theorem kd_e246q0 : kd_run0 kd_ty kd_x246 3 (kd_call kd_ty kd_xt (kd_ctl kd_C246q0) 600 0) kd_T246q0 600 kd_S246q0 = true := by decide +kernel
theorem kd_h246q0 {g : kc_G} (hg : kc_ok g) : kd_hold g 1 kd_ty 246 kd_T246q0 := kd_mk (d0 := 0) (di := 0) hg kd_xk246 rfl rfl rfl rfl (kd_al_r kd_C246q0 trivial) (by decide) (by decide +kernel) kd_e246q0 (kd_al_r kd_S246q0 trivial)
def kd_T246q1 : kd_Tc := ([(3, 259, 259), (0, 2147483648, 2147483648), (0, 2147483649, 2147483649)], [], kd_P246)
def kd_C246q1 : List (Nat × kd_Tc) := []
def kd_S246q1 : List kd_St := []
theorem kd_e246q1 : kd_run0 kd_ty kd_x246 3 (kd_call kd_ty kd_xt (kd_ctl kd_C246q1) 600 0) kd_T246q1 600 kd_S246q1 = true := by decide +kernel
theorem kd_h246q1 {g : kc_G} (hg : kc_ok g) : kd_hold g 1 kd_ty 246 kd_T246q1 := kd_mk (d0 := 0) (di := 0) hg kd_xk246 rfl rfl rfl rfl (kd_al_r kd_C246q1 trivial) (by decide) (by decide +kernel) kd_e246q1 (kd_al_r kd_S246q1 trivial)
def kd_T246q2 : kd_Tc := ([(3, 259, 259), (0, 2147483649, 2147483649), (0, 2147483648, 2147483648)], [], kd_P246)
def kd_C246q2 : List (Nat × kd_Tc) := []
def kd_S246q2 : List kd_St := []
theorem kd_e246q2 : kd_run0 kd_ty kd_x246 3 (kd_call kd_ty kd_xt (kd_ctl kd_C246q2) 600 0) kd_T246q2 600 kd_S246q2 = true := by decide +kernel
theorem kd_h246q2 {g : kc_G} (hg : kc_ok g) : kd_hold g 1 kd_ty 246 kd_T246q2 := kd_mk (d0 := 0) (di := 0) hg kd_xk246 rfl rfl rfl rfl (kd_al_r kd_C246q2 trivial) (by decide) (by decide +kernel) kd_e246q2 (kd_al_r kd_S246q2 trivial)
def kd_T246q3 : kd_Tc := ([(3, 259, 259), (0, 2147483649, 2147483649), (0, 2147483649, 2147483649)], [], kd_P246)
def kd_C246q3 : List (Nat × kd_Tc) := []
def kd_S246q3 : List kd_St := []
theorem kd_e246q3 : kd_run0 kd_ty kd_x246 3 (kd_call kd_ty kd_xt (kd_ctl kd_C246q3) 600 0) kd_T246q3 600 kd_S246q3 = true := by decide +kernel
theorem kd_h246q3 {g : kc_G} (hg : kc_ok g) : kd_hold g 1 kd_ty 246 kd_T246q3 := kd_mk (d0 := 0) (di := 0) hg kd_xk246 rfl rfl rfl rfl (kd_al_r kd_C246q3 trivial) (by decide) (by decide +kernel) kd_e246q3 (kd_al_r kd_S246q3 trivial)
def kd_T246q4 : kd_Tc := ([(3, 259, 259), (0, 2147483650, 2147483650), (0, 2147483648, 2147483648)], [], kd_P246)
def kd_C246q4 : List (Nat × kd_Tc) := []
def kd_S246q4 : List kd_St := []
theorem kd_e246q4 : kd_run0 kd_ty kd_x246 3 (kd_call kd_ty kd_xt (kd_ctl kd_C246q4) 600 0) kd_T246q4 600 kd_S246q4 = true := by decide +kernel
theorem kd_h246q4 {g : kc_G} (hg : kc_ok g) : kd_hold g 1 kd_ty 246 kd_T246q4 := kd_mk (d0 := 0) (di := 0) hg kd_xk246 rfl rfl rfl rfl (kd_al_r kd_C246q4 trivial) (by decide) (by decide +kernel) kd_e246q4 (kd_al_r kd_S246q4 trivial)
def kd_T246q5 : kd_Tc := ([(3, 259, 259), (0, 2147483650, 2147483650), (0, 2147483649, 2147483649)], [], kd_P246)
def kd_C246q5 : List (Nat × kd_Tc) := []
def kd_S246q5 : List kd_St := []
theorem kd_e246q5 : kd_run0 kd_ty kd_x246 3 (kd_call kd_ty kd_xt (kd_ctl kd_C246q5) 600 0) kd_T246q5 600 kd_S246q5 = true := by decide +kernel
theorem kd_h246q5 {g : kc_G} (hg : kc_ok g) : kd_hold g 1 kd_ty 246 kd_T246q5 := kd_mk (d0 := 0) (di := 0) hg kd_xk246 rfl rfl rfl rfl (kd_al_r kd_C246q5 trivial) (by decide) (by decide +kernel) kd_e246q5 (kd_al_r kd_S246q5 trivial)
def kd_T246 : kd_Tc := ([(3, 259, 259), (0, 2147483648, 2147483650), (0, 2147483648, 2147483649)], [], kd_P246)
theorem kd_h246 {g : kc_G} (hg : kc_ok g) : kd_hold g 1 kd_ty 246 kd_T246 := kd_hold_arg [(3, 259, 259)] [(2147483648, 2147483648), (2147483649, 2147483649), (2147483650, 2147483650)] (by decide +kernel) (kd_al_r [(2147483648, 2147483648), (2147483649, 2147483649), (2147483650, 2147483650)] ⟨(kd_hold_arg [(3, 259, 259), (0, 2147483648, 2147483648)] [(2147483648, 2147483648), (2147483649, 2147483649)] (by decide +kernel) (kd_al_r [(2147483648, 2147483648), (2147483649, 2147483649)] ⟨(kd_hold_le (kd_h246q0 hg) (by decide)), (kd_hold_le (kd_h246q1 hg) (by decide)), trivial⟩)), (kd_hold_arg [(3, 259, 259), (0, 2147483649, 2147483649)] [(2147483648, 2147483648), (2147483649, 2147483649)] (by decide +kernel) (kd_al_r [(2147483648, 2147483648), (2147483649, 2147483649)] ⟨(kd_hold_le (kd_h246q2 hg) (by decide)), (kd_hold_le (kd_h246q3 hg) (by decide)), trivial⟩)), (kd_hold_arg [(3, 259, 259), (0, 2147483650, 2147483650)] [(2147483648, 2147483648), (2147483649, 2147483649)] (by decide +kernel) (kd_al_r [(2147483648, 2147483648), (2147483649, 2147483649)] ⟨(kd_hold_le (kd_h246q4 hg) (by decide)), (kd_hold_le (kd_h246q5 hg) (by decide)), trivial⟩)), trivial⟩)
def kd_P247 : List kd_P := [(some (0, 2147483648, 2147484647), [], [])]
def kd_T247q0 : kd_Tc := ([(3, 259, 259), (0, 2147483648, 2147483648)], [], kd_P247)
def kd_C247q0 : List (Nat × kd_Tc) := []
def kd_S247q0 : List kd_St := []
theorem kd_e247q0 : kd_run0 kd_ty kd_x247 2 (kd_call kd_ty kd_xt (kd_ctl kd_C247q0) 600 0) kd_T247q0 600 kd_S247q0 = true := by decide +kernel
theorem kd_h247q0 {g : kc_G} (hg : kc_ok g) : kd_hold g 1 kd_ty 247 kd_T247q0 := kd_mk (d0 := 0) (di := 0) hg kd_xk247 rfl rfl rfl rfl (kd_al_r kd_C247q0 trivial) (by decide) (by decide +kernel) kd_e247q0 (kd_al_r kd_S247q0 trivial)
def kd_T247q1 : kd_Tc := ([(3, 259, 259), (0, 2147483649, 2147483649)], [], kd_P247)
def kd_C247q1 : List (Nat × kd_Tc) := []
def kd_S247q1 : List kd_St := []
theorem kd_e247q1 : kd_run0 kd_ty kd_x247 2 (kd_call kd_ty kd_xt (kd_ctl kd_C247q1) 600 0) kd_T247q1 600 kd_S247q1 = true := by decide +kernel
theorem kd_h247q1 {g : kc_G} (hg : kc_ok g) : kd_hold g 1 kd_ty 247 kd_T247q1 := kd_mk (d0 := 0) (di := 0) hg kd_xk247 rfl rfl rfl rfl (kd_al_r kd_C247q1 trivial) (by decide) (by decide +kernel) kd_e247q1 (kd_al_r kd_S247q1 trivial)
def kd_T247q2 : kd_Tc := ([(3, 259, 259), (0, 2147483650, 2147483650)], [], kd_P247)
def kd_C247q2 : List (Nat × kd_Tc) := []
def kd_S247q2 : List kd_St := []
theorem kd_e247q2 : kd_run0 kd_ty kd_x247 2 (kd_call kd_ty kd_xt (kd_ctl kd_C247q2) 600 0) kd_T247q2 600 kd_S247q2 = true := by decide +kernel
theorem kd_h247q2 {g : kc_G} (hg : kc_ok g) : kd_hold g 1 kd_ty 247 kd_T247q2 := kd_mk (d0 := 0) (di := 0) hg kd_xk247 rfl rfl rfl rfl (kd_al_r kd_C247q2 trivial) (by decide) (by decide +kernel) kd_e247q2 (kd_al_r kd_S247q2 trivial)
def kd_T247 : kd_Tc := ([(3, 259, 259), (0, 2147483648, 2147483650)], [], kd_P247)
theorem kd_h247 {g : kc_G} (hg : kc_ok g) : kd_hold g 1 kd_ty 247 kd_T247 := kd_hold_arg [(3, 259, 259)] [(2147483648, 2147483648), (2147483649, 2147483649), (2147483650, 2147483650)] (by decide +kernel) (kd_al_r [(2147483648, 2147483648), (2147483649, 2147483649), (2147483650, 2147483650)] ⟨(kd_hold_le (kd_h247q0 hg) (by decide)), (kd_hold_le (kd_h247q1 hg) (by decide)), (kd_hold_le (kd_h247q2 hg) (by decide)), trivial⟩)
def kd_P15 : List kd_P := [(some (0, 2147483644, 2147483653), [], [(260, 260, 0, 0)])]
def kd_T15 : kd_Tc := ([(3, 259, 259)], [], kd_P15)
def kd_C15 : List (Nat × kd_Tc) := []
def kd_S15 : List kd_St := []
theorem kd_e15 : kd_run0 kd_ty kd_x15 1 (kd_call kd_ty kd_xt (kd_ctl kd_C15) 600 0) kd_T15 600 kd_S15 = true := by decide +kernel
theorem kd_h15 {g : kc_G} (hg : kc_ok g) : kd_hold g 1 kd_ty 15 kd_T15 := kd_mk (d0 := 0) (di := 0) hg kd_xk15 rfl rfl rfl rfl (kd_al_r kd_C15 trivial) (by decide) (by decide +kernel) kd_e15 (kd_al_r kd_S15 trivial)
def kd_P20 : List kd_P := [(some (0, 2147483646, 2147483747), [], [(260, 260, 10, 45)])]
def kd_T20 : kd_Tc := ([(3, 259, 259), (0, 0, 4294967295), (0, 0, 4294967295), (0, 0, 4294967295)], [], kd_P20)
def kd_C20 : List (Nat × kd_Tc) := []
def kd_S20 : List kd_St := []
theorem kd_e20 : kd_run0 kd_ty kd_x20 4 (kd_call kd_ty kd_xt (kd_ctl kd_C20) 600 2) kd_T20 600 kd_S20 = true := by decide +kernel
theorem kd_h20 {g : kc_G} (hg : kc_ok g) : kd_hold g 3 kd_ty 20 kd_T20 := kd_mk (d0 := 0) (di := 2) hg kd_xk20 rfl rfl rfl rfl (kd_al_r kd_C20 trivial) (by decide) (by decide +kernel) kd_e20 (kd_al_r kd_S20 trivial)
def kd_P26 : List kd_P := [(some (0, 2147483645, 2147483649), [], [(260, 260, 47, 51)])]
def kd_T26 : kd_Tc := ([(3, 259, 259), (0, 0, 4294967295)], [], kd_P26)
def kd_C26 : List (Nat × kd_Tc) := []
def kd_S26 : List kd_St := []
theorem kd_e26 : kd_run0 kd_ty kd_x26 2 (kd_call kd_ty kd_xt (kd_ctl kd_C26) 600 2) kd_T26 600 kd_S26 = true := by decide +kernel
theorem kd_h26 {g : kc_G} (hg : kc_ok g) : kd_hold g 3 kd_ty 26 kd_T26 := kd_mk (d0 := 0) (di := 2) hg kd_xk26 rfl rfl rfl rfl (kd_al_r kd_C26 trivial) (by decide) (by decide +kernel) kd_e26 (kd_al_r kd_S26 trivial)
def kd_P30 : List kd_P := [(some (0, 2147483646, 2147483657), [], [(260, 260, 52, 57)])]
def kd_T30 : kd_Tc := ([(3, 259, 259), (0, 0, 4294967295), (0, 0, 4294967295)], [], kd_P30)
def kd_C30 : List (Nat × kd_Tc) := []
def kd_S30 : List kd_St := []
theorem kd_e30 : kd_run0 kd_ty kd_x30 3 (kd_call kd_ty kd_xt (kd_ctl kd_C30) 600 2) kd_T30 600 kd_S30 = true := by decide +kernel
theorem kd_h30 {g : kc_G} (hg : kc_ok g) : kd_hold g 3 kd_ty 30 kd_T30 := kd_mk (d0 := 0) (di := 2) hg kd_xk30 rfl rfl rfl rfl (kd_al_r kd_C30 trivial) (by decide) (by decide +kernel) kd_e30 (kd_al_r kd_S30 trivial)
def kd_P34 : List kd_P := [(some (0, 2147483644, 2147483650), [], [(260, 260, 1, 1), (260, 260, 60, 74)])]
def kd_T34 : kd_Tc := ([(3, 259, 259), (0, 0, 4294967295), (0, 0, 4294967295), (0, 0, 4294967295)], [], kd_P34)
def kd_C34 : List (Nat × kd_Tc) := []
def kd_S34 : List kd_St := []
theorem kd_e34 : kd_run0 kd_ty kd_x34 5 (kd_call kd_ty kd_xt (kd_ctl kd_C34) 600 1) kd_T34 600 kd_S34 = true := by decide +kernel
theorem kd_h34 {g : kc_G} (hg : kc_ok g) : kd_hold g 2 kd_ty 34 kd_T34 := kd_mk (d0 := 0) (di := 1) hg kd_xk34 rfl rfl rfl rfl (kd_al_r kd_C34 trivial) (by decide) (by decide +kernel) kd_e34 (kd_al_r kd_S34 trivial)
def kd_P39 : List kd_P := [(some (0, 2147483646, 2147484647), [], [(260, 260, 63, 64), (260, 260, 68, 69), (260, 260, 73, 74)])]
def kd_T39 : kd_Tc := ([(3, 259, 259), (0, 0, 4294967295), (0, 0, 4294967295), (0, 0, 4294967295)], [], kd_P39)
def kd_C39 : List (Nat × kd_Tc) := []
def kd_S39 : List kd_St := []
theorem kd_e39 : kd_run0 kd_ty kd_x39 4 (kd_call kd_ty kd_xt (kd_ctl kd_C39) 600 2) kd_T39 600 kd_S39 = true := by decide +kernel
theorem kd_h39 {g : kc_G} (hg : kc_ok g) : kd_hold g 3 kd_ty 39 kd_T39 := kd_mk (d0 := 0) (di := 2) hg kd_xk39 rfl rfl rfl rfl (kd_al_r kd_C39 trivial) (by decide) (by decide +kernel) kd_e39 (kd_al_r kd_S39 trivial)
def kd_P43 : List kd_P := [(some (0, 2147483644, 2147483657), [], [(260, 260, 2, 2), (260, 260, 80, 149)])]
def kd_T43 : kd_Tc := ([(3, 259, 259), (0, 0, 4294967295), (0, 0, 4294967295), (0, 0, 4294967295), (0, 0, 4294967295)], [], kd_P43)
def kd_C43 : List (Nat × kd_Tc) := []
def kd_S43 : List kd_St := []
theorem kd_e43 : kd_run0 kd_ty kd_x43 6 (kd_call kd_ty kd_xt (kd_ctl kd_C43) 600 2) kd_T43 600 kd_S43 = true := by decide +kernel
theorem kd_h43 {g : kc_G} (hg : kc_ok g) : kd_hold g 3 kd_ty 43 kd_T43 := kd_mk (d0 := 0) (di := 2) hg kd_xk43 rfl rfl rfl rfl (kd_al_r kd_C43 trivial) (by decide) (by decide +kernel) kd_e43 (kd_al_r kd_S43 trivial)
def kd_P47 : List kd_P := [(some (0, 2147483646, 2147483748), [], [(260, 260, 84, 84), (260, 260, 91, 91), (260, 260, 98, 98), (260, 260, 105, 105), (260, 260, 112, 112), (260, 260, 119, 119), (260, 260, 126, 126), (260, 260, 133, 133), (260, 260, 140, 140), (260, 260, 147, 147)])]
def kd_T47 : kd_Tc := ([(3, 259, 259), (0, 0, 4294967295), (0, 0, 4294967295)], [], kd_P47)
def kd_C47 : List (Nat × kd_Tc) := []
def kd_S47 : List kd_St := []
theorem kd_e47 : kd_run0 kd_ty kd_x47 3 (kd_call kd_ty kd_xt (kd_ctl kd_C47) 600 2) kd_T47 600 kd_S47 = true := by decide +kernel
theorem kd_h47 {g : kc_G} (hg : kc_ok g) : kd_hold g 3 kd_ty 47 kd_T47 := kd_mk (d0 := 0) (di := 2) hg kd_xk47 rfl rfl rfl rfl (kd_al_r kd_C47 trivial) (by decide) (by decide +kernel) kd_e47 (kd_al_r kd_S47 trivial)
def kd_P50 : List kd_P := [(some (0, 2147483646, 2147483657), [], [(260, 260, 85, 85), (260, 260, 92, 92), (260, 260, 99, 99), (260, 260, 106, 106), (260, 260, 113, 113), (260, 260, 120, 120), (260, 260, 127, 127), (260, 260, 134, 134), (260, 260, 141, 141), (260, 260, 148, 148)])]
def kd_T50 : kd_Tc := ([(3, 259, 259), (0, 0, 4294967295), (0, 0, 4294967295)], [], kd_P50)
def kd_C50 : List (Nat × kd_Tc) := []
def kd_S50 : List kd_St := []
theorem kd_e50 : kd_run0 kd_ty kd_x50 3 (kd_call kd_ty kd_xt (kd_ctl kd_C50) 600 2) kd_T50 600 kd_S50 = true := by decide +kernel
theorem kd_h50 {g : kc_G} (hg : kc_ok g) : kd_hold g 3 kd_ty 50 kd_T50 := kd_mk (d0 := 0) (di := 2) hg kd_xk50 rfl rfl rfl rfl (kd_al_r kd_C50 trivial) (by decide) (by decide +kernel) kd_e50 (kd_al_r kd_S50 trivial)
def kd_P53 : List kd_P := [(some (0, 2147483646, 2147483668), [], [(260, 260, 4, 5)])]
def kd_T53 : kd_Tc := ([(3, 259, 259), (0, 0, 4294967295), (0, 0, 4294967295)], [], kd_P53)
def kd_C53 : List (Nat × kd_Tc) := []
def kd_S53 : List kd_St := []
theorem kd_e53 : kd_run0 kd_ty kd_x53 3 (kd_call kd_ty kd_xt (kd_ctl kd_C53) 600 1) kd_T53 600 kd_S53 = true := by decide +kernel
theorem kd_h53 {g : kc_G} (hg : kc_ok g) : kd_hold g 2 kd_ty 53 kd_T53 := kd_mk (d0 := 0) (di := 1) hg kd_xk53 rfl rfl rfl rfl (kd_al_r kd_C53 trivial) (by decide) (by decide +kernel) kd_e53 (kd_al_r kd_S53 trivial)
def kd_P59 : List kd_P := [(some (0, 2147483646, 2147483888), [], [(260, 260, 160, 161)])]
def kd_T59 : kd_Tc := ([(3, 259, 259), (0, 0, 4294967295)], [], kd_P59)
def kd_C59 : List (Nat × kd_Tc) := []
def kd_S59 : List kd_St := []
theorem kd_e59 : kd_run0 kd_ty kd_x59 2 (kd_call kd_ty kd_xt (kd_ctl kd_C59) 600 2) kd_T59 600 kd_S59 = true := by decide +kernel
theorem kd_h59 {g : kc_G} (hg : kc_ok g) : kd_hold g 3 kd_ty 59 kd_T59 := kd_mk (d0 := 0) (di := 2) hg kd_xk59 rfl rfl rfl rfl (kd_al_r kd_C59 trivial) (by decide) (by decide +kernel) kd_e59 (kd_al_r kd_S59 trivial)
def kd_P92 : List kd_P := [(some (0, 2147483638, 2147483653), [], [(260, 260, 86, 86), (260, 260, 93, 93), (260, 260, 100, 100), (260, 260, 107, 107), (260, 260, 114, 114), (260, 260, 121, 121), (260, 260, 128, 128), (260, 260, 135, 135), (260, 260, 142, 142), (260, 260, 149, 149)])]
def kd_T92 : kd_Tc := ([(3, 259, 259), (0, 0, 4294967295), (0, 0, 4294967295), (0, 0, 4294967295)], [], kd_P92)
def kd_C92 : List (Nat × kd_Tc) := []
def kd_S92 : List kd_St := []
theorem kd_e92 : kd_run0 kd_ty kd_x92 4 (kd_call kd_ty kd_xt (kd_ctl kd_C92) 600 3) kd_T92 600 kd_S92 = true := by decide +kernel
theorem kd_h92 {g : kc_G} (hg : kc_ok g) : kd_hold g 4 kd_ty 92 kd_T92 := kd_mk (d0 := 0) (di := 3) hg kd_xk92 rfl rfl rfl rfl (kd_al_r kd_C92 trivial) (by decide) (by decide +kernel) kd_e92 (kd_al_r kd_S92 trivial)
def kd_P96 : List kd_P := [(some (0, 2147483648, 2147483653), [], [(260, 260, 3, 3)])]
def kd_T96 : kd_Tc := ([(3, 259, 259)], [], kd_P96)
def kd_C96 : List (Nat × kd_Tc) := []
def kd_S96 : List kd_St := []
theorem kd_e96 : kd_run0 kd_ty kd_x96 1 (kd_call kd_ty kd_xt (kd_ctl kd_C96) 600 1) kd_T96 600 kd_S96 = true := by decide +kernel
theorem kd_h96 {g : kc_G} (hg : kc_ok g) : kd_hold g 2 kd_ty 96 kd_T96 := kd_mk (d0 := 0) (di := 1) hg kd_xk96 rfl rfl rfl rfl (kd_al_r kd_C96 trivial) (by decide) (by decide +kernel) kd_e96 (kd_al_r kd_S96 trivial)
def kd_P163 : List kd_P := [(some (0, 2147483646, 2147483888), [], [])]
def kd_T163 : kd_Tc := ([(3, 259, 259), (0, 0, 4294967295)], [], kd_P163)
def kd_C163 : List (Nat × kd_Tc) := []
def kd_S163 : List kd_St := []
theorem kd_e163 : kd_run0 kd_ty kd_x163 2 (kd_call kd_ty kd_xt (kd_ctl kd_C163) 600 1) kd_T163 600 kd_S163 = true := by decide +kernel
theorem kd_h163 {g : kc_G} (hg : kc_ok g) : kd_hold g 2 kd_ty 163 kd_T163 := kd_mk (d0 := 0) (di := 1) hg kd_xk163 rfl rfl rfl rfl (kd_al_r kd_C163 trivial) (by decide) (by decide +kernel) kd_e163 (kd_al_r kd_S163 trivial)
def kd_P156 : List kd_P := [(some (2, 0, 18446744073709551615), [], [])]
def kd_T156 : kd_Tc := ([(3, 259, 259), (0, 0, 4294967295)], [], kd_P156)
def kd_C156 : List (Nat × kd_Tc) := []
def kd_S156 : List kd_St := []
theorem kd_e156 : kd_run0 kd_ty kd_x156 2 (kd_call kd_ty kd_xt (kd_ctl kd_C156) 600 0) kd_T156 600 kd_S156 = true := by decide +kernel
theorem kd_h156 {g : kc_G} (hg : kc_ok g) : kd_hold g 1 kd_ty 156 kd_T156 := kd_mk (d0 := 0) (di := 0) hg kd_xk156 rfl rfl rfl rfl (kd_al_r kd_C156 trivial) (by decide) (by decide +kernel) kd_e156 (kd_al_r kd_S156 trivial)
