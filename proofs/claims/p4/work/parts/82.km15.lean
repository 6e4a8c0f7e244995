/-! ===== contracts, km 15 ===== -/
def kd_P234 : List kd_P := [(some (0, 2147483648, 2147483652), [], [])]
def kd_T234 : kd_Tc := ([(0, 0, 4294967295)], [], kd_P234)
def kd_C234 : List (Nat × kd_Tc) := []
def kd_S234 : List kd_St := []
theorem kd_e234 : kd_run0 kd_ty kd_x234 1 (kd_call kd_ty kd_xt (kd_ctl kd_C234) 600 0) kd_T234 600 kd_S234 = true := by decide +kernel
theorem kd_h234 {g : kc_G} (hg : kc_ok g) : kd_hold g 1 kd_ty 234 kd_T234 := kd_mk (d0 := 0) (di := 0) hg kd_xk234 rfl rfl rfl rfl (kd_al_r kd_C234 trivial) (by decide) (by decide +kernel) kd_e234 (kd_al_r kd_S234 trivial)
def kd_P233 : List kd_P := [(some (0, 2147483649, 2147483674), [], [])]
def kd_T233 : kd_Tc := ([(2, 0, 18446744073709551615)], [], kd_P233)
def kd_C233 : List (Nat × kd_Tc) := []
def kd_S233 : List kd_St := []
theorem kd_e233 : kd_run0 kd_ty kd_x233 4 (kd_call kd_ty kd_xt (kd_ctl kd_C233) 600 0) kd_T233 600 kd_S233 = true := by decide +kernel
theorem kd_h233 {g : kc_G} (hg : kc_ok g) : kd_hold g 1 kd_ty 233 kd_T233 := kd_mk (d0 := 0) (di := 0) hg kd_xk233 rfl rfl rfl rfl (kd_al_r kd_C233 trivial) (by decide) (by decide +kernel) kd_e233 (kd_al_r kd_S233 trivial)
def kd_P235 : List kd_P := [(some (0, 2147483644, 2147484647), [], [(260, 260, 0, 2), (260, 260, 10, 45), (260, 260, 47, 57), (260, 260, 60, 74), (260, 260, 80, 149)])]
def kd_T235 : kd_Tc := ([(3, 259, 259), (0, 2147483648, 2147483887)], [], kd_P235)
def kd_C235 : List (Nat × kd_Tc) := [(236, kd_T236), (50, kd_T50), (47, kd_T47), (43, kd_T43), (39, kd_T39), (34, kd_T34), (30, kd_T30), (26, kd_T26), (20, kd_T20), (15, kd_T15)]
def kd_S235 : List kd_St := []
theorem kd_e235 : kd_run0 kd_ty kd_x235 5 (kd_call kd_ty kd_xt (kd_ctl kd_C235) 600 0) kd_T235 600 kd_S235 = true := by decide +kernel
theorem kd_h235 {g : kc_G} (hg : kc_ok g) : kd_hold g 4 kd_ty 235 kd_T235 := kd_mk (d0 := 3) (di := 0) hg kd_xk235 rfl rfl rfl rfl (kd_al_r kd_C235 ⟨kd_hold_le (kd_h236 hg) (by decide), kd_hold_le (kd_h50 hg) (by decide), kd_hold_le (kd_h47 hg) (by decide), kd_hold_le (kd_h43 hg) (by decide), kd_hold_le (kd_h39 hg) (by decide), kd_hold_le (kd_h34 hg) (by decide), kd_hold_le (kd_h30 hg) (by decide), kd_hold_le (kd_h26 hg) (by decide), kd_hold_le (kd_h20 hg) (by decide), kd_hold_le (kd_h15 hg) (by decide), trivial⟩) (by decide) (by decide +kernel) kd_e235 (kd_al_r kd_S235 trivial)
