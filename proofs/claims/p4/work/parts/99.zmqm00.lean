/-! ===== contracts, zmqm 0 ===== -/
def kd_P56ml : List kd_P := [(some (0, 2147483646, 2147483646), [], [])]
def kd_T56ml : kd_Tc := ([(3, 259, 259), (0, 2147483649, 2147483649), (2, 0, 18446744073709551615), (0, 0, 2147483648)], [], kd_P56ml)
def kd_C56ml : List (Nat × kd_Tc) := []
def kd_S56ml : List kd_St := []
theorem kd_e56ml : kd_run0 kd_ty kd_x56 6 (kd_call kd_ty kd_xt (kd_ctl kd_C56ml) 600 2) kd_T56ml 600 kd_S56ml = true := by decide +kernel
theorem kd_h56ml {g : kc_G} (hg : kc_ok g) : kd_hold g 3 kd_ty 56 kd_T56ml := kd_mk (d0 := 0) (di := 2) hg kd_xk56 rfl rfl rfl rfl (kd_al_r kd_C56ml trivial) (by decide) (by decide +kernel) kd_e56ml (kd_al_r kd_S56ml trivial)
def kd_P56mh : List kd_P := [(some (0, 2147483646, 2147483646), [], [])]
def kd_T56mh : kd_Tc := ([(3, 259, 259), (0, 2147483649, 2147483649), (2, 0, 18446744073709551615), (0, 2147483657, 4294967295)], [], kd_P56mh)
def kd_C56mh : List (Nat × kd_Tc) := []
def kd_S56mh : List kd_St := []
theorem kd_e56mh : kd_run0 kd_ty kd_x56 6 (kd_call kd_ty kd_xt (kd_ctl kd_C56mh) 600 2) kd_T56mh 600 kd_S56mh = true := by decide +kernel
theorem kd_h56mh {g : kc_G} (hg : kc_ok g) : kd_hold g 3 kd_ty 56 kd_T56mh := kd_mk (d0 := 0) (di := 2) hg kd_xk56 rfl rfl rfl rfl (kd_al_r kd_C56mh trivial) (by decide) (by decide +kernel) kd_e56mh (kd_al_r kd_S56mh trivial)
