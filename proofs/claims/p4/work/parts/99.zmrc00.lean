/-! ===== contracts, zmrc 0 ===== -/
def kd_P55ml : List kd_P := [(some (0, 2147483646, 2147483646), [], [])]
def kd_T55ml : kd_Tc := ([(3, 1, 1), (0, 2147483649, 2147483649), (2, 0, 18446744073709551615), (0, 0, 2147483648)], [], kd_P55ml)
def kd_C55ml : List (Nat × kd_Tc) := []
def kd_S55ml : List kd_St := []
theorem kd_e55ml : kd_run0 kd_ty kd_x55 6 (kd_call kd_ty kd_xt (kd_ctl kd_C55ml) 600 1) kd_T55ml 600 kd_S55ml = true := by decide +kernel
theorem kd_h55ml {g : kc_G} (hg : kc_ok g) : kd_hold g 2 kd_ty 55 kd_T55ml := kd_mk (d0 := 0) (di := 1) hg kd_xk55 rfl rfl rfl rfl (kd_al_r kd_C55ml trivial) (by decide) (by decide +kernel) kd_e55ml (kd_al_r kd_S55ml trivial)
def kd_P54ml : List kd_P := [(some (0, 2147483646, 2147483646), [], [])]
def kd_T54ml : kd_Tc := ([(3, 0, 0), (0, 2147483649, 2147483649), (2, 0, 18446744073709551615), (0, 0, 2147483648)], [], kd_P54ml)
def kd_C54ml : List (Nat × kd_Tc) := [(55, kd_T55ml)]
def kd_S54ml : List kd_St := []
theorem kd_e54ml : kd_run0 kd_ty kd_x54 5 (kd_call kd_ty kd_xt (kd_ctl kd_C54ml) 600 0) kd_T54ml 600 kd_S54ml = true := by decide +kernel
theorem kd_h54ml {g : kc_G} (hg : kc_ok g) : kd_hold g 3 kd_ty 54 kd_T54ml := kd_mk (d0 := 2) (di := 0) hg kd_xk54 rfl rfl rfl rfl (kd_al_r kd_C54ml ⟨kd_hold_le (kd_h55ml hg) (by decide), trivial⟩) (by decide) (by decide +kernel) kd_e54ml (kd_al_r kd_S54ml trivial)
def kd_P55mh : List kd_P := [(some (0, 2147483646, 2147483646), [], [])]
def kd_T55mh : kd_Tc := ([(3, 1, 1), (0, 2147483649, 2147483649), (2, 0, 18446744073709551615), (0, 2147483657, 4294967295)], [], kd_P55mh)
def kd_C55mh : List (Nat × kd_Tc) := []
def kd_S55mh : List kd_St := []
theorem kd_e55mh : kd_run0 kd_ty kd_x55 6 (kd_call kd_ty kd_xt (kd_ctl kd_C55mh) 600 1) kd_T55mh 600 kd_S55mh = true := by decide +kernel
theorem kd_h55mh {g : kc_G} (hg : kc_ok g) : kd_hold g 2 kd_ty 55 kd_T55mh := kd_mk (d0 := 0) (di := 1) hg kd_xk55 rfl rfl rfl rfl (kd_al_r kd_C55mh trivial) (by decide) (by decide +kernel) kd_e55mh (kd_al_r kd_S55mh trivial)
def kd_P54mh : List kd_P := [(some (0, 2147483646, 2147483646), [], [])]
def kd_T54mh : kd_Tc := ([(3, 0, 0), (0, 2147483649, 2147483649), (2, 0, 18446744073709551615), (0, 2147483657, 4294967295)], [], kd_P54mh)
def kd_C54mh : List (Nat × kd_Tc) := [(55, kd_T55mh)]
def kd_S54mh : List kd_St := []
theorem kd_e54mh : kd_run0 kd_ty kd_x54 5 (kd_call kd_ty kd_xt (kd_ctl kd_C54mh) 600 0) kd_T54mh 600 kd_S54mh = true := by decide +kernel
theorem kd_h54mh {g : kc_G} (hg : kc_ok g) : kd_hold g 3 kd_ty 54 kd_T54mh := kd_mk (d0 := 2) (di := 0) hg kd_xk54 rfl rfl rfl rfl (kd_al_r kd_C54mh ⟨kd_hold_le (kd_h55mh hg) (by decide), trivial⟩) (by decide) (by decide +kernel) kd_e54mh (kd_al_r kd_S54mh trivial)
