/-! ===== contracts, zkm 0 ===== -/
def kd_P94a : List kd_P := [(some (0, 2147483646, 2147483646), [], [])]
def kd_T94a : kd_Tc := ([(3, 259, 259), (0, 0, 2147483648)], [], kd_P94a)
def kd_C94a : List (Nat × kd_Tc) := []
def kd_S94a : List kd_St := []
theorem kd_e94a : kd_run0 kd_ty kd_x94 2 (kd_call kd_ty kd_xt (kd_ctl kd_C94a) 600 2) kd_T94a 600 kd_S94a = true := by decide +kernel
theorem kd_h94a {g : kc_G} (hg : kc_ok g) : kd_hold g 3 kd_ty 94 kd_T94a := kd_mk (d0 := 0) (di := 2) hg kd_xk94 rfl rfl rfl rfl (kd_al_r kd_C94a trivial) (by decide) (by decide +kernel) kd_e94a (kd_al_r kd_S94a trivial)
def kd_P94b : List kd_P := [(some (0, 2147483646, 2147483646), [], [])]
def kd_T94b : kd_Tc := ([(3, 259, 259), (0, 2147483654, 4294967295)], [], kd_P94b)
def kd_C94b : List (Nat × kd_Tc) := []
def kd_S94b : List kd_St := []
theorem kd_e94b : kd_run0 kd_ty kd_x94 2 (kd_call kd_ty kd_xt (kd_ctl kd_C94b) 600 2) kd_T94b 600 kd_S94b = true := by decide +kernel
theorem kd_h94b {g : kc_G} (hg : kc_ok g) : kd_hold g 3 kd_ty 94 kd_T94b := kd_mk (d0 := 0) (di := 2) hg kd_xk94 rfl rfl rfl rfl (kd_al_r kd_C94b trivial) (by decide) (by decide +kernel) kd_e94b (kd_al_r kd_S94b trivial)
def kd_P158a : List kd_P := [(some (0, 2147483646, 2147483646), [], [])]
def kd_T158a : kd_Tc := ([(3, 259, 259), (0, 0, 2147483647)], [], kd_P158a)
def kd_C158a : List (Nat × kd_Tc) := []
def kd_S158a : List kd_St := []
theorem kd_e158a : kd_run0 kd_ty kd_x158 3 (kd_call kd_ty kd_xt (kd_ctl kd_C158a) 600 1) kd_T158a 600 kd_S158a = true := by decide +kernel
theorem kd_h158a {g : kc_G} (hg : kc_ok g) : kd_hold g 2 kd_ty 158 kd_T158a := kd_mk (d0 := 0) (di := 1) hg kd_xk158 rfl rfl rfl rfl (kd_al_r kd_C158a trivial) (by decide) (by decide +kernel) kd_e158a (kd_al_r kd_S158a trivial)
def kd_P158b : List kd_P := [(some (0, 2147483646, 2147483646), [], [])]
def kd_T158b : kd_Tc := ([(3, 259, 259), (0, 2147483650, 4294967295)], [], kd_P158b)
def kd_C158b : List (Nat × kd_Tc) := []
def kd_S158b : List kd_St := []
theorem kd_e158b : kd_run0 kd_ty kd_x158 3 (kd_call kd_ty kd_xt (kd_ctl kd_C158b) 600 1) kd_T158b 600 kd_S158b = true := by decide +kernel
theorem kd_h158b {g : kc_G} (hg : kc_ok g) : kd_hold g 2 kd_ty 158 kd_T158b := kd_mk (d0 := 0) (di := 1) hg kd_xk158 rfl rfl rfl rfl (kd_al_r kd_C158b trivial) (by decide) (by decide +kernel) kd_e158b (kd_al_r kd_S158b trivial)
def kd_P160a : List kd_P := [(some (0, 2147483646, 2147483646), [], [])]
def kd_T160a : kd_Tc := ([(3, 259, 259), (0, 0, 2147483647)], [], kd_P160a)
def kd_C160a : List (Nat × kd_Tc) := []
def kd_S160a : List kd_St := []
theorem kd_e160a : kd_run0 kd_ty kd_x160 3 (kd_call kd_ty kd_xt (kd_ctl kd_C160a) 600 1) kd_T160a 600 kd_S160a = true := by decide +kernel
theorem kd_h160a {g : kc_G} (hg : kc_ok g) : kd_hold g 2 kd_ty 160 kd_T160a := kd_mk (d0 := 0) (di := 1) hg kd_xk160 rfl rfl rfl rfl (kd_al_r kd_C160a trivial) (by decide) (by decide +kernel) kd_e160a (kd_al_r kd_S160a trivial)
def kd_P160b : List kd_P := [(some (0, 2147483646, 2147483646), [], [])]
def kd_T160b : kd_Tc := ([(3, 259, 259), (0, 2147483650, 4294967295)], [], kd_P160b)
def kd_C160b : List (Nat × kd_Tc) := []
def kd_S160b : List kd_St := []
theorem kd_e160b : kd_run0 kd_ty kd_x160 3 (kd_call kd_ty kd_xt (kd_ctl kd_C160b) 600 1) kd_T160b 600 kd_S160b = true := by decide +kernel
theorem kd_h160b {g : kc_G} (hg : kc_ok g) : kd_hold g 2 kd_ty 160 kd_T160b := kd_mk (d0 := 0) (di := 1) hg kd_xk160 rfl rfl rfl rfl (kd_al_r kd_C160b trivial) (by decide) (by decide +kernel) kd_e160b (kd_al_r kd_S160b trivial)
