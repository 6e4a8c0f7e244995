/-! ===== contracts, zmkm 0 ===== -/
def kd_P96k : List kd_P := [(some (0, 2147483648, 2147483653), [(260, 3, (0, 2147483648, 2147483648))], [(260, 260, 3, 3)])]
def kd_T96k : kd_Tc := ([(3, 259, 259)], [], kd_P96k)
def kd_C96k : List (Nat × kd_Tc) := []
def kd_S96k : List kd_St := []
theorem kd_e96k : kd_run0 kd_ty kd_x96 1 (kd_call kd_ty kd_xt (kd_ctl kd_C96k) 600 1) kd_T96k 600 kd_S96k = true := by decide +kernel
theorem kd_h96k {g : kc_G} (hg : kc_ok g) : kd_hold g 2 kd_ty 96 kd_T96k := kd_mk (d0 := 0) (di := 1) hg kd_xk96 rfl rfl rfl rfl (kd_al_r kd_C96k trivial) (by decide) (by decide +kernel) kd_e96k (kd_al_r kd_S96k trivial)
