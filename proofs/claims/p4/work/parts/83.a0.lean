/-! ===== contracts by hand, under the plan's names ===== -/
def kd_T144 : kd_Tc := ([kd_tJ, kd_tJ], [], [(some kd_tJ, [], [])])
theorem kd_h144 {g : kc_G} (hg : kc_ok g) : kd_hold g 1 kd_ty 144 kd_T144 := kf_h144 hg
def kd_T143 : kd_Tc := ([(3, 0, 0), kd_tJ, kd_tJ], [], [(none, [], [(0, 0, 11, 12)])])
theorem kd_h143 {g : kc_G} (hg : kc_ok g) : kd_hold g 2 kd_ty 143 kd_T143 := kf_h143 hg
