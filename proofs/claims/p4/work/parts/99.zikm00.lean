/-! ===== contracts, zikm 0 ===== -/
def kd_P56th : List kd_P := [(some (0, 2147483646, 2147483646), [], [])]
def kd_T56th : kd_Tc := ([(3, 259, 259), (0, 2147483650, 4294967295), (2, 0, 18446744073709551615), (0, 0, 4294967295)], [], kd_P56th)
def kd_C56th : List (Nat × kd_Tc) := []
def kd_S56th : List kd_St := []
theorem kd_e56th : kd_run0 kd_ty kd_x56 6 (kd_call kd_ty kd_xt (kd_ctl kd_C56th) 600 2) kd_T56th 600 kd_S56th = true := by decide +kernel
theorem kd_h56th {g : kc_G} (hg : kc_ok g) : kd_hold g 3 kd_ty 56 kd_T56th := kd_mk (d0 := 0) (di := 2) hg kd_xk56 rfl rfl rfl rfl (kd_al_r kd_C56th trivial) (by decide) (by decide +kernel) kd_e56th (kd_al_r kd_S56th trivial)
def kd_P56tl : List kd_P := [(some (0, 2147483646, 2147483646), [], [])]
def kd_T56tl : kd_Tc := ([(3, 259, 259), (0, 0, 2147483647), (2, 0, 18446744073709551615), (0, 0, 4294967295)], [], kd_P56tl)
def kd_C56tl : List (Nat × kd_Tc) := []
def kd_S56tl : List kd_St := []
theorem kd_e56tl : kd_run0 kd_ty kd_x56 6 (kd_call kd_ty kd_xt (kd_ctl kd_C56tl) 600 2) kd_T56tl 600 kd_S56tl = true := by decide +kernel
theorem kd_h56tl {g : kc_G} (hg : kc_ok g) : kd_hold g 3 kd_ty 56 kd_T56tl := kd_mk (d0 := 0) (di := 2) hg kd_xk56 rfl rfl rfl rfl (kd_al_r kd_C56tl trivial) (by decide) (by decide +kernel) kd_e56tl (kd_al_r kd_S56tl trivial)
def kd_P56nl : List kd_P := [(some (0, 2147483646, 2147483646), [], [])]
def kd_T56nl : kd_Tc := ([(3, 259, 259), (0, 2147483648, 2147483648), (2, 0, 18446744073709551615), (0, 0, 2147483648)], [], kd_P56nl)
def kd_C56nl : List (Nat × kd_Tc) := []
def kd_S56nl : List kd_St := []
theorem kd_e56nl : kd_run0 kd_ty kd_x56 6 (kd_call kd_ty kd_xt (kd_ctl kd_C56nl) 600 2) kd_T56nl 600 kd_S56nl = true := by decide +kernel
theorem kd_h56nl {g : kc_G} (hg : kc_ok g) : kd_hold g 3 kd_ty 56 kd_T56nl := kd_mk (d0 := 0) (di := 2) hg kd_xk56 rfl rfl rfl rfl (kd_al_r kd_C56nl trivial) (by decide) (by decide +kernel) kd_e56nl (kd_al_r kd_S56nl trivial)
def kd_P56nh : List kd_P := [(some (0, 2147483646, 2147483646), [], [])]
def kd_T56nh : kd_Tc := ([(3, 259, 259), (0, 2147483648, 2147483648), (2, 0, 18446744073709551615), (0, 2147483657, 4294967295)], [], kd_P56nh)
def kd_C56nh : List (Nat × kd_Tc) := []
def kd_S56nh : List kd_St := []
theorem kd_e56nh : kd_run0 kd_ty kd_x56 6 (kd_call kd_ty kd_xt (kd_ctl kd_C56nh) 600 2) kd_T56nh 600 kd_S56nh = true := by decide +kernel
theorem kd_h56nh {g : kc_G} (hg : kc_ok g) : kd_hold g 3 kd_ty 56 kd_T56nh := kd_mk (d0 := 0) (di := 2) hg kd_xk56 rfl rfl rfl rfl (kd_al_r kd_C56nh trivial) (by decide) (by decide +kernel) kd_e56nh (kd_al_r kd_S56nh trivial)
def kd_P59t0 : List kd_P := [(some (0, 2147483648, 2147483888), [(260, 160, (0, 2147483648, 2147483648))], [(260, 260, 160, 160)])]
def kd_T59t0 : kd_Tc := ([(3, 259, 259), (0, 2147483648, 2147483648)], [], kd_P59t0)
def kd_C59t0 : List (Nat × kd_Tc) := []
def kd_S59t0 : List kd_St := []
theorem kd_e59t0 : kd_run0 kd_ty kd_x59 2 (kd_call kd_ty kd_xt (kd_ctl kd_C59t0) 600 2) kd_T59t0 600 kd_S59t0 = true := by decide +kernel
theorem kd_h59t0 {g : kc_G} (hg : kc_ok g) : kd_hold g 3 kd_ty 59 kd_T59t0 := kd_mk (d0 := 0) (di := 2) hg kd_xk59 rfl rfl rfl rfl (kd_al_r kd_C59t0 trivial) (by decide) (by decide +kernel) kd_e59t0 (kd_al_r kd_S59t0 trivial)
def kd_P59t1 : List kd_P := [(some (0, 2147483648, 2147483888), [], [(260, 260, 161, 161)])]
def kd_T59t1 : kd_Tc := ([(3, 259, 259), (0, 2147483649, 2147483649)], [], kd_P59t1)
def kd_C59t1 : List (Nat × kd_Tc) := []
def kd_S59t1 : List kd_St := []
theorem kd_e59t1 : kd_run0 kd_ty kd_x59 2 (kd_call kd_ty kd_xt (kd_ctl kd_C59t1) 600 2) kd_T59t1 600 kd_S59t1 = true := by decide +kernel
theorem kd_h59t1 {g : kc_G} (hg : kc_ok g) : kd_hold g 3 kd_ty 59 kd_T59t1 := kd_mk (d0 := 0) (di := 2) hg kd_xk59 rfl rfl rfl rfl (kd_al_r kd_C59t1 trivial) (by decide) (by decide +kernel) kd_e59t1 (kd_al_r kd_S59t1 trivial)
def kd_P59th : List kd_P := [(some (0, 2147483646, 2147483646), [], [])]
def kd_T59th : kd_Tc := ([(3, 259, 259), (0, 2147483650, 4294967295)], [], kd_P59th)
def kd_C59th : List (Nat × kd_Tc) := []
def kd_S59th : List kd_St := []
theorem kd_e59th : kd_run0 kd_ty kd_x59 2 (kd_call kd_ty kd_xt (kd_ctl kd_C59th) 600 2) kd_T59th 600 kd_S59th = true := by decide +kernel
theorem kd_h59th {g : kc_G} (hg : kc_ok g) : kd_hold g 3 kd_ty 59 kd_T59th := kd_mk (d0 := 0) (di := 2) hg kd_xk59 rfl rfl rfl rfl (kd_al_r kd_C59th trivial) (by decide) (by decide +kernel) kd_e59th (kd_al_r kd_S59th trivial)
def kd_P59tl : List kd_P := [(some (0, 2147483646, 2147483646), [], [])]
def kd_T59tl : kd_Tc := ([(3, 259, 259), (0, 0, 2147483647)], [], kd_P59tl)
def kd_C59tl : List (Nat × kd_Tc) := []
def kd_S59tl : List kd_St := []
theorem kd_e59tl : kd_run0 kd_ty kd_x59 2 (kd_call kd_ty kd_xt (kd_ctl kd_C59tl) 600 2) kd_T59tl 600 kd_S59tl = true := by decide +kernel
theorem kd_h59tl {g : kc_G} (hg : kc_ok g) : kd_hold g 3 kd_ty 59 kd_T59tl := kd_mk (d0 := 0) (di := 2) hg kd_xk59 rfl rfl rfl rfl (kd_al_r kd_C59tl trivial) (by decide) (by decide +kernel) kd_e59tl (kd_al_r kd_S59tl trivial)
