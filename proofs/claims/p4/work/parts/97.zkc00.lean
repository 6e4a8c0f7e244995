/-! ===== contracts, zkc 0 ===== -/
def kd_P135 : List kd_P := [(some (0, 0, 4294967295), [], [(254, 254, 0, 19), (253, 253, 2, 2)])]
def kd_T135 : kd_Tc := ([(3, 253, 253)], [], kd_P135)
def kd_C135 : List (Nat × kd_Tc) := [(216, kd_T216), (214, kd_T214)]
def kd_S135_0 : kd_St := (4, [], 0, [(3, 253, 253), (0, 2147483648, 2147483648), (0, 2147483648, 2147483648), (9, 0, 0)], [], [], [(0, (0, 5, 5)), (0, (0, 2147483648, 2147483648))])
def kd_S135_1 : kd_St := (4, [(2147483649, 2147483651), (0, 2148483647), (0, 2148483647)], 3, [(3, 253, 253), (1, 0, 2147483648), (0, 2147483649, 2147483649), (1, 1, 2147483648)], [(1, 1, (1, 2, 2147483648))], [(254, 254, 0, 19), (253, 253, 2, 2)], [(0, (0, 5, 5)), (0, (0, 2147483649, 2147483649))])
def kd_S135_2 : kd_St := (4, [(2147483649, 2147483651), (0, 2148483647), (0, 4294967295)], 3, [(3, 253, 253), (1, 0, 2147483648), (0, 2147483650, 2147483650), (1, 1, 2147483648)], [(1, 1, (1, 2, 2147483648))], [(254, 254, 0, 19), (253, 253, 2, 2)], [(0, (0, 5, 5)), (0, (0, 2147483650, 2147483650))])
def kd_S135_3 : kd_St := (4, [(2147483650, 2147483651), (0, 2148483647), (0, 4294967295)], 3, [(3, 253, 253), (1, 0, 2147483648), (0, 2147483651, 2147483651), (1, 1, 2147483648)], [(1, 1, (1, 2, 2147483648))], [(254, 254, 0, 19), (253, 253, 2, 2)], [(0, (0, 5, 5)), (0, (0, 2147483651, 2147483651))])
def kd_S135_4 : kd_St := (4, [(2147483650, 2147483651), (0, 2148483647), (0, 4294967295)], 3, [(3, 253, 253), (1, 0, 2147483648), (0, 2147483652, 2147483652), (1, 1, 2147483648)], [(1, 1, (1, 2, 2147483648))], [(254, 254, 0, 19), (253, 253, 2, 2)], [(0, (0, 5, 5)), (0, (0, 2147483652, 2147483652))])
def kd_S135_5 : kd_St := (4, [(0, 2148483647), (0, 4294967295)], 2, [(3, 253, 253), (1, 0, 2147483648), (0, 2147483653, 2147483653), (1, 1, 2147483648)], [(1, 1, (0, 2147483651, 2147483651))], [(254, 254, 0, 19), (253, 253, 2, 2)], [(0, (0, 5, 5)), (0, (0, 2147483653, 2147483653))])
def kd_S135_6 : kd_St := (4, [(0, 2148483647), (0, 4294967295)], 2, [(3, 253, 253), (1, 0, 2147483648), (0, 2147483654, 2147483654), (1, 1, 2147483648)], [(1, 1, (0, 2147483651, 2147483651))], [(254, 254, 0, 19), (253, 253, 2, 2)], [(0, (0, 5, 5)), (0, (0, 2147483654, 2147483654))])
def kd_S135 : List kd_St := [kd_S135_0, kd_S135_1, kd_S135_2, kd_S135_3, kd_S135_4, kd_S135_5, kd_S135_6]
theorem kd_e135 : kd_run0 kd_ty kd_x135 4 (kd_call kd_ty kd_xt (kd_ctl kd_C135) 600 0) kd_T135 600 kd_S135 = true := by decide +kernel
theorem kd_r135_0 : kd_run1 kd_ty kd_x135 4 (kd_call kd_ty kd_xt (kd_ctl kd_C135) 600 0) kd_T135.2.2 600 kd_S135 kd_S135_0 = true := by decide +kernel
theorem kd_r135_1 : kd_run1 kd_ty kd_x135 4 (kd_call kd_ty kd_xt (kd_ctl kd_C135) 600 0) kd_T135.2.2 600 kd_S135 kd_S135_1 = true := by decide +kernel
theorem kd_r135_2 : kd_run1 kd_ty kd_x135 4 (kd_call kd_ty kd_xt (kd_ctl kd_C135) 600 0) kd_T135.2.2 600 kd_S135 kd_S135_2 = true := by decide +kernel
theorem kd_r135_3 : kd_run1 kd_ty kd_x135 4 (kd_call kd_ty kd_xt (kd_ctl kd_C135) 600 0) kd_T135.2.2 600 kd_S135 kd_S135_3 = true := by decide +kernel
theorem kd_r135_4 : kd_run1 kd_ty kd_x135 4 (kd_call kd_ty kd_xt (kd_ctl kd_C135) 600 0) kd_T135.2.2 600 kd_S135 kd_S135_4 = true := by decide +kernel
theorem kd_r135_5 : kd_run1 kd_ty kd_x135 4 (kd_call kd_ty kd_xt (kd_ctl kd_C135) 600 0) kd_T135.2.2 600 kd_S135 kd_S135_5 = true := by decide +kernel
theorem kd_r135_6 : kd_run1 kd_ty kd_x135 4 (kd_call kd_ty kd_xt (kd_ctl kd_C135) 600 0) kd_T135.2.2 600 kd_S135 kd_S135_6 = true := by decide +kernel
theorem kd_h135 {g : kc_G} (hg : kc_ok g) : kd_hold g 25 kd_ty 135 kd_T135 := kd_mk (d0 := 24) (di := 0) hg kd_xk135 rfl rfl rfl rfl (kd_al_r kd_C135 ⟨kd_hold_le (kd_h216 hg) (by decide), kd_hold_le (kd_h214 hg) (by decide), trivial⟩) (by decide) (by decide +kernel) kd_e135 (kd_al_r kd_S135 ⟨kd_r135_0, kd_r135_1, kd_r135_2, kd_r135_3, kd_r135_4, kd_r135_5, kd_r135_6, trivial⟩)
def kd_P134 : List kd_P := [(some (0, 0, 4294967295), [], [(213, 218, 0, 0), (212, 218, 0, 1), (211, 218, 0, 2), (210, 218, 0, 3), (205, 205, 0, 4), (209, 218, 0, 4), (219, 219, 0, 5), (206, 207, 0, 9), (254, 254, 0, 19), (204, 204, 1, 2), (253, 253, 2, 2)])]
def kd_T134 : kd_Tc := ([(3, 0, 0)], [], kd_P134)
def kd_C134 : List (Nat × kd_Tc) := [(135, kd_T135), (100, kd_T100a)]
def kd_S134 : List kd_St := []
theorem kd_e134 : kd_run0 kd_ty kd_x134 1 (kd_call kd_ty kd_xt (kd_ctl kd_C134) 600 1) kd_T134 600 kd_S134 = true := by decide +kernel
theorem kd_h134 {g : kc_G} (hg : kc_ok g) : kd_hold g 27 kd_ty 134 kd_T134 := kd_mk (d0 := 25) (di := 1) hg kd_xk134 rfl rfl rfl rfl (kd_al_r kd_C134 ⟨kd_hold_le (kd_h135 hg) (by decide), kd_hold_le (kd_h100a hg) (by decide), trivial⟩) (by decide) (by decide +kernel) kd_e134 (kd_al_r kd_S134 trivial)
