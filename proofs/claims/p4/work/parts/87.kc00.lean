/-! ===== contracts, kc 0 ===== -/
def kd_P60 : List kd_P := [(some (0, 2147483646, 2147483888), [], [(130, 189, 0, 3), (128, 128, 0, 59), (127, 127, 1, 1), (127, 127, 4, 8)])]
def kd_T60 : kd_Tc := ([(3, 0, 0), (0, 0, 4294967295)], [], kd_P60)
def kd_C60 : List (Nat × kd_Tc) := [(61, kd_T61)]
def kd_S60 : List kd_St := []
theorem kd_e60 : kd_run0 kd_ty kd_x60 2 (kd_call kd_ty kd_xt (kd_ctl kd_C60) 600 1) kd_T60 600 kd_S60 = true := by decide +kernel
theorem kd_h60 {g : kc_G} (hg : kc_ok g) : kd_hold g 10 kd_ty 60 kd_T60 := kd_mk (d0 := 8) (di := 1) hg kd_xk60 rfl rfl rfl rfl (kd_al_r kd_C60 ⟨kd_hold_le (kd_h61 hg) (by decide), trivial⟩) (by decide) (by decide +kernel) kd_e60 (kd_al_r kd_S60 trivial)
def kd_P73 : List kd_P := [(some (0, 2147483648, 2147483649), [], [(195, 200, 0, 2), (202, 202, 0, 2), (130, 189, 0, 3), (192, 193, 0, 5), (201, 201, 0, 5), (191, 191, 0, 9), (203, 203, 0, 9), (128, 128, 0, 59), (127, 127, 1, 1), (190, 190, 2, 6), (127, 127, 4, 8), (190, 190, 14, 14)])]
def kd_T73 : kd_Tc := ([(3, 190, 190)], [], kd_P73)
def kd_C73 : List (Nat × kd_Tc) := [(61, kd_T61), (74, kd_T74), (183, kd_T183)]
def kd_S73_0 : kd_St := (20, [(2147483648, 4294967294)], 1, [(3, 190, 190), (1, 0, 2147483648)], [], [(195, 200, 0, 2), (202, 202, 0, 2), (130, 189, 0, 3), (192, 193, 0, 5), (201, 201, 0, 5), (191, 191, 0, 9), (203, 203, 0, 9), (128, 128, 0, 59), (127, 127, 1, 1), (190, 190, 2, 6), (127, 127, 4, 8), (190, 190, 14, 14)], [(0, (0, 21, 21)), (0, (1, 0, 2147483648))])
def kd_S73 : List kd_St := [kd_S73_0]
theorem kd_e73 : kd_run0 kd_ty kd_x73 2 (kd_call kd_ty kd_xt (kd_ctl kd_C73) 600 0) kd_T73 600 kd_S73 = true := by decide +kernel
theorem kd_r73_0 : kd_run1 kd_ty kd_x73 2 (kd_call kd_ty kd_xt (kd_ctl kd_C73) 600 0) kd_T73.2.2 600 kd_S73 kd_S73_0 = true := by decide +kernel
theorem kd_h73 {g : kc_G} (hg : kc_ok g) : kd_hold g 10 kd_ty 73 kd_T73 := kd_mk (d0 := 9) (di := 0) hg kd_xk73 rfl rfl rfl rfl (kd_al_r kd_C73 ⟨kd_hold_le (kd_h61 hg) (by decide), kd_hold_le (kd_h74 hg) (by decide), kd_hold_le (kd_h183 hg) (by decide), trivial⟩) (by decide) (by decide +kernel) kd_e73 (kd_al_r kd_S73 ⟨kd_r73_0, trivial⟩)
def kd_P72 : List kd_P := [(some (0, 0, 4294967295), [], [(195, 200, 0, 2), (202, 202, 0, 2), (130, 189, 0, 3), (192, 193, 0, 5), (201, 201, 0, 5), (191, 191, 0, 9), (203, 203, 0, 9), (128, 128, 0, 59), (127, 127, 1, 1), (190, 190, 2, 6), (127, 127, 4, 8), (190, 190, 14, 14)])]
def kd_T72 : kd_Tc := ([(3, 0, 0), (0, 0, 4294967295)], [], kd_P72)
def kd_C72 : List (Nat × kd_Tc) := [(73, kd_T73), (76, kd_T76)]
def kd_S72 : List kd_St := []
theorem kd_e72 : kd_run0 kd_ty kd_x72 2 (kd_call kd_ty kd_xt (kd_ctl kd_C72) 600 1) kd_T72 600 kd_S72 = true := by decide +kernel
theorem kd_h72 {g : kc_G} (hg : kc_ok g) : kd_hold g 12 kd_ty 72 kd_T72 := kd_mk (d0 := 10) (di := 1) hg kd_xk72 rfl rfl rfl rfl (kd_al_r kd_C72 ⟨kd_hold_le (kd_h73 hg) (by decide), kd_hold_le (kd_h76 hg) (by decide), trivial⟩) (by decide) (by decide +kernel) kd_e72 (kd_al_r kd_S72 trivial)
def kd_P80 : List kd_P := [(some (0, 0, 4294967295), [], [(195, 200, 0, 2), (202, 202, 0, 2), (130, 189, 0, 3), (192, 193, 0, 5), (201, 201, 0, 5), (191, 191, 0, 9), (203, 203, 0, 9), (128, 128, 0, 59), (127, 127, 1, 1), (190, 190, 2, 6), (127, 127, 4, 8), (190, 190, 14, 14)])]
def kd_T80 : kd_Tc := ([(3, 0, 0), (0, 0, 4294967295), (0, 0, 4294967295), (0, 0, 4294967295)], [], kd_P80)
def kd_C80 : List (Nat × kd_Tc) := [(73, kd_T73), (187, kd_T187), (189, kd_T189)]
def kd_S80 : List kd_St := []
theorem kd_e80 : kd_run0 kd_ty kd_x80 5 (kd_call kd_ty kd_xt (kd_ctl kd_C80) 600 3) kd_T80 600 kd_S80 = true := by decide +kernel
theorem kd_h80 {g : kc_G} (hg : kc_ok g) : kd_hold g 14 kd_ty 80 kd_T80 := kd_mk (d0 := 10) (di := 3) hg kd_xk80 rfl rfl rfl rfl (kd_al_r kd_C80 ⟨kd_hold_le (kd_h73 hg) (by decide), kd_hold_le (kd_h187 hg) (by decide), kd_hold_le (kd_h189 hg) (by decide), trivial⟩) (by decide) (by decide +kernel) kd_e80 (kd_al_r kd_S80 trivial)
def kd_P83 : List kd_P := [(some (0, 0, 4294967295), [], [(195, 200, 0, 2), (202, 202, 0, 2), (130, 189, 0, 3), (192, 193, 0, 5), (201, 201, 0, 5), (191, 191, 0, 9), (203, 203, 0, 9), (128, 128, 0, 59), (127, 127, 1, 1), (190, 190, 2, 6), (127, 127, 4, 8), (190, 190, 14, 14)])]
def kd_T83 : kd_Tc := ([(3, 0, 0), (0, 0, 4294967295)], [], kd_P83)
def kd_C83 : List (Nat × kd_Tc) := [(73, kd_T73)]
def kd_S83 : List kd_St := []
theorem kd_e83 : kd_run0 kd_ty kd_x83 2 (kd_call kd_ty kd_xt (kd_ctl kd_C83) 600 2) kd_T83 600 kd_S83 = true := by decide +kernel
theorem kd_h83 {g : kc_G} (hg : kc_ok g) : kd_hold g 13 kd_ty 83 kd_T83 := kd_mk (d0 := 10) (di := 2) hg kd_xk83 rfl rfl rfl rfl (kd_al_r kd_C83 ⟨kd_hold_le (kd_h73 hg) (by decide), trivial⟩) (by decide) (by decide +kernel) kd_e83 (kd_al_r kd_S83 trivial)
