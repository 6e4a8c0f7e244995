/-! ===== contracts, kc 0 ===== -/
def kd_P201 : List kd_P := [(some (0, 2147483648, 2147483649), [], [])]
def kd_T201 : kd_Tc := ([(3, 1, 1), (0, 0, 4294967295)], [], kd_P201)
def kd_C201 : List (Nat × kd_Tc) := []
def kd_S201_0 : kd_St := (2, [(0, 4294967295)], 1, [(3, 1, 1), (1, 0, 2147483648), (0, 2147483648, 2147483648)], [], [], [(0, (0, 3, 3)), (0, (0, 2147483648, 2147483648))])
def kd_S201_1 : kd_St := (2, [(2147483649, 2147483653), (0, 4294967295)], 2, [(3, 1, 1), (1, 0, 2147483648), (0, 2147483649, 2147483649)], [(1, 3, (1, 1, 2147483648))], [], [(0, (0, 3, 3)), (0, (0, 2147483649, 2147483649))])
def kd_S201_2 : kd_St := (2, [(2147483650, 2147483653), (0, 4294967295)], 2, [(3, 1, 1), (1, 0, 2147483648), (0, 2147483650, 2147483650)], [(1, 3, (1, 1, 2147483648))], [], [(0, (0, 3, 3)), (0, (0, 2147483650, 2147483650))])
def kd_S201_3 : kd_St := (2, [(2147483651, 2147483653), (0, 4294967295)], 2, [(3, 1, 1), (1, 0, 2147483648), (0, 2147483651, 2147483651)], [(1, 3, (1, 1, 2147483648))], [], [(0, (0, 3, 3)), (0, (0, 2147483651, 2147483651))])
def kd_S201_4 : kd_St := (2, [(2147483652, 2147483653), (0, 4294967295)], 2, [(3, 1, 1), (1, 0, 2147483648), (0, 2147483652, 2147483652)], [(1, 3, (1, 1, 2147483648))], [], [(0, (0, 3, 3)), (0, (0, 2147483652, 2147483652))])
def kd_S201_5 : kd_St := (2, [(0, 4294967295)], 1, [(3, 1, 1), (1, 0, 2147483648), (0, 2147483653, 2147483653)], [(1, 3, (0, 2147483653, 2147483653))], [], [(0, (0, 3, 3)), (0, (0, 2147483653, 2147483653))])
def kd_S201 : List kd_St := [kd_S201_0, kd_S201_1, kd_S201_2, kd_S201_3, kd_S201_4, kd_S201_5]
theorem kd_e201 : kd_run0 kd_ty kd_x201 3 (kd_call kd_ty kd_xt (kd_ctl kd_C201) 600 0) kd_T201 600 kd_S201 = true := by decide +kernel
theorem kd_r201_0 : kd_run1 kd_ty kd_x201 3 (kd_call kd_ty kd_xt (kd_ctl kd_C201) 600 0) kd_T201.2.2 600 kd_S201 kd_S201_0 = true := by decide +kernel
theorem kd_r201_1 : kd_run1 kd_ty kd_x201 3 (kd_call kd_ty kd_xt (kd_ctl kd_C201) 600 0) kd_T201.2.2 600 kd_S201 kd_S201_1 = true := by decide +kernel
theorem kd_r201_2 : kd_run1 kd_ty kd_x201 3 (kd_call kd_ty kd_xt (kd_ctl kd_C201) 600 0) kd_T201.2.2 600 kd_S201 kd_S201_2 = true := by decide +kernel
theorem kd_r201_3 : kd_run1 kd_ty kd_x201 3 (kd_call kd_ty kd_xt (kd_ctl kd_C201) 600 0) kd_T201.2.2 600 kd_S201 kd_S201_3 = true := by decide +kernel
theorem kd_r201_4 : kd_run1 kd_ty kd_x201 3 (kd_call kd_ty kd_xt (kd_ctl kd_C201) 600 0) kd_T201.2.2 600 kd_S201 kd_S201_4 = true := by decide +kernel
theorem kd_r201_5 : kd_run1 kd_ty kd_x201 3 (kd_call kd_ty kd_xt (kd_ctl kd_C201) 600 0) kd_T201.2.2 600 kd_S201 kd_S201_5 = true := by decide +kernel
theorem kd_h201 {g : kc_G} (hg : kc_ok g) : kd_hold g 1 kd_ty 201 kd_T201 := kd_mk (d0 := 0) (di := 0) hg kd_xk201 rfl rfl rfl rfl (kd_al_r kd_C201 trivial) (by decide) (by decide +kernel) kd_e201 (kd_al_r kd_S201 ⟨kd_r201_0, kd_r201_1, kd_r201_2, kd_r201_3, kd_r201_4, kd_r201_5, trivial⟩)
def kd_P186 : List kd_P := [(some (0, 2147483648, 2147483649), [], [])]
def kd_T186 : kd_Tc := ([(3, 1, 1), (0, 2147483648, 2147483657)], [], kd_P186)
def kd_C186 : List (Nat × kd_Tc) := []
def kd_S186 : List kd_St := []
theorem kd_e186 : kd_run0 kd_ty kd_x186 2 (kd_call kd_ty kd_xt (kd_ctl kd_C186) 600 0) kd_T186 600 kd_S186 = true := by decide +kernel
theorem kd_h186 {g : kc_G} (hg : kc_ok g) : kd_hold g 1 kd_ty 186 kd_T186 := kd_mk (d0 := 0) (di := 0) hg kd_xk186 rfl rfl rfl rfl (kd_al_r kd_C186 trivial) (by decide) (by decide +kernel) kd_e186 (kd_al_r kd_S186 trivial)
def kd_P182 : List kd_P := [(some (0, 2147483648, 4294967295), [], [])]
def kd_T182 : kd_Tc := ([(3, 1, 1), (0, 2147483648, 2147483657), (0, 0, 4294967295)], [], kd_P182)
def kd_C182 : List (Nat × kd_Tc) := []
def kd_S182 : List kd_St := []
theorem kd_e182 : kd_run0 kd_ty kd_x182 3 (kd_call kd_ty kd_xt (kd_ctl kd_C182) 600 0) kd_T182 600 kd_S182 = true := by decide +kernel
theorem kd_h182 {g : kc_G} (hg : kc_ok g) : kd_hold g 1 kd_ty 182 kd_T182 := kd_mk (d0 := 0) (di := 0) hg kd_xk182 rfl rfl rfl rfl (kd_al_r kd_C182 trivial) (by decide) (by decide +kernel) kd_e182 (kd_al_r kd_S182 trivial)
def kd_P13 : List kd_P := [(some (0, 2147483644, 2147483653), [], [(1, 1, 0, 0)])]
def kd_T13 : kd_Tc := ([(3, 0, 0)], [], kd_P13)
def kd_C13 : List (Nat × kd_Tc) := []
def kd_S13 : List kd_St := []
theorem kd_e13 : kd_run0 kd_ty kd_x13 1 (kd_call kd_ty kd_xt (kd_ctl kd_C13) 600 1) kd_T13 600 kd_S13 = true := by decide +kernel
theorem kd_h13 {g : kc_G} (hg : kc_ok g) : kd_hold g 2 kd_ty 13 kd_T13 := kd_mk (d0 := 0) (di := 1) hg kd_xk13 rfl rfl rfl rfl (kd_al_r kd_C13 trivial) (by decide) (by decide +kernel) kd_e13 (kd_al_r kd_S13 trivial)
def kd_P16 : List kd_P := [(some (0, 2147483646, 2147483747), [], [(3, 8, 0, 5)])]
def kd_T16 : kd_Tc := ([(3, 0, 0), (0, 0, 4294967295), (0, 0, 4294967295), (0, 0, 4294967295)], [], kd_P16)
def kd_C16 : List (Nat × kd_Tc) := []
def kd_S16 : List kd_St := []
theorem kd_e16 : kd_run0 kd_ty kd_x16 4 (kd_call kd_ty kd_xt (kd_ctl kd_C16) 600 3) kd_T16 600 kd_S16 = true := by decide +kernel
theorem kd_h16 {g : kc_G} (hg : kc_ok g) : kd_hold g 4 kd_ty 16 kd_T16 := kd_mk (d0 := 0) (di := 3) hg kd_xk16 rfl rfl rfl rfl (kd_al_r kd_C16 trivial) (by decide) (by decide +kernel) kd_e16 (kd_al_r kd_S16 trivial)
def kd_P23 : List kd_P := [(some (0, 2147483645, 2147483649), [], [(9, 9, 1, 5)])]
def kd_T23 : kd_Tc := ([(3, 0, 0), (0, 0, 4294967295)], [], kd_P23)
def kd_C23 : List (Nat × kd_Tc) := []
def kd_S23 : List kd_St := []
theorem kd_e23 : kd_run0 kd_ty kd_x23 2 (kd_call kd_ty kd_xt (kd_ctl kd_C23) 600 3) kd_T23 600 kd_S23 = true := by decide +kernel
theorem kd_h23 {g : kc_G} (hg : kc_ok g) : kd_hold g 4 kd_ty 23 kd_T23 := kd_mk (d0 := 0) (di := 3) hg kd_xk23 rfl rfl rfl rfl (kd_al_r kd_C23 trivial) (by decide) (by decide +kernel) kd_e23 (kd_al_r kd_S23 trivial)
def kd_P28 : List kd_P := [(some (0, 2147483646, 2147483657), [], [(10, 10, 0, 5)])]
def kd_T28 : kd_Tc := ([(3, 0, 0), (0, 0, 4294967295), (0, 0, 4294967295)], [], kd_P28)
def kd_C28 : List (Nat × kd_Tc) := []
def kd_S28 : List kd_St := []
theorem kd_e28 : kd_run0 kd_ty kd_x28 3 (kd_call kd_ty kd_xt (kd_ctl kd_C28) 600 3) kd_T28 600 kd_S28 = true := by decide +kernel
theorem kd_h28 {g : kc_G} (hg : kc_ok g) : kd_hold g 4 kd_ty 28 kd_T28 := kd_mk (d0 := 0) (di := 3) hg kd_xk28 rfl rfl rfl rfl (kd_al_r kd_C28 trivial) (by decide) (by decide +kernel) kd_e28 (kd_al_r kd_S28 trivial)
def kd_P32 : List kd_P := [(some (0, 2147483644, 2147483650), [], [(12, 14, 0, 0), (1, 1, 1, 1), (12, 14, 1, 1), (12, 14, 2, 2), (12, 14, 3, 3), (12, 14, 4, 4)])]
def kd_T32 : kd_Tc := ([(3, 0, 0), (0, 0, 4294967295), (0, 0, 4294967295), (0, 0, 4294967295)], [], kd_P32)
def kd_C32 : List (Nat × kd_Tc) := []
def kd_S32 : List kd_St := []
theorem kd_e32 : kd_run0 kd_ty kd_x32 4 (kd_call kd_ty kd_xt (kd_ctl kd_C32) 600 2) kd_T32 600 kd_S32 = true := by decide +kernel
theorem kd_h32 {g : kc_G} (hg : kc_ok g) : kd_hold g 3 kd_ty 32 kd_T32 := kd_mk (d0 := 0) (di := 2) hg kd_xk32 rfl rfl rfl rfl (kd_al_r kd_C32 trivial) (by decide) (by decide +kernel) kd_e32 (kd_al_r kd_S32 trivial)
def kd_P35 : List kd_P := [(some (0, 2147483646, 2147484647), [], [(12, 14, 3, 4)])]
def kd_T35 : kd_Tc := ([(3, 0, 0), (0, 0, 4294967295), (0, 0, 4294967295), (0, 0, 4294967295)], [], kd_P35)
def kd_C35 : List (Nat × kd_Tc) := []
def kd_S35 : List kd_St := []
theorem kd_e35 : kd_run0 kd_ty kd_x35 4 (kd_call kd_ty kd_xt (kd_ctl kd_C35) 600 4) kd_T35 600 kd_S35 = true := by decide +kernel
theorem kd_h35 {g : kc_G} (hg : kc_ok g) : kd_hold g 5 kd_ty 35 kd_T35 := kd_mk (d0 := 0) (di := 4) hg kd_xk35 rfl rfl rfl rfl (kd_al_r kd_C35 trivial) (by decide) (by decide +kernel) kd_e35 (kd_al_r kd_S35 trivial)
def kd_P41 : List kd_P := [(some (0, 2147483644, 2147483657), [], [(16, 25, 0, 0), (16, 25, 1, 1), (1, 1, 2, 2), (16, 25, 2, 2), (16, 25, 3, 3), (16, 25, 4, 4), (16, 25, 5, 5), (16, 25, 6, 6)])]
def kd_T41 : kd_Tc := ([(3, 0, 0), (0, 0, 4294967295), (0, 0, 4294967295), (0, 0, 4294967295), (0, 0, 4294967295)], [], kd_P41)
def kd_C41 : List (Nat × kd_Tc) := []
def kd_S41 : List kd_St := []
theorem kd_e41 : kd_run0 kd_ty kd_x41 5 (kd_call kd_ty kd_xt (kd_ctl kd_C41) 600 3) kd_T41 600 kd_S41 = true := by decide +kernel
theorem kd_h41 {g : kc_G} (hg : kc_ok g) : kd_hold g 4 kd_ty 41 kd_T41 := kd_mk (d0 := 0) (di := 3) hg kd_xk41 rfl rfl rfl rfl (kd_al_r kd_C41 trivial) (by decide) (by decide +kernel) kd_e41 (kd_al_r kd_S41 trivial)
def kd_P44 : List kd_P := [(some (0, 2147483646, 2147483748), [], [(16, 25, 4, 4)])]
def kd_T44 : kd_Tc := ([(3, 0, 0), (0, 0, 4294967295), (0, 0, 4294967295)], [], kd_P44)
def kd_C44 : List (Nat × kd_Tc) := []
def kd_S44 : List kd_St := []
theorem kd_e44 : kd_run0 kd_ty kd_x44 3 (kd_call kd_ty kd_xt (kd_ctl kd_C44) 600 3) kd_T44 600 kd_S44 = true := by decide +kernel
theorem kd_h44 {g : kc_G} (hg : kc_ok g) : kd_hold g 4 kd_ty 44 kd_T44 := kd_mk (d0 := 0) (di := 3) hg kd_xk44 rfl rfl rfl rfl (kd_al_r kd_C44 trivial) (by decide) (by decide +kernel) kd_e44 (kd_al_r kd_S44 trivial)
def kd_P49 : List kd_P := [(some (0, 2147483646, 2147483657), [], [(16, 25, 5, 5)])]
def kd_T49 : kd_Tc := ([(3, 0, 0), (0, 0, 4294967295), (0, 0, 4294967295)], [], kd_P49)
def kd_C49 : List (Nat × kd_Tc) := []
def kd_S49 : List kd_St := []
theorem kd_e49 : kd_run0 kd_ty kd_x49 3 (kd_call kd_ty kd_xt (kd_ctl kd_C49) 600 3) kd_T49 600 kd_S49 = true := by decide +kernel
theorem kd_h49 {g : kc_G} (hg : kc_ok g) : kd_hold g 4 kd_ty 49 kd_T49 := kd_mk (d0 := 0) (di := 3) hg kd_xk49 rfl rfl rfl rfl (kd_al_r kd_C49 trivial) (by decide) (by decide +kernel) kd_e49 (kd_al_r kd_S49 trivial)
def kd_P51 : List kd_P := [(some (0, 2147483646, 2147483668), [], [(26, 26, 0, 1)])]
def kd_T51 : kd_Tc := ([(3, 0, 0), (0, 0, 4294967295), (0, 0, 4294967295)], [], kd_P51)
def kd_C51 : List (Nat × kd_Tc) := []
def kd_S51 : List kd_St := []
theorem kd_e51 : kd_run0 kd_ty kd_x51 3 (kd_call kd_ty kd_xt (kd_ctl kd_C51) 600 2) kd_T51 600 kd_S51 = true := by decide +kernel
theorem kd_h51 {g : kc_G} (hg : kc_ok g) : kd_hold g 3 kd_ty 51 kd_T51 := kd_mk (d0 := 0) (di := 2) hg kd_xk51 rfl rfl rfl rfl (kd_al_r kd_C51 trivial) (by decide) (by decide +kernel) kd_e51 (kd_al_r kd_S51 trivial)
def kd_P58 : List kd_P := [(some (0, 2147483646, 2147483888), [], [(31, 31, 0, 1)])]
def kd_T58 : kd_Tc := ([(3, 0, 0), (0, 0, 4294967295)], [], kd_P58)
def kd_C58 : List (Nat × kd_Tc) := []
def kd_S58 : List kd_St := []
theorem kd_e58 : kd_run0 kd_ty kd_x58 3 (kd_call kd_ty kd_xt (kd_ctl kd_C58) 600 1) kd_T58 600 kd_S58 = true := by decide +kernel
theorem kd_h58 {g : kc_G} (hg : kc_ok g) : kd_hold g 2 kd_ty 58 kd_T58 := kd_mk (d0 := 0) (di := 1) hg kd_xk58 rfl rfl rfl rfl (kd_al_r kd_C58 trivial) (by decide) (by decide +kernel) kd_e58 (kd_al_r kd_S58 trivial)
def kd_P91 : List kd_P := [(some (0, 2147483638, 2147483653), [], [(16, 25, 6, 6)])]
def kd_T91 : kd_Tc := ([(3, 0, 0), (0, 0, 4294967295), (0, 0, 4294967295), (0, 0, 4294967295)], [], kd_P91)
def kd_C91 : List (Nat × kd_Tc) := []
def kd_S91 : List kd_St := []
theorem kd_e91 : kd_run0 kd_ty kd_x91 6 (kd_call kd_ty kd_xt (kd_ctl kd_C91) 600 2) kd_T91 600 kd_S91 = true := by decide +kernel
theorem kd_h91 {g : kc_G} (hg : kc_ok g) : kd_hold g 3 kd_ty 91 kd_T91 := kd_mk (d0 := 0) (di := 2) hg kd_xk91 rfl rfl rfl rfl (kd_al_r kd_C91 trivial) (by decide) (by decide +kernel) kd_e91 (kd_al_r kd_S91 trivial)
def kd_P93 : List kd_P := [(some (0, 2147483645, 2147483653), [], [(27, 27, 0, 4), (1, 1, 3, 3)])]
def kd_T93 : kd_Tc := ([(3, 0, 0), (0, 0, 4294967295)], [], kd_P93)
def kd_C93 : List (Nat × kd_Tc) := [(201, kd_T201)]
def kd_S93 : List kd_St := []
theorem kd_e93 : kd_run0 kd_ty kd_x93 2 (kd_call kd_ty kd_xt (kd_ctl kd_C93) 600 2) kd_T93 600 kd_S93 = true := by decide +kernel
theorem kd_h93 {g : kc_G} (hg : kc_ok g) : kd_hold g 4 kd_ty 93 kd_T93 := kd_mk (d0 := 1) (di := 2) hg kd_xk93 rfl rfl rfl rfl (kd_al_r kd_C93 ⟨kd_hold_le (kd_h201 hg) (by decide), trivial⟩) (by decide) (by decide +kernel) kd_e93 (kd_al_r kd_S93 trivial)
def kd_P95 : List kd_P := [(some (0, 2147483648, 2147483653), [], [(1, 1, 3, 3)])]
def kd_T95 : kd_Tc := ([(3, 0, 0)], [], kd_P95)
def kd_C95 : List (Nat × kd_Tc) := []
def kd_S95 : List kd_St := []
theorem kd_e95 : kd_run0 kd_ty kd_x95 2 (kd_call kd_ty kd_xt (kd_ctl kd_C95) 600 0) kd_T95 600 kd_S95 = true := by decide +kernel
theorem kd_h95 {g : kc_G} (hg : kc_ok g) : kd_hold g 1 kd_ty 95 kd_T95 := kd_mk (d0 := 0) (di := 0) hg kd_xk95 rfl rfl rfl rfl (kd_al_r kd_C95 trivial) (by decide) (by decide +kernel) kd_e95 (kd_al_r kd_S95 trivial)
def kd_P161 : List kd_P := [(some (0, 2147483646, 2147483888), [], [])]
def kd_T161 : kd_Tc := ([(3, 0, 0), (0, 0, 4294967295)], [], kd_P161)
def kd_C161 : List (Nat × kd_Tc) := []
def kd_S161 : List kd_St := []
theorem kd_e161 : kd_run0 kd_ty kd_x161 2 (kd_call kd_ty kd_xt (kd_ctl kd_C161) 600 1) kd_T161 600 kd_S161 = true := by decide +kernel
theorem kd_h161 {g : kc_G} (hg : kc_ok g) : kd_hold g 2 kd_ty 161 kd_T161 := kd_mk (d0 := 0) (di := 1) hg kd_xk161 rfl rfl rfl rfl (kd_al_r kd_C161 trivial) (by decide) (by decide +kernel) kd_e161 (kd_al_r kd_S161 trivial)
def kd_P155 : List kd_P := [(some (2, 0, 18446744073709551615), [], [])]
def kd_T155 : kd_Tc := ([(3, 0, 0), (0, 0, 4294967295)], [], kd_P155)
def kd_C155 : List (Nat × kd_Tc) := []
def kd_S155 : List kd_St := []
theorem kd_e155 : kd_run0 kd_ty kd_x155 2 (kd_call kd_ty kd_xt (kd_ctl kd_C155) 600 1) kd_T155 600 kd_S155 = true := by decide +kernel
theorem kd_h155 {g : kc_G} (hg : kc_ok g) : kd_hold g 2 kd_ty 155 kd_T155 := kd_mk (d0 := 0) (di := 1) hg kd_xk155 rfl rfl rfl rfl (kd_al_r kd_C155 trivial) (by decide) (by decide +kernel) kd_e155 (kd_al_r kd_S155 trivial)
def kd_P55 : List kd_P := [(some (0, 2147483644, 2147483888), [], [(31, 31, 0, 1), (29, 30, 0, 239)])]
def kd_T55q0 : kd_Tc := ([(3, 1, 1), (0, 0, 2147483647), (2, 0, 18446744073709551615), (0, 0, 2147483648)], [], kd_P55)
def kd_C55q0 : List (Nat × kd_Tc) := []
def kd_S55q0 : List kd_St := []
theorem kd_e55q0 : kd_run0 kd_ty kd_x55 6 (kd_call kd_ty kd_xt (kd_ctl kd_C55q0) 600 1) kd_T55q0 600 kd_S55q0 = true := by decide +kernel
theorem kd_h55q0 {g : kc_G} (hg : kc_ok g) : kd_hold g 2 kd_ty 55 kd_T55q0 := kd_mk (d0 := 0) (di := 1) hg kd_xk55 rfl rfl rfl rfl (kd_al_r kd_C55q0 trivial) (by decide) (by decide +kernel) kd_e55q0 (kd_al_r kd_S55q0 trivial)
def kd_T55q1 : kd_Tc := ([(3, 1, 1), (0, 0, 2147483647), (2, 0, 18446744073709551615), (0, 2147483649, 2147483649)], [], kd_P55)
def kd_C55q1 : List (Nat × kd_Tc) := []
def kd_S55q1 : List kd_St := []
theorem kd_e55q1 : kd_run0 kd_ty kd_x55 6 (kd_call kd_ty kd_xt (kd_ctl kd_C55q1) 600 1) kd_T55q1 600 kd_S55q1 = true := by decide +kernel
theorem kd_h55q1 {g : kc_G} (hg : kc_ok g) : kd_hold g 2 kd_ty 55 kd_T55q1 := kd_mk (d0 := 0) (di := 1) hg kd_xk55 rfl rfl rfl rfl (kd_al_r kd_C55q1 trivial) (by decide) (by decide +kernel) kd_e55q1 (kd_al_r kd_S55q1 trivial)
def kd_T55q2 : kd_Tc := ([(3, 1, 1), (0, 0, 2147483647), (2, 0, 18446744073709551615), (0, 2147483650, 2147483650)], [], kd_P55)
def kd_C55q2 : List (Nat × kd_Tc) := []
def kd_S55q2 : List kd_St := []
theorem kd_e55q2 : kd_run0 kd_ty kd_x55 6 (kd_call kd_ty kd_xt (kd_ctl kd_C55q2) 600 1) kd_T55q2 600 kd_S55q2 = true := by decide +kernel
theorem kd_h55q2 {g : kc_G} (hg : kc_ok g) : kd_hold g 2 kd_ty 55 kd_T55q2 := kd_mk (d0 := 0) (di := 1) hg kd_xk55 rfl rfl rfl rfl (kd_al_r kd_C55q2 trivial) (by decide) (by decide +kernel) kd_e55q2 (kd_al_r kd_S55q2 trivial)
def kd_T55q3 : kd_Tc := ([(3, 1, 1), (0, 0, 2147483647), (2, 0, 18446744073709551615), (0, 2147483651, 2147483651)], [], kd_P55)
def kd_C55q3 : List (Nat × kd_Tc) := []
def kd_S55q3 : List kd_St := []
theorem kd_e55q3 : kd_run0 kd_ty kd_x55 6 (kd_call kd_ty kd_xt (kd_ctl kd_C55q3) 600 1) kd_T55q3 600 kd_S55q3 = true := by decide +kernel
theorem kd_h55q3 {g : kc_G} (hg : kc_ok g) : kd_hold g 2 kd_ty 55 kd_T55q3 := kd_mk (d0 := 0) (di := 1) hg kd_xk55 rfl rfl rfl rfl (kd_al_r kd_C55q3 trivial) (by decide) (by decide +kernel) kd_e55q3 (kd_al_r kd_S55q3 trivial)
def kd_T55q4 : kd_Tc := ([(3, 1, 1), (0, 0, 2147483647), (2, 0, 18446744073709551615), (0, 2147483652, 2147483652)], [], kd_P55)
def kd_C55q4 : List (Nat × kd_Tc) := []
def kd_S55q4 : List kd_St := []
theorem kd_e55q4 : kd_run0 kd_ty kd_x55 6 (kd_call kd_ty kd_xt (kd_ctl kd_C55q4) 600 1) kd_T55q4 600 kd_S55q4 = true := by decide +kernel
theorem kd_h55q4 {g : kc_G} (hg : kc_ok g) : kd_hold g 2 kd_ty 55 kd_T55q4 := kd_mk (d0 := 0) (di := 1) hg kd_xk55 rfl rfl rfl rfl (kd_al_r kd_C55q4 trivial) (by decide) (by decide +kernel) kd_e55q4 (kd_al_r kd_S55q4 trivial)
def kd_T55q5 : kd_Tc := ([(3, 1, 1), (0, 0, 2147483647), (2, 0, 18446744073709551615), (0, 2147483653, 2147483653)], [], kd_P55)
def kd_C55q5 : List (Nat × kd_Tc) := []
def kd_S55q5 : List kd_St := []
theorem kd_e55q5 : kd_run0 kd_ty kd_x55 6 (kd_call kd_ty kd_xt (kd_ctl kd_C55q5) 600 1) kd_T55q5 600 kd_S55q5 = true := by decide +kernel
theorem kd_h55q5 {g : kc_G} (hg : kc_ok g) : kd_hold g 2 kd_ty 55 kd_T55q5 := kd_mk (d0 := 0) (di := 1) hg kd_xk55 rfl rfl rfl rfl (kd_al_r kd_C55q5 trivial) (by decide) (by decide +kernel) kd_e55q5 (kd_al_r kd_S55q5 trivial)
def kd_T55q6 : kd_Tc := ([(3, 1, 1), (0, 0, 2147483647), (2, 0, 18446744073709551615), (0, 2147483654, 2147483654)], [], kd_P55)
def kd_C55q6 : List (Nat × kd_Tc) := []
def kd_S55q6 : List kd_St := []
theorem kd_e55q6 : kd_run0 kd_ty kd_x55 6 (kd_call kd_ty kd_xt (kd_ctl kd_C55q6) 600 1) kd_T55q6 600 kd_S55q6 = true := by decide +kernel
theorem kd_h55q6 {g : kc_G} (hg : kc_ok g) : kd_hold g 2 kd_ty 55 kd_T55q6 := kd_mk (d0 := 0) (di := 1) hg kd_xk55 rfl rfl rfl rfl (kd_al_r kd_C55q6 trivial) (by decide) (by decide +kernel) kd_e55q6 (kd_al_r kd_S55q6 trivial)
def kd_T55q7 : kd_Tc := ([(3, 1, 1), (0, 0, 2147483647), (2, 0, 18446744073709551615), (0, 2147483655, 2147483655)], [], kd_P55)
def kd_C55q7 : List (Nat × kd_Tc) := []
def kd_S55q7 : List kd_St := []
theorem kd_e55q7 : kd_run0 kd_ty kd_x55 6 (kd_call kd_ty kd_xt (kd_ctl kd_C55q7) 600 1) kd_T55q7 600 kd_S55q7 = true := by decide +kernel
theorem kd_h55q7 {g : kc_G} (hg : kc_ok g) : kd_hold g 2 kd_ty 55 kd_T55q7 := kd_mk (d0 := 0) (di := 1) hg kd_xk55 rfl rfl rfl rfl (kd_al_r kd_C55q7 trivial) (by decide) (by decide +kernel) kd_e55q7 (kd_al_r kd_S55q7 trivial)
def kd_T55q8 : kd_Tc := ([(3, 1, 1), (0, 0, 2147483647), (2, 0, 18446744073709551615), (0, 2147483656, 2147483656)], [], kd_P55)
def kd_C55q8 : List (Nat × kd_Tc) := []
def kd_S55q8 : List kd_St := []
theorem kd_e55q8 : kd_run0 kd_ty kd_x55 6 (kd_call kd_ty kd_xt (kd_ctl kd_C55q8) 600 1) kd_T55q8 600 kd_S55q8 = true := by decide +kernel
theorem kd_h55q8 {g : kc_G} (hg : kc_ok g) : kd_hold g 2 kd_ty 55 kd_T55q8 := kd_mk (d0 := 0) (di := 1) hg kd_xk55 rfl rfl rfl rfl (kd_al_r kd_C55q8 trivial) (by decide) (by decide +kernel) kd_e55q8 (kd_al_r kd_S55q8 trivial)
def kd_T55q9 : kd_Tc := ([(3, 1, 1), (0, 0, 2147483647), (2, 0, 18446744073709551615), (0, 2147483657, 4294967295)], [], kd_P55)
def kd_C55q9 : List (Nat × kd_Tc) := []
def kd_S55q9 : List kd_St := []
theorem kd_e55q9 : kd_run0 kd_ty kd_x55 6 (kd_call kd_ty kd_xt (kd_ctl kd_C55q9) 600 1) kd_T55q9 600 kd_S55q9 = true := by decide +kernel
theorem kd_h55q9 {g : kc_G} (hg : kc_ok g) : kd_hold g 2 kd_ty 55 kd_T55q9 := kd_mk (d0 := 0) (di := 1) hg kd_xk55 rfl rfl rfl rfl (kd_al_r kd_C55q9 trivial) (by decide) (by decide +kernel) kd_e55q9 (kd_al_r kd_S55q9 trivial)
def kd_T55q10 : kd_Tc := ([(3, 1, 1), (0, 2147483648, 2147483648), (2, 0, 18446744073709551615), (0, 0, 2147483648)], [], kd_P55)
def kd_C55q10 : List (Nat × kd_Tc) := []
def kd_S55q10 : List kd_St := []
theorem kd_e55q10 : kd_run0 kd_ty kd_x55 6 (kd_call kd_ty kd_xt (kd_ctl kd_C55q10) 600 1) kd_T55q10 600 kd_S55q10 = true := by decide +kernel
theorem kd_h55q10 {g : kc_G} (hg : kc_ok g) : kd_hold g 2 kd_ty 55 kd_T55q10 := kd_mk (d0 := 0) (di := 1) hg kd_xk55 rfl rfl rfl rfl (kd_al_r kd_C55q10 trivial) (by decide) (by decide +kernel) kd_e55q10 (kd_al_r kd_S55q10 trivial)
def kd_T55q11 : kd_Tc := ([(3, 1, 1), (0, 2147483648, 2147483648), (2, 0, 18446744073709551615), (0, 2147483649, 2147483649)], [], kd_P55)
def kd_C55q11 : List (Nat × kd_Tc) := []
def kd_S55q11_0 : kd_St := (47, [(2147483648, 2147483887)], 1, [(3, 1, 1), (0, 2147483648, 2147483648), (2, 0, 18446744073709551615), (9, 0, 0), (0, 2147483649, 2147483649), (0, 2147483648, 2147483648)], [(31, 0, (1, 0, 2147483648))], [], [(0, (0, 48, 48)), (1, (0, 2147483648, 2147483648))])
def kd_S55q11_1 : kd_St := (47, [(2147483649, 2147483888)], 1, [(3, 1, 1), (0, 2147483648, 2147483648), (2, 0, 18446744073709551615), (9, 0, 0), (0, 2147483649, 2147483649), (0, 2147483647, 2147483647)], [(31, 0, (1, 0, 2147483648))], [(31, 31, 0, 0), (29, 29, 0, 239)], [(0, (0, 48, 48)), (1, (0, 2147483647, 2147483647))])
def kd_S55q11 : List kd_St := [kd_S55q11_0, kd_S55q11_1]
theorem kd_e55q11 : kd_run0 kd_ty kd_x55 6 (kd_call kd_ty kd_xt (kd_ctl kd_C55q11) 600 1) kd_T55q11 600 kd_S55q11 = true := by decide +kernel
theorem kd_r55q11_0 : kd_run1 kd_ty kd_x55 6 (kd_call kd_ty kd_xt (kd_ctl kd_C55q11) 600 1) kd_T55q11.2.2 600 kd_S55q11 kd_S55q11_0 = true := by decide +kernel
theorem kd_r55q11_1 : kd_run1 kd_ty kd_x55 6 (kd_call kd_ty kd_xt (kd_ctl kd_C55q11) 600 1) kd_T55q11.2.2 600 kd_S55q11 kd_S55q11_1 = true := by decide +kernel
theorem kd_h55q11 {g : kc_G} (hg : kc_ok g) : kd_hold g 2 kd_ty 55 kd_T55q11 := kd_mk (d0 := 0) (di := 1) hg kd_xk55 rfl rfl rfl rfl (kd_al_r kd_C55q11 trivial) (by decide) (by decide +kernel) kd_e55q11 (kd_al_r kd_S55q11 ⟨kd_r55q11_0, kd_r55q11_1, trivial⟩)
def kd_T55q12 : kd_Tc := ([(3, 1, 1), (0, 2147483648, 2147483648), (2, 0, 18446744073709551615), (0, 2147483650, 2147483650)], [], kd_P55)
def kd_C55q12 : List (Nat × kd_Tc) := []
def kd_S55q12_0 : kd_St := (47, [(2147483648, 2147483886)], 1, [(3, 1, 1), (0, 2147483648, 2147483648), (2, 0, 18446744073709551615), (9, 0, 0), (0, 2147483650, 2147483650), (0, 2147483649, 2147483649)], [(31, 0, (1, 0, 2147483648))], [], [(0, (0, 48, 48)), (1, (0, 2147483649, 2147483649))])
def kd_S55q12_1 : kd_St := (47, [(2147483649, 2147483887)], 1, [(3, 1, 1), (0, 2147483648, 2147483648), (2, 0, 18446744073709551615), (9, 0, 0), (0, 2147483650, 2147483650), (0, 2147483648, 2147483648)], [(31, 0, (1, 0, 2147483648))], [(31, 31, 0, 0), (29, 29, 0, 238)], [(0, (0, 48, 48)), (1, (0, 2147483648, 2147483648))])
def kd_S55q12_2 : kd_St := (47, [(2147483650, 2147483888)], 1, [(3, 1, 1), (0, 2147483648, 2147483648), (2, 0, 18446744073709551615), (9, 0, 0), (0, 2147483650, 2147483650), (0, 2147483647, 2147483647)], [(31, 0, (1, 0, 2147483648))], [(31, 31, 0, 0), (29, 29, 0, 239)], [(0, (0, 48, 48)), (1, (0, 2147483647, 2147483647))])
def kd_S55q12 : List kd_St := [kd_S55q12_0, kd_S55q12_1, kd_S55q12_2]
theorem kd_e55q12 : kd_run0 kd_ty kd_x55 6 (kd_call kd_ty kd_xt (kd_ctl kd_C55q12) 600 1) kd_T55q12 600 kd_S55q12 = true := by decide +kernel
theorem kd_r55q12_0 : kd_run1 kd_ty kd_x55 6 (kd_call kd_ty kd_xt (kd_ctl kd_C55q12) 600 1) kd_T55q12.2.2 600 kd_S55q12 kd_S55q12_0 = true := by decide +kernel
theorem kd_r55q12_1 : kd_run1 kd_ty kd_x55 6 (kd_call kd_ty kd_xt (kd_ctl kd_C55q12) 600 1) kd_T55q12.2.2 600 kd_S55q12 kd_S55q12_1 = true := by decide +kernel
theorem kd_r55q12_2 : kd_run1 kd_ty kd_x55 6 (kd_call kd_ty kd_xt (kd_ctl kd_C55q12) 600 1) kd_T55q12.2.2 600 kd_S55q12 kd_S55q12_2 = true := by decide +kernel
theorem kd_h55q12 {g : kc_G} (hg : kc_ok g) : kd_hold g 2 kd_ty 55 kd_T55q12 := kd_mk (d0 := 0) (di := 1) hg kd_xk55 rfl rfl rfl rfl (kd_al_r kd_C55q12 trivial) (by decide) (by decide +kernel) kd_e55q12 (kd_al_r kd_S55q12 ⟨kd_r55q12_0, kd_r55q12_1, kd_r55q12_2, trivial⟩)
def kd_T55q13 : kd_Tc := ([(3, 1, 1), (0, 2147483648, 2147483648), (2, 0, 18446744073709551615), (0, 2147483651, 2147483651)], [], kd_P55)
def kd_C55q13 : List (Nat × kd_Tc) := []
def kd_S55q13_0 : kd_St := (47, [(2147483648, 2147483885)], 1, [(3, 1, 1), (0, 2147483648, 2147483648), (2, 0, 18446744073709551615), (9, 0, 0), (0, 2147483651, 2147483651), (0, 2147483650, 2147483650)], [(31, 0, (1, 0, 2147483648))], [], [(0, (0, 48, 48)), (1, (0, 2147483650, 2147483650))])
def kd_S55q13_1 : kd_St := (47, [(2147483649, 2147483886)], 1, [(3, 1, 1), (0, 2147483648, 2147483648), (2, 0, 18446744073709551615), (9, 0, 0), (0, 2147483651, 2147483651), (0, 2147483649, 2147483649)], [(31, 0, (1, 0, 2147483648))], [(31, 31, 0, 0), (29, 29, 0, 237)], [(0, (0, 48, 48)), (1, (0, 2147483649, 2147483649))])
def kd_S55q13_2 : kd_St := (47, [(2147483650, 2147483887)], 1, [(3, 1, 1), (0, 2147483648, 2147483648), (2, 0, 18446744073709551615), (9, 0, 0), (0, 2147483651, 2147483651), (0, 2147483648, 2147483648)], [(31, 0, (1, 0, 2147483648))], [(31, 31, 0, 0), (29, 29, 0, 238)], [(0, (0, 48, 48)), (1, (0, 2147483648, 2147483648))])
def kd_S55q13_3 : kd_St := (47, [(2147483651, 2147483888)], 1, [(3, 1, 1), (0, 2147483648, 2147483648), (2, 0, 18446744073709551615), (9, 0, 0), (0, 2147483651, 2147483651), (0, 2147483647, 2147483647)], [(31, 0, (1, 0, 2147483648))], [(31, 31, 0, 0), (29, 29, 0, 239)], [(0, (0, 48, 48)), (1, (0, 2147483647, 2147483647))])
def kd_S55q13 : List kd_St := [kd_S55q13_0, kd_S55q13_1, kd_S55q13_2, kd_S55q13_3]
theorem kd_e55q13 : kd_run0 kd_ty kd_x55 6 (kd_call kd_ty kd_xt (kd_ctl kd_C55q13) 600 1) kd_T55q13 600 kd_S55q13 = true := by decide +kernel
theorem kd_r55q13_0 : kd_run1 kd_ty kd_x55 6 (kd_call kd_ty kd_xt (kd_ctl kd_C55q13) 600 1) kd_T55q13.2.2 600 kd_S55q13 kd_S55q13_0 = true := by decide +kernel
theorem kd_r55q13_1 : kd_run1 kd_ty kd_x55 6 (kd_call kd_ty kd_xt (kd_ctl kd_C55q13) 600 1) kd_T55q13.2.2 600 kd_S55q13 kd_S55q13_1 = true := by decide +kernel
theorem kd_r55q13_2 : kd_run1 kd_ty kd_x55 6 (kd_call kd_ty kd_xt (kd_ctl kd_C55q13) 600 1) kd_T55q13.2.2 600 kd_S55q13 kd_S55q13_2 = true := by decide +kernel
theorem kd_r55q13_3 : kd_run1 kd_ty kd_x55 6 (kd_call kd_ty kd_xt (kd_ctl kd_C55q13) 600 1) kd_T55q13.2.2 600 kd_S55q13 kd_S55q13_3 = true := by decide +kernel
theorem kd_h55q13 {g : kc_G} (hg : kc_ok g) : kd_hold g 2 kd_ty 55 kd_T55q13 := kd_mk (d0 := 0) (di := 1) hg kd_xk55 rfl rfl rfl rfl (kd_al_r kd_C55q13 trivial) (by decide) (by decide +kernel) kd_e55q13 (kd_al_r kd_S55q13 ⟨kd_r55q13_0, kd_r55q13_1, kd_r55q13_2, kd_r55q13_3, trivial⟩)
def kd_T55q14 : kd_Tc := ([(3, 1, 1), (0, 2147483648, 2147483648), (2, 0, 18446744073709551615), (0, 2147483652, 2147483652)], [], kd_P55)
def kd_C55q14 : List (Nat × kd_Tc) := []
def kd_S55q14_0 : kd_St := (47, [(2147483648, 2147483884)], 1, [(3, 1, 1), (0, 2147483648, 2147483648), (2, 0, 18446744073709551615), (9, 0, 0), (0, 2147483652, 2147483652), (0, 2147483651, 2147483651)], [(31, 0, (1, 0, 2147483648))], [], [(0, (0, 48, 48)), (1, (0, 2147483651, 2147483651))])
def kd_S55q14_1 : kd_St := (47, [(2147483649, 2147483885)], 1, [(3, 1, 1), (0, 2147483648, 2147483648), (2, 0, 18446744073709551615), (9, 0, 0), (0, 2147483652, 2147483652), (0, 2147483650, 2147483650)], [(31, 0, (1, 0, 2147483648))], [(31, 31, 0, 0), (29, 29, 0, 236)], [(0, (0, 48, 48)), (1, (0, 2147483650, 2147483650))])
def kd_S55q14_2 : kd_St := (47, [(2147483650, 2147483886)], 1, [(3, 1, 1), (0, 2147483648, 2147483648), (2, 0, 18446744073709551615), (9, 0, 0), (0, 2147483652, 2147483652), (0, 2147483649, 2147483649)], [(31, 0, (1, 0, 2147483648))], [(31, 31, 0, 0), (29, 29, 0, 237)], [(0, (0, 48, 48)), (1, (0, 2147483649, 2147483649))])
def kd_S55q14_3 : kd_St := (47, [(2147483651, 2147483887)], 1, [(3, 1, 1), (0, 2147483648, 2147483648), (2, 0, 18446744073709551615), (9, 0, 0), (0, 2147483652, 2147483652), (0, 2147483648, 2147483648)], [(31, 0, (1, 0, 2147483648))], [(31, 31, 0, 0), (29, 29, 0, 238)], [(0, (0, 48, 48)), (1, (0, 2147483648, 2147483648))])
def kd_S55q14_4 : kd_St := (47, [(2147483652, 2147483888)], 1, [(3, 1, 1), (0, 2147483648, 2147483648), (2, 0, 18446744073709551615), (9, 0, 0), (0, 2147483652, 2147483652), (0, 2147483647, 2147483647)], [(31, 0, (1, 0, 2147483648))], [(31, 31, 0, 0), (29, 29, 0, 239)], [(0, (0, 48, 48)), (1, (0, 2147483647, 2147483647))])
def kd_S55q14 : List kd_St := [kd_S55q14_0, kd_S55q14_1, kd_S55q14_2, kd_S55q14_3, kd_S55q14_4]
theorem kd_e55q14 : kd_run0 kd_ty kd_x55 6 (kd_call kd_ty kd_xt (kd_ctl kd_C55q14) 600 1) kd_T55q14 600 kd_S55q14 = true := by decide +kernel
theorem kd_r55q14_0 : kd_run1 kd_ty kd_x55 6 (kd_call kd_ty kd_xt (kd_ctl kd_C55q14) 600 1) kd_T55q14.2.2 600 kd_S55q14 kd_S55q14_0 = true := by decide +kernel
theorem kd_r55q14_1 : kd_run1 kd_ty kd_x55 6 (kd_call kd_ty kd_xt (kd_ctl kd_C55q14) 600 1) kd_T55q14.2.2 600 kd_S55q14 kd_S55q14_1 = true := by decide +kernel
theorem kd_r55q14_2 : kd_run1 kd_ty kd_x55 6 (kd_call kd_ty kd_xt (kd_ctl kd_C55q14) 600 1) kd_T55q14.2.2 600 kd_S55q14 kd_S55q14_2 = true := by decide +kernel
theorem kd_r55q14_3 : kd_run1 kd_ty kd_x55 6 (kd_call kd_ty kd_xt (kd_ctl kd_C55q14) 600 1) kd_T55q14.2.2 600 kd_S55q14 kd_S55q14_3 = true := by decide +kernel
theorem kd_r55q14_4 : kd_run1 kd_ty kd_x55 6 (kd_call kd_ty kd_xt (kd_ctl kd_C55q14) 600 1) kd_T55q14.2.2 600 kd_S55q14 kd_S55q14_4 = true := by decide +kernel
theorem kd_h55q14 {g : kc_G} (hg : kc_ok g) : kd_hold g 2 kd_ty 55 kd_T55q14 := kd_mk (d0 := 0) (di := 1) hg kd_xk55 rfl rfl rfl rfl (kd_al_r kd_C55q14 trivial) (by decide) (by decide +kernel) kd_e55q14 (kd_al_r kd_S55q14 ⟨kd_r55q14_0, kd_r55q14_1, kd_r55q14_2, kd_r55q14_3, kd_r55q14_4, trivial⟩)
def kd_T55q15 : kd_Tc := ([(3, 1, 1), (0, 2147483648, 2147483648), (2, 0, 18446744073709551615), (0, 2147483653, 2147483653)], [], kd_P55)
def kd_C55q15 : List (Nat × kd_Tc) := []
def kd_S55q15_0 : kd_St := (47, [(2147483648, 2147483883)], 1, [(3, 1, 1), (0, 2147483648, 2147483648), (2, 0, 18446744073709551615), (9, 0, 0), (0, 2147483653, 2147483653), (0, 2147483652, 2147483652)], [(31, 0, (1, 0, 2147483648))], [], [(0, (0, 48, 48)), (1, (0, 2147483652, 2147483652))])
def kd_S55q15_1 : kd_St := (47, [(2147483649, 2147483884)], 1, [(3, 1, 1), (0, 2147483648, 2147483648), (2, 0, 18446744073709551615), (9, 0, 0), (0, 2147483653, 2147483653), (0, 2147483651, 2147483651)], [(31, 0, (1, 0, 2147483648))], [(31, 31, 0, 0), (29, 29, 0, 235)], [(0, (0, 48, 48)), (1, (0, 2147483651, 2147483651))])
def kd_S55q15_2 : kd_St := (47, [(2147483650, 2147483885)], 1, [(3, 1, 1), (0, 2147483648, 2147483648), (2, 0, 18446744073709551615), (9, 0, 0), (0, 2147483653, 2147483653), (0, 2147483650, 2147483650)], [(31, 0, (1, 0, 2147483648))], [(31, 31, 0, 0), (29, 29, 0, 236)], [(0, (0, 48, 48)), (1, (0, 2147483650, 2147483650))])
def kd_S55q15_3 : kd_St := (47, [(2147483651, 2147483886)], 1, [(3, 1, 1), (0, 2147483648, 2147483648), (2, 0, 18446744073709551615), (9, 0, 0), (0, 2147483653, 2147483653), (0, 2147483649, 2147483649)], [(31, 0, (1, 0, 2147483648))], [(31, 31, 0, 0), (29, 29, 0, 237)], [(0, (0, 48, 48)), (1, (0, 2147483649, 2147483649))])
def kd_S55q15_4 : kd_St := (47, [(2147483652, 2147483887)], 1, [(3, 1, 1), (0, 2147483648, 2147483648), (2, 0, 18446744073709551615), (9, 0, 0), (0, 2147483653, 2147483653), (0, 2147483648, 2147483648)], [(31, 0, (1, 0, 2147483648))], [(31, 31, 0, 0), (29, 29, 0, 238)], [(0, (0, 48, 48)), (1, (0, 2147483648, 2147483648))])
def kd_S55q15_5 : kd_St := (47, [(2147483653, 2147483888)], 1, [(3, 1, 1), (0, 2147483648, 2147483648), (2, 0, 18446744073709551615), (9, 0, 0), (0, 2147483653, 2147483653), (0, 2147483647, 2147483647)], [(31, 0, (1, 0, 2147483648))], [(31, 31, 0, 0), (29, 29, 0, 239)], [(0, (0, 48, 48)), (1, (0, 2147483647, 2147483647))])
def kd_S55q15 : List kd_St := [kd_S55q15_0, kd_S55q15_1, kd_S55q15_2, kd_S55q15_3, kd_S55q15_4, kd_S55q15_5]
theorem kd_e55q15 : kd_run0 kd_ty kd_x55 6 (kd_call kd_ty kd_xt (kd_ctl kd_C55q15) 600 1) kd_T55q15 600 kd_S55q15 = true := by decide +kernel
theorem kd_r55q15_0 : kd_run1 kd_ty kd_x55 6 (kd_call kd_ty kd_xt (kd_ctl kd_C55q15) 600 1) kd_T55q15.2.2 600 kd_S55q15 kd_S55q15_0 = true := by decide +kernel
theorem kd_r55q15_1 : kd_run1 kd_ty kd_x55 6 (kd_call kd_ty kd_xt (kd_ctl kd_C55q15) 600 1) kd_T55q15.2.2 600 kd_S55q15 kd_S55q15_1 = true := by decide +kernel
theorem kd_r55q15_2 : kd_run1 kd_ty kd_x55 6 (kd_call kd_ty kd_xt (kd_ctl kd_C55q15) 600 1) kd_T55q15.2.2 600 kd_S55q15 kd_S55q15_2 = true := by decide +kernel
theorem kd_r55q15_3 : kd_run1 kd_ty kd_x55 6 (kd_call kd_ty kd_xt (kd_ctl kd_C55q15) 600 1) kd_T55q15.2.2 600 kd_S55q15 kd_S55q15_3 = true := by decide +kernel
theorem kd_r55q15_4 : kd_run1 kd_ty kd_x55 6 (kd_call kd_ty kd_xt (kd_ctl kd_C55q15) 600 1) kd_T55q15.2.2 600 kd_S55q15 kd_S55q15_4 = true := by decide +kernel
theorem kd_r55q15_5 : kd_run1 kd_ty kd_x55 6 (kd_call kd_ty kd_xt (kd_ctl kd_C55q15) 600 1) kd_T55q15.2.2 600 kd_S55q15 kd_S55q15_5 = true := by decide +kernel
theorem kd_h55q15 {g : kc_G} (hg : kc_ok g) : kd_hold g 2 kd_ty 55 kd_T55q15 := kd_mk (d0 := 0) (di := 1) hg kd_xk55 rfl rfl rfl rfl (kd_al_r kd_C55q15 trivial) (by decide) (by decide +kernel) kd_e55q15 (kd_al_r kd_S55q15 ⟨kd_r55q15_0, kd_r55q15_1, kd_r55q15_2, kd_r55q15_3, kd_r55q15_4, kd_r55q15_5, trivial⟩)
def kd_T55q16 : kd_Tc := ([(3, 1, 1), (0, 2147483648, 2147483648), (2, 0, 18446744073709551615), (0, 2147483654, 2147483654)], [], kd_P55)
def kd_C55q16 : List (Nat × kd_Tc) := []
def kd_S55q16_0 : kd_St := (47, [(2147483648, 2147483882)], 1, [(3, 1, 1), (0, 2147483648, 2147483648), (2, 0, 18446744073709551615), (9, 0, 0), (0, 2147483654, 2147483654), (0, 2147483653, 2147483653)], [(31, 0, (1, 0, 2147483648))], [], [(0, (0, 48, 48)), (1, (0, 2147483653, 2147483653))])
def kd_S55q16_1 : kd_St := (47, [(2147483649, 2147483883)], 1, [(3, 1, 1), (0, 2147483648, 2147483648), (2, 0, 18446744073709551615), (9, 0, 0), (0, 2147483654, 2147483654), (0, 2147483652, 2147483652)], [(31, 0, (1, 0, 2147483648))], [(31, 31, 0, 0), (29, 29, 0, 234)], [(0, (0, 48, 48)), (1, (0, 2147483652, 2147483652))])
def kd_S55q16_2 : kd_St := (47, [(2147483650, 2147483884)], 1, [(3, 1, 1), (0, 2147483648, 2147483648), (2, 0, 18446744073709551615), (9, 0, 0), (0, 2147483654, 2147483654), (0, 2147483651, 2147483651)], [(31, 0, (1, 0, 2147483648))], [(31, 31, 0, 0), (29, 29, 0, 235)], [(0, (0, 48, 48)), (1, (0, 2147483651, 2147483651))])
def kd_S55q16_3 : kd_St := (47, [(2147483651, 2147483885)], 1, [(3, 1, 1), (0, 2147483648, 2147483648), (2, 0, 18446744073709551615), (9, 0, 0), (0, 2147483654, 2147483654), (0, 2147483650, 2147483650)], [(31, 0, (1, 0, 2147483648))], [(31, 31, 0, 0), (29, 29, 0, 236)], [(0, (0, 48, 48)), (1, (0, 2147483650, 2147483650))])
def kd_S55q16_4 : kd_St := (47, [(2147483652, 2147483886)], 1, [(3, 1, 1), (0, 2147483648, 2147483648), (2, 0, 18446744073709551615), (9, 0, 0), (0, 2147483654, 2147483654), (0, 2147483649, 2147483649)], [(31, 0, (1, 0, 2147483648))], [(31, 31, 0, 0), (29, 29, 0, 237)], [(0, (0, 48, 48)), (1, (0, 2147483649, 2147483649))])
def kd_S55q16_5 : kd_St := (47, [(2147483653, 2147483887)], 1, [(3, 1, 1), (0, 2147483648, 2147483648), (2, 0, 18446744073709551615), (9, 0, 0), (0, 2147483654, 2147483654), (0, 2147483648, 2147483648)], [(31, 0, (1, 0, 2147483648))], [(31, 31, 0, 0), (29, 29, 0, 238)], [(0, (0, 48, 48)), (1, (0, 2147483648, 2147483648))])
def kd_S55q16_6 : kd_St := (47, [(2147483654, 2147483888)], 1, [(3, 1, 1), (0, 2147483648, 2147483648), (2, 0, 18446744073709551615), (9, 0, 0), (0, 2147483654, 2147483654), (0, 2147483647, 2147483647)], [(31, 0, (1, 0, 2147483648))], [(31, 31, 0, 0), (29, 29, 0, 239)], [(0, (0, 48, 48)), (1, (0, 2147483647, 2147483647))])
def kd_S55q16 : List kd_St := [kd_S55q16_0, kd_S55q16_1, kd_S55q16_2, kd_S55q16_3, kd_S55q16_4, kd_S55q16_5, kd_S55q16_6]
theorem kd_e55q16 : kd_run0 kd_ty kd_x55 6 (kd_call kd_ty kd_xt (kd_ctl kd_C55q16) 600 1) kd_T55q16 600 kd_S55q16 = true := by decide +kernel
theorem kd_r55q16_0 : kd_run1 kd_ty kd_x55 6 (kd_call kd_ty kd_xt (kd_ctl kd_C55q16) 600 1) kd_T55q16.2.2 600 kd_S55q16 kd_S55q16_0 = true := by decide +kernel
theorem kd_r55q16_1 : kd_run1 kd_ty kd_x55 6 (kd_call kd_ty kd_xt (kd_ctl kd_C55q16) 600 1) kd_T55q16.2.2 600 kd_S55q16 kd_S55q16_1 = true := by decide +kernel
theorem kd_r55q16_2 : kd_run1 kd_ty kd_x55 6 (kd_call kd_ty kd_xt (kd_ctl kd_C55q16) 600 1) kd_T55q16.2.2 600 kd_S55q16 kd_S55q16_2 = true := by decide +kernel
theorem kd_r55q16_3 : kd_run1 kd_ty kd_x55 6 (kd_call kd_ty kd_xt (kd_ctl kd_C55q16) 600 1) kd_T55q16.2.2 600 kd_S55q16 kd_S55q16_3 = true := by decide +kernel
theorem kd_r55q16_4 : kd_run1 kd_ty kd_x55 6 (kd_call kd_ty kd_xt (kd_ctl kd_C55q16) 600 1) kd_T55q16.2.2 600 kd_S55q16 kd_S55q16_4 = true := by decide +kernel
theorem kd_r55q16_5 : kd_run1 kd_ty kd_x55 6 (kd_call kd_ty kd_xt (kd_ctl kd_C55q16) 600 1) kd_T55q16.2.2 600 kd_S55q16 kd_S55q16_5 = true := by decide +kernel
theorem kd_r55q16_6 : kd_run1 kd_ty kd_x55 6 (kd_call kd_ty kd_xt (kd_ctl kd_C55q16) 600 1) kd_T55q16.2.2 600 kd_S55q16 kd_S55q16_6 = true := by decide +kernel
theorem kd_h55q16 {g : kc_G} (hg : kc_ok g) : kd_hold g 2 kd_ty 55 kd_T55q16 := kd_mk (d0 := 0) (di := 1) hg kd_xk55 rfl rfl rfl rfl (kd_al_r kd_C55q16 trivial) (by decide) (by decide +kernel) kd_e55q16 (kd_al_r kd_S55q16 ⟨kd_r55q16_0, kd_r55q16_1, kd_r55q16_2, kd_r55q16_3, kd_r55q16_4, kd_r55q16_5, kd_r55q16_6, trivial⟩)
def kd_T55q17 : kd_Tc := ([(3, 1, 1), (0, 2147483648, 2147483648), (2, 0, 18446744073709551615), (0, 2147483655, 2147483655)], [], kd_P55)
def kd_C55q17 : List (Nat × kd_Tc) := []
def kd_S55q17_0 : kd_St := (47, [(2147483648, 2147483881)], 1, [(3, 1, 1), (0, 2147483648, 2147483648), (2, 0, 18446744073709551615), (9, 0, 0), (0, 2147483655, 2147483655), (0, 2147483654, 2147483654)], [(31, 0, (1, 0, 2147483648))], [], [(0, (0, 48, 48)), (1, (0, 2147483654, 2147483654))])
def kd_S55q17_1 : kd_St := (47, [(2147483649, 2147483882)], 1, [(3, 1, 1), (0, 2147483648, 2147483648), (2, 0, 18446744073709551615), (9, 0, 0), (0, 2147483655, 2147483655), (0, 2147483653, 2147483653)], [(31, 0, (1, 0, 2147483648))], [(31, 31, 0, 0), (29, 29, 0, 233)], [(0, (0, 48, 48)), (1, (0, 2147483653, 2147483653))])
def kd_S55q17_2 : kd_St := (47, [(2147483650, 2147483883)], 1, [(3, 1, 1), (0, 2147483648, 2147483648), (2, 0, 18446744073709551615), (9, 0, 0), (0, 2147483655, 2147483655), (0, 2147483652, 2147483652)], [(31, 0, (1, 0, 2147483648))], [(31, 31, 0, 0), (29, 29, 0, 234)], [(0, (0, 48, 48)), (1, (0, 2147483652, 2147483652))])
def kd_S55q17_3 : kd_St := (47, [(2147483651, 2147483884)], 1, [(3, 1, 1), (0, 2147483648, 2147483648), (2, 0, 18446744073709551615), (9, 0, 0), (0, 2147483655, 2147483655), (0, 2147483651, 2147483651)], [(31, 0, (1, 0, 2147483648))], [(31, 31, 0, 0), (29, 29, 0, 235)], [(0, (0, 48, 48)), (1, (0, 2147483651, 2147483651))])
def kd_S55q17_4 : kd_St := (47, [(2147483652, 2147483885)], 1, [(3, 1, 1), (0, 2147483648, 2147483648), (2, 0, 18446744073709551615), (9, 0, 0), (0, 2147483655, 2147483655), (0, 2147483650, 2147483650)], [(31, 0, (1, 0, 2147483648))], [(31, 31, 0, 0), (29, 29, 0, 236)], [(0, (0, 48, 48)), (1, (0, 2147483650, 2147483650))])
def kd_S55q17_5 : kd_St := (47, [(2147483653, 2147483886)], 1, [(3, 1, 1), (0, 2147483648, 2147483648), (2, 0, 18446744073709551615), (9, 0, 0), (0, 2147483655, 2147483655), (0, 2147483649, 2147483649)], [(31, 0, (1, 0, 2147483648))], [(31, 31, 0, 0), (29, 29, 0, 237)], [(0, (0, 48, 48)), (1, (0, 2147483649, 2147483649))])
def kd_S55q17_6 : kd_St := (47, [(2147483654, 2147483887)], 1, [(3, 1, 1), (0, 2147483648, 2147483648), (2, 0, 18446744073709551615), (9, 0, 0), (0, 2147483655, 2147483655), (0, 2147483648, 2147483648)], [(31, 0, (1, 0, 2147483648))], [(31, 31, 0, 0), (29, 29, 0, 238)], [(0, (0, 48, 48)), (1, (0, 2147483648, 2147483648))])
def kd_S55q17_7 : kd_St := (47, [(2147483655, 2147483888)], 1, [(3, 1, 1), (0, 2147483648, 2147483648), (2, 0, 18446744073709551615), (9, 0, 0), (0, 2147483655, 2147483655), (0, 2147483647, 2147483647)], [(31, 0, (1, 0, 2147483648))], [(31, 31, 0, 0), (29, 29, 0, 239)], [(0, (0, 48, 48)), (1, (0, 2147483647, 2147483647))])
def kd_S55q17 : List kd_St := [kd_S55q17_0, kd_S55q17_1, kd_S55q17_2, kd_S55q17_3, kd_S55q17_4, kd_S55q17_5, kd_S55q17_6, kd_S55q17_7]
theorem kd_e55q17 : kd_run0 kd_ty kd_x55 6 (kd_call kd_ty kd_xt (kd_ctl kd_C55q17) 600 1) kd_T55q17 600 kd_S55q17 = true := by decide +kernel
theorem kd_r55q17_0 : kd_run1 kd_ty kd_x55 6 (kd_call kd_ty kd_xt (kd_ctl kd_C55q17) 600 1) kd_T55q17.2.2 600 kd_S55q17 kd_S55q17_0 = true := by decide +kernel
theorem kd_r55q17_1 : kd_run1 kd_ty kd_x55 6 (kd_call kd_ty kd_xt (kd_ctl kd_C55q17) 600 1) kd_T55q17.2.2 600 kd_S55q17 kd_S55q17_1 = true := by decide +kernel
theorem kd_r55q17_2 : kd_run1 kd_ty kd_x55 6 (kd_call kd_ty kd_xt (kd_ctl kd_C55q17) 600 1) kd_T55q17.2.2 600 kd_S55q17 kd_S55q17_2 = true := by decide +kernel
theorem kd_r55q17_3 : kd_run1 kd_ty kd_x55 6 (kd_call kd_ty kd_xt (kd_ctl kd_C55q17) 600 1) kd_T55q17.2.2 600 kd_S55q17 kd_S55q17_3 = true := by decide +kernel
theorem kd_r55q17_4 : kd_run1 kd_ty kd_x55 6 (kd_call kd_ty kd_xt (kd_ctl kd_C55q17) 600 1) kd_T55q17.2.2 600 kd_S55q17 kd_S55q17_4 = true := by decide +kernel
theorem kd_r55q17_5 : kd_run1 kd_ty kd_x55 6 (kd_call kd_ty kd_xt (kd_ctl kd_C55q17) 600 1) kd_T55q17.2.2 600 kd_S55q17 kd_S55q17_5 = true := by decide +kernel
theorem kd_r55q17_6 : kd_run1 kd_ty kd_x55 6 (kd_call kd_ty kd_xt (kd_ctl kd_C55q17) 600 1) kd_T55q17.2.2 600 kd_S55q17 kd_S55q17_6 = true := by decide +kernel
theorem kd_r55q17_7 : kd_run1 kd_ty kd_x55 6 (kd_call kd_ty kd_xt (kd_ctl kd_C55q17) 600 1) kd_T55q17.2.2 600 kd_S55q17 kd_S55q17_7 = true := by decide +kernel
theorem kd_h55q17 {g : kc_G} (hg : kc_ok g) : kd_hold g 2 kd_ty 55 kd_T55q17 := kd_mk (d0 := 0) (di := 1) hg kd_xk55 rfl rfl rfl rfl (kd_al_r kd_C55q17 trivial) (by decide) (by decide +kernel) kd_e55q17 (kd_al_r kd_S55q17 ⟨kd_r55q17_0, kd_r55q17_1, kd_r55q17_2, kd_r55q17_3, kd_r55q17_4, kd_r55q17_5, kd_r55q17_6, kd_r55q17_7, trivial⟩)
def kd_T55q18 : kd_Tc := ([(3, 1, 1), (0, 2147483648, 2147483648), (2, 0, 18446744073709551615), (0, 2147483656, 2147483656)], [], kd_P55)
def kd_C55q18 : List (Nat × kd_Tc) := []
def kd_S55q18_0 : kd_St := (47, [(2147483648, 2147483880)], 1, [(3, 1, 1), (0, 2147483648, 2147483648), (2, 0, 18446744073709551615), (9, 0, 0), (0, 2147483656, 2147483656), (0, 2147483655, 2147483655)], [(31, 0, (1, 0, 2147483648))], [], [(0, (0, 48, 48)), (1, (0, 2147483655, 2147483655))])
def kd_S55q18_1 : kd_St := (47, [(2147483649, 2147483881)], 1, [(3, 1, 1), (0, 2147483648, 2147483648), (2, 0, 18446744073709551615), (9, 0, 0), (0, 2147483656, 2147483656), (0, 2147483654, 2147483654)], [(31, 0, (1, 0, 2147483648))], [(31, 31, 0, 0), (29, 29, 0, 232)], [(0, (0, 48, 48)), (1, (0, 2147483654, 2147483654))])
def kd_S55q18_2 : kd_St := (47, [(2147483650, 2147483882)], 1, [(3, 1, 1), (0, 2147483648, 2147483648), (2, 0, 18446744073709551615), (9, 0, 0), (0, 2147483656, 2147483656), (0, 2147483653, 2147483653)], [(31, 0, (1, 0, 2147483648))], [(31, 31, 0, 0), (29, 29, 0, 233)], [(0, (0, 48, 48)), (1, (0, 2147483653, 2147483653))])
def kd_S55q18_3 : kd_St := (47, [(2147483651, 2147483883)], 1, [(3, 1, 1), (0, 2147483648, 2147483648), (2, 0, 18446744073709551615), (9, 0, 0), (0, 2147483656, 2147483656), (0, 2147483652, 2147483652)], [(31, 0, (1, 0, 2147483648))], [(31, 31, 0, 0), (29, 29, 0, 234)], [(0, (0, 48, 48)), (1, (0, 2147483652, 2147483652))])
def kd_S55q18_4 : kd_St := (47, [(2147483652, 2147483884)], 1, [(3, 1, 1), (0, 2147483648, 2147483648), (2, 0, 18446744073709551615), (9, 0, 0), (0, 2147483656, 2147483656), (0, 2147483651, 2147483651)], [(31, 0, (1, 0, 2147483648))], [(31, 31, 0, 0), (29, 29, 0, 235)], [(0, (0, 48, 48)), (1, (0, 2147483651, 2147483651))])
def kd_S55q18_5 : kd_St := (47, [(2147483653, 2147483885)], 1, [(3, 1, 1), (0, 2147483648, 2147483648), (2, 0, 18446744073709551615), (9, 0, 0), (0, 2147483656, 2147483656), (0, 2147483650, 2147483650)], [(31, 0, (1, 0, 2147483648))], [(31, 31, 0, 0), (29, 29, 0, 236)], [(0, (0, 48, 48)), (1, (0, 2147483650, 2147483650))])
def kd_S55q18_6 : kd_St := (47, [(2147483654, 2147483886)], 1, [(3, 1, 1), (0, 2147483648, 2147483648), (2, 0, 18446744073709551615), (9, 0, 0), (0, 2147483656, 2147483656), (0, 2147483649, 2147483649)], [(31, 0, (1, 0, 2147483648))], [(31, 31, 0, 0), (29, 29, 0, 237)], [(0, (0, 48, 48)), (1, (0, 2147483649, 2147483649))])
def kd_S55q18_7 : kd_St := (47, [(2147483655, 2147483887)], 1, [(3, 1, 1), (0, 2147483648, 2147483648), (2, 0, 18446744073709551615), (9, 0, 0), (0, 2147483656, 2147483656), (0, 2147483648, 2147483648)], [(31, 0, (1, 0, 2147483648))], [(31, 31, 0, 0), (29, 29, 0, 238)], [(0, (0, 48, 48)), (1, (0, 2147483648, 2147483648))])
def kd_S55q18_8 : kd_St := (47, [(2147483656, 2147483888)], 1, [(3, 1, 1), (0, 2147483648, 2147483648), (2, 0, 18446744073709551615), (9, 0, 0), (0, 2147483656, 2147483656), (0, 2147483647, 2147483647)], [(31, 0, (1, 0, 2147483648))], [(31, 31, 0, 0), (29, 29, 0, 239)], [(0, (0, 48, 48)), (1, (0, 2147483647, 2147483647))])
def kd_S55q18 : List kd_St := [kd_S55q18_0, kd_S55q18_1, kd_S55q18_2, kd_S55q18_3, kd_S55q18_4, kd_S55q18_5, kd_S55q18_6, kd_S55q18_7, kd_S55q18_8]
theorem kd_e55q18 : kd_run0 kd_ty kd_x55 6 (kd_call kd_ty kd_xt (kd_ctl kd_C55q18) 600 1) kd_T55q18 600 kd_S55q18 = true := by decide +kernel
theorem kd_r55q18_0 : kd_run1 kd_ty kd_x55 6 (kd_call kd_ty kd_xt (kd_ctl kd_C55q18) 600 1) kd_T55q18.2.2 600 kd_S55q18 kd_S55q18_0 = true := by decide +kernel
theorem kd_r55q18_1 : kd_run1 kd_ty kd_x55 6 (kd_call kd_ty kd_xt (kd_ctl kd_C55q18) 600 1) kd_T55q18.2.2 600 kd_S55q18 kd_S55q18_1 = true := by decide +kernel
theorem kd_r55q18_2 : kd_run1 kd_ty kd_x55 6 (kd_call kd_ty kd_xt (kd_ctl kd_C55q18) 600 1) kd_T55q18.2.2 600 kd_S55q18 kd_S55q18_2 = true := by decide +kernel
theorem kd_r55q18_3 : kd_run1 kd_ty kd_x55 6 (kd_call kd_ty kd_xt (kd_ctl kd_C55q18) 600 1) kd_T55q18.2.2 600 kd_S55q18 kd_S55q18_3 = true := by decide +kernel
theorem kd_r55q18_4 : kd_run1 kd_ty kd_x55 6 (kd_call kd_ty kd_xt (kd_ctl kd_C55q18) 600 1) kd_T55q18.2.2 600 kd_S55q18 kd_S55q18_4 = true := by decide +kernel
theorem kd_r55q18_5 : kd_run1 kd_ty kd_x55 6 (kd_call kd_ty kd_xt (kd_ctl kd_C55q18) 600 1) kd_T55q18.2.2 600 kd_S55q18 kd_S55q18_5 = true := by decide +kernel
theorem kd_r55q18_6 : kd_run1 kd_ty kd_x55 6 (kd_call kd_ty kd_xt (kd_ctl kd_C55q18) 600 1) kd_T55q18.2.2 600 kd_S55q18 kd_S55q18_6 = true := by decide +kernel
theorem kd_r55q18_7 : kd_run1 kd_ty kd_x55 6 (kd_call kd_ty kd_xt (kd_ctl kd_C55q18) 600 1) kd_T55q18.2.2 600 kd_S55q18 kd_S55q18_7 = true := by decide +kernel
theorem kd_r55q18_8 : kd_run1 kd_ty kd_x55 6 (kd_call kd_ty kd_xt (kd_ctl kd_C55q18) 600 1) kd_T55q18.2.2 600 kd_S55q18 kd_S55q18_8 = true := by decide +kernel
theorem kd_h55q18 {g : kc_G} (hg : kc_ok g) : kd_hold g 2 kd_ty 55 kd_T55q18 := kd_mk (d0 := 0) (di := 1) hg kd_xk55 rfl rfl rfl rfl (kd_al_r kd_C55q18 trivial) (by decide) (by decide +kernel) kd_e55q18 (kd_al_r kd_S55q18 ⟨kd_r55q18_0, kd_r55q18_1, kd_r55q18_2, kd_r55q18_3, kd_r55q18_4, kd_r55q18_5, kd_r55q18_6, kd_r55q18_7, kd_r55q18_8, trivial⟩)
def kd_T55q19 : kd_Tc := ([(3, 1, 1), (0, 2147483648, 2147483648), (2, 0, 18446744073709551615), (0, 2147483657, 4294967295)], [], kd_P55)
def kd_C55q19 : List (Nat × kd_Tc) := []
def kd_S55q19 : List kd_St := []
theorem kd_e55q19 : kd_run0 kd_ty kd_x55 6 (kd_call kd_ty kd_xt (kd_ctl kd_C55q19) 600 1) kd_T55q19 600 kd_S55q19 = true := by decide +kernel
theorem kd_h55q19 {g : kc_G} (hg : kc_ok g) : kd_hold g 2 kd_ty 55 kd_T55q19 := kd_mk (d0 := 0) (di := 1) hg kd_xk55 rfl rfl rfl rfl (kd_al_r kd_C55q19 trivial) (by decide) (by decide +kernel) kd_e55q19 (kd_al_r kd_S55q19 trivial)
def kd_T55q20 : kd_Tc := ([(3, 1, 1), (0, 2147483649, 2147483649), (2, 0, 18446744073709551615), (0, 0, 2147483648)], [], kd_P55)
def kd_C55q20 : List (Nat × kd_Tc) := []
def kd_S55q20 : List kd_St := []
theorem kd_e55q20 : kd_run0 kd_ty kd_x55 6 (kd_call kd_ty kd_xt (kd_ctl kd_C55q20) 600 1) kd_T55q20 600 kd_S55q20 = true := by decide +kernel
theorem kd_h55q20 {g : kc_G} (hg : kc_ok g) : kd_hold g 2 kd_ty 55 kd_T55q20 := kd_mk (d0 := 0) (di := 1) hg kd_xk55 rfl rfl rfl rfl (kd_al_r kd_C55q20 trivial) (by decide) (by decide +kernel) kd_e55q20 (kd_al_r kd_S55q20 trivial)
def kd_T55q21 : kd_Tc := ([(3, 1, 1), (0, 2147483649, 2147483649), (2, 0, 18446744073709551615), (0, 2147483649, 2147483649)], [], kd_P55)
def kd_C55q21 : List (Nat × kd_Tc) := []
def kd_S55q21_0 : kd_St := (47, [(2147483648, 2147483887)], 1, [(3, 1, 1), (0, 2147483649, 2147483649), (2, 0, 18446744073709551615), (9, 0, 0), (0, 2147483649, 2147483649), (0, 2147483648, 2147483648)], [(31, 1, (1, 0, 2147483648))], [], [(0, (0, 48, 48)), (1, (0, 2147483648, 2147483648))])
def kd_S55q21_1 : kd_St := (47, [(2147483649, 2147483888)], 1, [(3, 1, 1), (0, 2147483649, 2147483649), (2, 0, 18446744073709551615), (9, 0, 0), (0, 2147483649, 2147483649), (0, 2147483647, 2147483647)], [(31, 1, (1, 0, 2147483648))], [(30, 30, 0, 239), (31, 31, 1, 1)], [(0, (0, 48, 48)), (1, (0, 2147483647, 2147483647))])
def kd_S55q21 : List kd_St := [kd_S55q21_0, kd_S55q21_1]
theorem kd_e55q21 : kd_run0 kd_ty kd_x55 6 (kd_call kd_ty kd_xt (kd_ctl kd_C55q21) 600 1) kd_T55q21 600 kd_S55q21 = true := by decide +kernel
theorem kd_r55q21_0 : kd_run1 kd_ty kd_x55 6 (kd_call kd_ty kd_xt (kd_ctl kd_C55q21) 600 1) kd_T55q21.2.2 600 kd_S55q21 kd_S55q21_0 = true := by decide +kernel
theorem kd_r55q21_1 : kd_run1 kd_ty kd_x55 6 (kd_call kd_ty kd_xt (kd_ctl kd_C55q21) 600 1) kd_T55q21.2.2 600 kd_S55q21 kd_S55q21_1 = true := by decide +kernel
theorem kd_h55q21 {g : kc_G} (hg : kc_ok g) : kd_hold g 2 kd_ty 55 kd_T55q21 := kd_mk (d0 := 0) (di := 1) hg kd_xk55 rfl rfl rfl rfl (kd_al_r kd_C55q21 trivial) (by decide) (by decide +kernel) kd_e55q21 (kd_al_r kd_S55q21 ⟨kd_r55q21_0, kd_r55q21_1, trivial⟩)
def kd_T55q22 : kd_Tc := ([(3, 1, 1), (0, 2147483649, 2147483649), (2, 0, 18446744073709551615), (0, 2147483650, 2147483650)], [], kd_P55)
def kd_C55q22 : List (Nat × kd_Tc) := []
def kd_S55q22_0 : kd_St := (47, [(2147483648, 2147483886)], 1, [(3, 1, 1), (0, 2147483649, 2147483649), (2, 0, 18446744073709551615), (9, 0, 0), (0, 2147483650, 2147483650), (0, 2147483649, 2147483649)], [(31, 1, (1, 0, 2147483648))], [], [(0, (0, 48, 48)), (1, (0, 2147483649, 2147483649))])
def kd_S55q22_1 : kd_St := (47, [(2147483649, 2147483887)], 1, [(3, 1, 1), (0, 2147483649, 2147483649), (2, 0, 18446744073709551615), (9, 0, 0), (0, 2147483650, 2147483650), (0, 2147483648, 2147483648)], [(31, 1, (1, 0, 2147483648))], [(30, 30, 0, 238), (31, 31, 1, 1)], [(0, (0, 48, 48)), (1, (0, 2147483648, 2147483648))])
def kd_S55q22_2 : kd_St := (47, [(2147483650, 2147483888)], 1, [(3, 1, 1), (0, 2147483649, 2147483649), (2, 0, 18446744073709551615), (9, 0, 0), (0, 2147483650, 2147483650), (0, 2147483647, 2147483647)], [(31, 1, (1, 0, 2147483648))], [(30, 30, 0, 239), (31, 31, 1, 1)], [(0, (0, 48, 48)), (1, (0, 2147483647, 2147483647))])
def kd_S55q22 : List kd_St := [kd_S55q22_0, kd_S55q22_1, kd_S55q22_2]
theorem kd_e55q22 : kd_run0 kd_ty kd_x55 6 (kd_call kd_ty kd_xt (kd_ctl kd_C55q22) 600 1) kd_T55q22 600 kd_S55q22 = true := by decide +kernel
theorem kd_r55q22_0 : kd_run1 kd_ty kd_x55 6 (kd_call kd_ty kd_xt (kd_ctl kd_C55q22) 600 1) kd_T55q22.2.2 600 kd_S55q22 kd_S55q22_0 = true := by decide +kernel
theorem kd_r55q22_1 : kd_run1 kd_ty kd_x55 6 (kd_call kd_ty kd_xt (kd_ctl kd_C55q22) 600 1) kd_T55q22.2.2 600 kd_S55q22 kd_S55q22_1 = true := by decide +kernel
theorem kd_r55q22_2 : kd_run1 kd_ty kd_x55 6 (kd_call kd_ty kd_xt (kd_ctl kd_C55q22) 600 1) kd_T55q22.2.2 600 kd_S55q22 kd_S55q22_2 = true := by decide +kernel
theorem kd_h55q22 {g : kc_G} (hg : kc_ok g) : kd_hold g 2 kd_ty 55 kd_T55q22 := kd_mk (d0 := 0) (di := 1) hg kd_xk55 rfl rfl rfl rfl (kd_al_r kd_C55q22 trivial) (by decide) (by decide +kernel) kd_e55q22 (kd_al_r kd_S55q22 ⟨kd_r55q22_0, kd_r55q22_1, kd_r55q22_2, trivial⟩)
def kd_T55q23 : kd_Tc := ([(3, 1, 1), (0, 2147483649, 2147483649), (2, 0, 18446744073709551615), (0, 2147483651, 2147483651)], [], kd_P55)
def kd_C55q23 : List (Nat × kd_Tc) := []
def kd_S55q23_0 : kd_St := (47, [(2147483648, 2147483885)], 1, [(3, 1, 1), (0, 2147483649, 2147483649), (2, 0, 18446744073709551615), (9, 0, 0), (0, 2147483651, 2147483651), (0, 2147483650, 2147483650)], [(31, 1, (1, 0, 2147483648))], [], [(0, (0, 48, 48)), (1, (0, 2147483650, 2147483650))])
def kd_S55q23_1 : kd_St := (47, [(2147483649, 2147483886)], 1, [(3, 1, 1), (0, 2147483649, 2147483649), (2, 0, 18446744073709551615), (9, 0, 0), (0, 2147483651, 2147483651), (0, 2147483649, 2147483649)], [(31, 1, (1, 0, 2147483648))], [(30, 30, 0, 237), (31, 31, 1, 1)], [(0, (0, 48, 48)), (1, (0, 2147483649, 2147483649))])
def kd_S55q23_2 : kd_St := (47, [(2147483650, 2147483887)], 1, [(3, 1, 1), (0, 2147483649, 2147483649), (2, 0, 18446744073709551615), (9, 0, 0), (0, 2147483651, 2147483651), (0, 2147483648, 2147483648)], [(31, 1, (1, 0, 2147483648))], [(30, 30, 0, 238), (31, 31, 1, 1)], [(0, (0, 48, 48)), (1, (0, 2147483648, 2147483648))])
def kd_S55q23_3 : kd_St := (47, [(2147483651, 2147483888)], 1, [(3, 1, 1), (0, 2147483649, 2147483649), (2, 0, 18446744073709551615), (9, 0, 0), (0, 2147483651, 2147483651), (0, 2147483647, 2147483647)], [(31, 1, (1, 0, 2147483648))], [(30, 30, 0, 239), (31, 31, 1, 1)], [(0, (0, 48, 48)), (1, (0, 2147483647, 2147483647))])
def kd_S55q23 : List kd_St := [kd_S55q23_0, kd_S55q23_1, kd_S55q23_2, kd_S55q23_3]
theorem kd_e55q23 : kd_run0 kd_ty kd_x55 6 (kd_call kd_ty kd_xt (kd_ctl kd_C55q23) 600 1) kd_T55q23 600 kd_S55q23 = true := by decide +kernel
theorem kd_r55q23_0 : kd_run1 kd_ty kd_x55 6 (kd_call kd_ty kd_xt (kd_ctl kd_C55q23) 600 1) kd_T55q23.2.2 600 kd_S55q23 kd_S55q23_0 = true := by decide +kernel
theorem kd_r55q23_1 : kd_run1 kd_ty kd_x55 6 (kd_call kd_ty kd_xt (kd_ctl kd_C55q23) 600 1) kd_T55q23.2.2 600 kd_S55q23 kd_S55q23_1 = true := by decide +kernel
theorem kd_r55q23_2 : kd_run1 kd_ty kd_x55 6 (kd_call kd_ty kd_xt (kd_ctl kd_C55q23) 600 1) kd_T55q23.2.2 600 kd_S55q23 kd_S55q23_2 = true := by decide +kernel
theorem kd_r55q23_3 : kd_run1 kd_ty kd_x55 6 (kd_call kd_ty kd_xt (kd_ctl kd_C55q23) 600 1) kd_T55q23.2.2 600 kd_S55q23 kd_S55q23_3 = true := by decide +kernel
theorem kd_h55q23 {g : kc_G} (hg : kc_ok g) : kd_hold g 2 kd_ty 55 kd_T55q23 := kd_mk (d0 := 0) (di := 1) hg kd_xk55 rfl rfl rfl rfl (kd_al_r kd_C55q23 trivial) (by decide) (by decide +kernel) kd_e55q23 (kd_al_r kd_S55q23 ⟨kd_r55q23_0, kd_r55q23_1, kd_r55q23_2, kd_r55q23_3, trivial⟩)
def kd_T55q24 : kd_Tc := ([(3, 1, 1), (0, 2147483649, 2147483649), (2, 0, 18446744073709551615), (0, 2147483652, 2147483652)], [], kd_P55)
def kd_C55q24 : List (Nat × kd_Tc) := []
def kd_S55q24_0 : kd_St := (47, [(2147483648, 2147483884)], 1, [(3, 1, 1), (0, 2147483649, 2147483649), (2, 0, 18446744073709551615), (9, 0, 0), (0, 2147483652, 2147483652), (0, 2147483651, 2147483651)], [(31, 1, (1, 0, 2147483648))], [], [(0, (0, 48, 48)), (1, (0, 2147483651, 2147483651))])
def kd_S55q24_1 : kd_St := (47, [(2147483649, 2147483885)], 1, [(3, 1, 1), (0, 2147483649, 2147483649), (2, 0, 18446744073709551615), (9, 0, 0), (0, 2147483652, 2147483652), (0, 2147483650, 2147483650)], [(31, 1, (1, 0, 2147483648))], [(30, 30, 0, 236), (31, 31, 1, 1)], [(0, (0, 48, 48)), (1, (0, 2147483650, 2147483650))])
def kd_S55q24_2 : kd_St := (47, [(2147483650, 2147483886)], 1, [(3, 1, 1), (0, 2147483649, 2147483649), (2, 0, 18446744073709551615), (9, 0, 0), (0, 2147483652, 2147483652), (0, 2147483649, 2147483649)], [(31, 1, (1, 0, 2147483648))], [(30, 30, 0, 237), (31, 31, 1, 1)], [(0, (0, 48, 48)), (1, (0, 2147483649, 2147483649))])
def kd_S55q24_3 : kd_St := (47, [(2147483651, 2147483887)], 1, [(3, 1, 1), (0, 2147483649, 2147483649), (2, 0, 18446744073709551615), (9, 0, 0), (0, 2147483652, 2147483652), (0, 2147483648, 2147483648)], [(31, 1, (1, 0, 2147483648))], [(30, 30, 0, 238), (31, 31, 1, 1)], [(0, (0, 48, 48)), (1, (0, 2147483648, 2147483648))])
def kd_S55q24_4 : kd_St := (47, [(2147483652, 2147483888)], 1, [(3, 1, 1), (0, 2147483649, 2147483649), (2, 0, 18446744073709551615), (9, 0, 0), (0, 2147483652, 2147483652), (0, 2147483647, 2147483647)], [(31, 1, (1, 0, 2147483648))], [(30, 30, 0, 239), (31, 31, 1, 1)], [(0, (0, 48, 48)), (1, (0, 2147483647, 2147483647))])
def kd_S55q24 : List kd_St := [kd_S55q24_0, kd_S55q24_1, kd_S55q24_2, kd_S55q24_3, kd_S55q24_4]
theorem kd_e55q24 : kd_run0 kd_ty kd_x55 6 (kd_call kd_ty kd_xt (kd_ctl kd_C55q24) 600 1) kd_T55q24 600 kd_S55q24 = true := by decide +kernel
theorem kd_r55q24_0 : kd_run1 kd_ty kd_x55 6 (kd_call kd_ty kd_xt (kd_ctl kd_C55q24) 600 1) kd_T55q24.2.2 600 kd_S55q24 kd_S55q24_0 = true := by decide +kernel
theorem kd_r55q24_1 : kd_run1 kd_ty kd_x55 6 (kd_call kd_ty kd_xt (kd_ctl kd_C55q24) 600 1) kd_T55q24.2.2 600 kd_S55q24 kd_S55q24_1 = true := by decide +kernel
theorem kd_r55q24_2 : kd_run1 kd_ty kd_x55 6 (kd_call kd_ty kd_xt (kd_ctl kd_C55q24) 600 1) kd_T55q24.2.2 600 kd_S55q24 kd_S55q24_2 = true := by decide +kernel
theorem kd_r55q24_3 : kd_run1 kd_ty kd_x55 6 (kd_call kd_ty kd_xt (kd_ctl kd_C55q24) 600 1) kd_T55q24.2.2 600 kd_S55q24 kd_S55q24_3 = true := by decide +kernel
theorem kd_r55q24_4 : kd_run1 kd_ty kd_x55 6 (kd_call kd_ty kd_xt (kd_ctl kd_C55q24) 600 1) kd_T55q24.2.2 600 kd_S55q24 kd_S55q24_4 = true := by decide +kernel
theorem kd_h55q24 {g : kc_G} (hg : kc_ok g) : kd_hold g 2 kd_ty 55 kd_T55q24 := kd_mk (d0 := 0) (di := 1) hg kd_xk55 rfl rfl rfl rfl (kd_al_r kd_C55q24 trivial) (by decide) (by decide +kernel) kd_e55q24 (kd_al_r kd_S55q24 ⟨kd_r55q24_0, kd_r55q24_1, kd_r55q24_2, kd_r55q24_3, kd_r55q24_4, trivial⟩)
def kd_T55q25 : kd_Tc := ([(3, 1, 1), (0, 2147483649, 2147483649), (2, 0, 18446744073709551615), (0, 2147483653, 2147483653)], [], kd_P55)
def kd_C55q25 : List (Nat × kd_Tc) := []
def kd_S55q25_0 : kd_St := (47, [(2147483648, 2147483883)], 1, [(3, 1, 1), (0, 2147483649, 2147483649), (2, 0, 18446744073709551615), (9, 0, 0), (0, 2147483653, 2147483653), (0, 2147483652, 2147483652)], [(31, 1, (1, 0, 2147483648))], [], [(0, (0, 48, 48)), (1, (0, 2147483652, 2147483652))])
def kd_S55q25_1 : kd_St := (47, [(2147483649, 2147483884)], 1, [(3, 1, 1), (0, 2147483649, 2147483649), (2, 0, 18446744073709551615), (9, 0, 0), (0, 2147483653, 2147483653), (0, 2147483651, 2147483651)], [(31, 1, (1, 0, 2147483648))], [(30, 30, 0, 235), (31, 31, 1, 1)], [(0, (0, 48, 48)), (1, (0, 2147483651, 2147483651))])
def kd_S55q25_2 : kd_St := (47, [(2147483650, 2147483885)], 1, [(3, 1, 1), (0, 2147483649, 2147483649), (2, 0, 18446744073709551615), (9, 0, 0), (0, 2147483653, 2147483653), (0, 2147483650, 2147483650)], [(31, 1, (1, 0, 2147483648))], [(30, 30, 0, 236), (31, 31, 1, 1)], [(0, (0, 48, 48)), (1, (0, 2147483650, 2147483650))])
def kd_S55q25_3 : kd_St := (47, [(2147483651, 2147483886)], 1, [(3, 1, 1), (0, 2147483649, 2147483649), (2, 0, 18446744073709551615), (9, 0, 0), (0, 2147483653, 2147483653), (0, 2147483649, 2147483649)], [(31, 1, (1, 0, 2147483648))], [(30, 30, 0, 237), (31, 31, 1, 1)], [(0, (0, 48, 48)), (1, (0, 2147483649, 2147483649))])
def kd_S55q25_4 : kd_St := (47, [(2147483652, 2147483887)], 1, [(3, 1, 1), (0, 2147483649, 2147483649), (2, 0, 18446744073709551615), (9, 0, 0), (0, 2147483653, 2147483653), (0, 2147483648, 2147483648)], [(31, 1, (1, 0, 2147483648))], [(30, 30, 0, 238), (31, 31, 1, 1)], [(0, (0, 48, 48)), (1, (0, 2147483648, 2147483648))])
def kd_S55q25_5 : kd_St := (47, [(2147483653, 2147483888)], 1, [(3, 1, 1), (0, 2147483649, 2147483649), (2, 0, 18446744073709551615), (9, 0, 0), (0, 2147483653, 2147483653), (0, 2147483647, 2147483647)], [(31, 1, (1, 0, 2147483648))], [(30, 30, 0, 239), (31, 31, 1, 1)], [(0, (0, 48, 48)), (1, (0, 2147483647, 2147483647))])
def kd_S55q25 : List kd_St := [kd_S55q25_0, kd_S55q25_1, kd_S55q25_2, kd_S55q25_3, kd_S55q25_4, kd_S55q25_5]
theorem kd_e55q25 : kd_run0 kd_ty kd_x55 6 (kd_call kd_ty kd_xt (kd_ctl kd_C55q25) 600 1) kd_T55q25 600 kd_S55q25 = true := by decide +kernel
theorem kd_r55q25_0 : kd_run1 kd_ty kd_x55 6 (kd_call kd_ty kd_xt (kd_ctl kd_C55q25) 600 1) kd_T55q25.2.2 600 kd_S55q25 kd_S55q25_0 = true := by decide +kernel
theorem kd_r55q25_1 : kd_run1 kd_ty kd_x55 6 (kd_call kd_ty kd_xt (kd_ctl kd_C55q25) 600 1) kd_T55q25.2.2 600 kd_S55q25 kd_S55q25_1 = true := by decide +kernel
theorem kd_r55q25_2 : kd_run1 kd_ty kd_x55 6 (kd_call kd_ty kd_xt (kd_ctl kd_C55q25) 600 1) kd_T55q25.2.2 600 kd_S55q25 kd_S55q25_2 = true := by decide +kernel
theorem kd_r55q25_3 : kd_run1 kd_ty kd_x55 6 (kd_call kd_ty kd_xt (kd_ctl kd_C55q25) 600 1) kd_T55q25.2.2 600 kd_S55q25 kd_S55q25_3 = true := by decide +kernel
theorem kd_r55q25_4 : kd_run1 kd_ty kd_x55 6 (kd_call kd_ty kd_xt (kd_ctl kd_C55q25) 600 1) kd_T55q25.2.2 600 kd_S55q25 kd_S55q25_4 = true := by decide +kernel
theorem kd_r55q25_5 : kd_run1 kd_ty kd_x55 6 (kd_call kd_ty kd_xt (kd_ctl kd_C55q25) 600 1) kd_T55q25.2.2 600 kd_S55q25 kd_S55q25_5 = true := by decide +kernel
theorem kd_h55q25 {g : kc_G} (hg : kc_ok g) : kd_hold g 2 kd_ty 55 kd_T55q25 := kd_mk (d0 := 0) (di := 1) hg kd_xk55 rfl rfl rfl rfl (kd_al_r kd_C55q25 trivial) (by decide) (by decide +kernel) kd_e55q25 (kd_al_r kd_S55q25 ⟨kd_r55q25_0, kd_r55q25_1, kd_r55q25_2, kd_r55q25_3, kd_r55q25_4, kd_r55q25_5, trivial⟩)
def kd_T55q26 : kd_Tc := ([(3, 1, 1), (0, 2147483649, 2147483649), (2, 0, 18446744073709551615), (0, 2147483654, 2147483654)], [], kd_P55)
def kd_C55q26 : List (Nat × kd_Tc) := []
def kd_S55q26_0 : kd_St := (47, [(2147483648, 2147483882)], 1, [(3, 1, 1), (0, 2147483649, 2147483649), (2, 0, 18446744073709551615), (9, 0, 0), (0, 2147483654, 2147483654), (0, 2147483653, 2147483653)], [(31, 1, (1, 0, 2147483648))], [], [(0, (0, 48, 48)), (1, (0, 2147483653, 2147483653))])
def kd_S55q26_1 : kd_St := (47, [(2147483649, 2147483883)], 1, [(3, 1, 1), (0, 2147483649, 2147483649), (2, 0, 18446744073709551615), (9, 0, 0), (0, 2147483654, 2147483654), (0, 2147483652, 2147483652)], [(31, 1, (1, 0, 2147483648))], [(30, 30, 0, 234), (31, 31, 1, 1)], [(0, (0, 48, 48)), (1, (0, 2147483652, 2147483652))])
def kd_S55q26_2 : kd_St := (47, [(2147483650, 2147483884)], 1, [(3, 1, 1), (0, 2147483649, 2147483649), (2, 0, 18446744073709551615), (9, 0, 0), (0, 2147483654, 2147483654), (0, 2147483651, 2147483651)], [(31, 1, (1, 0, 2147483648))], [(30, 30, 0, 235), (31, 31, 1, 1)], [(0, (0, 48, 48)), (1, (0, 2147483651, 2147483651))])
def kd_S55q26_3 : kd_St := (47, [(2147483651, 2147483885)], 1, [(3, 1, 1), (0, 2147483649, 2147483649), (2, 0, 18446744073709551615), (9, 0, 0), (0, 2147483654, 2147483654), (0, 2147483650, 2147483650)], [(31, 1, (1, 0, 2147483648))], [(30, 30, 0, 236), (31, 31, 1, 1)], [(0, (0, 48, 48)), (1, (0, 2147483650, 2147483650))])
def kd_S55q26_4 : kd_St := (47, [(2147483652, 2147483886)], 1, [(3, 1, 1), (0, 2147483649, 2147483649), (2, 0, 18446744073709551615), (9, 0, 0), (0, 2147483654, 2147483654), (0, 2147483649, 2147483649)], [(31, 1, (1, 0, 2147483648))], [(30, 30, 0, 237), (31, 31, 1, 1)], [(0, (0, 48, 48)), (1, (0, 2147483649, 2147483649))])
def kd_S55q26_5 : kd_St := (47, [(2147483653, 2147483887)], 1, [(3, 1, 1), (0, 2147483649, 2147483649), (2, 0, 18446744073709551615), (9, 0, 0), (0, 2147483654, 2147483654), (0, 2147483648, 2147483648)], [(31, 1, (1, 0, 2147483648))], [(30, 30, 0, 238), (31, 31, 1, 1)], [(0, (0, 48, 48)), (1, (0, 2147483648, 2147483648))])
def kd_S55q26_6 : kd_St := (47, [(2147483654, 2147483888)], 1, [(3, 1, 1), (0, 2147483649, 2147483649), (2, 0, 18446744073709551615), (9, 0, 0), (0, 2147483654, 2147483654), (0, 2147483647, 2147483647)], [(31, 1, (1, 0, 2147483648))], [(30, 30, 0, 239), (31, 31, 1, 1)], [(0, (0, 48, 48)), (1, (0, 2147483647, 2147483647))])
def kd_S55q26 : List kd_St := [kd_S55q26_0, kd_S55q26_1, kd_S55q26_2, kd_S55q26_3, kd_S55q26_4, kd_S55q26_5, kd_S55q26_6]
theorem kd_e55q26 : kd_run0 kd_ty kd_x55 6 (kd_call kd_ty kd_xt (kd_ctl kd_C55q26) 600 1) kd_T55q26 600 kd_S55q26 = true := by decide +kernel
theorem kd_r55q26_0 : kd_run1 kd_ty kd_x55 6 (kd_call kd_ty kd_xt (kd_ctl kd_C55q26) 600 1) kd_T55q26.2.2 600 kd_S55q26 kd_S55q26_0 = true := by decide +kernel
theorem kd_r55q26_1 : kd_run1 kd_ty kd_x55 6 (kd_call kd_ty kd_xt (kd_ctl kd_C55q26) 600 1) kd_T55q26.2.2 600 kd_S55q26 kd_S55q26_1 = true := by decide +kernel
theorem kd_r55q26_2 : kd_run1 kd_ty kd_x55 6 (kd_call kd_ty kd_xt (kd_ctl kd_C55q26) 600 1) kd_T55q26.2.2 600 kd_S55q26 kd_S55q26_2 = true := by decide +kernel
theorem kd_r55q26_3 : kd_run1 kd_ty kd_x55 6 (kd_call kd_ty kd_xt (kd_ctl kd_C55q26) 600 1) kd_T55q26.2.2 600 kd_S55q26 kd_S55q26_3 = true := by decide +kernel
theorem kd_r55q26_4 : kd_run1 kd_ty kd_x55 6 (kd_call kd_ty kd_xt (kd_ctl kd_C55q26) 600 1) kd_T55q26.2.2 600 kd_S55q26 kd_S55q26_4 = true := by decide +kernel
theorem kd_r55q26_5 : kd_run1 kd_ty kd_x55 6 (kd_call kd_ty kd_xt (kd_ctl kd_C55q26) 600 1) kd_T55q26.2.2 600 kd_S55q26 kd_S55q26_5 = true := by decide +kernel
theorem kd_r55q26_6 : kd_run1 kd_ty kd_x55 6 (kd_call kd_ty kd_xt (kd_ctl kd_C55q26) 600 1) kd_T55q26.2.2 600 kd_S55q26 kd_S55q26_6 = true := by decide +kernel
theorem kd_h55q26 {g : kc_G} (hg : kc_ok g) : kd_hold g 2 kd_ty 55 kd_T55q26 := kd_mk (d0 := 0) (di := 1) hg kd_xk55 rfl rfl rfl rfl (kd_al_r kd_C55q26 trivial) (by decide) (by decide +kernel) kd_e55q26 (kd_al_r kd_S55q26 ⟨kd_r55q26_0, kd_r55q26_1, kd_r55q26_2, kd_r55q26_3, kd_r55q26_4, kd_r55q26_5, kd_r55q26_6, trivial⟩)
def kd_T55q27 : kd_Tc := ([(3, 1, 1), (0, 2147483649, 2147483649), (2, 0, 18446744073709551615), (0, 2147483655, 2147483655)], [], kd_P55)
def kd_C55q27 : List (Nat × kd_Tc) := []
def kd_S55q27_0 : kd_St := (47, [(2147483648, 2147483881)], 1, [(3, 1, 1), (0, 2147483649, 2147483649), (2, 0, 18446744073709551615), (9, 0, 0), (0, 2147483655, 2147483655), (0, 2147483654, 2147483654)], [(31, 1, (1, 0, 2147483648))], [], [(0, (0, 48, 48)), (1, (0, 2147483654, 2147483654))])
def kd_S55q27_1 : kd_St := (47, [(2147483649, 2147483882)], 1, [(3, 1, 1), (0, 2147483649, 2147483649), (2, 0, 18446744073709551615), (9, 0, 0), (0, 2147483655, 2147483655), (0, 2147483653, 2147483653)], [(31, 1, (1, 0, 2147483648))], [(30, 30, 0, 233), (31, 31, 1, 1)], [(0, (0, 48, 48)), (1, (0, 2147483653, 2147483653))])
def kd_S55q27_2 : kd_St := (47, [(2147483650, 2147483883)], 1, [(3, 1, 1), (0, 2147483649, 2147483649), (2, 0, 18446744073709551615), (9, 0, 0), (0, 2147483655, 2147483655), (0, 2147483652, 2147483652)], [(31, 1, (1, 0, 2147483648))], [(30, 30, 0, 234), (31, 31, 1, 1)], [(0, (0, 48, 48)), (1, (0, 2147483652, 2147483652))])
def kd_S55q27_3 : kd_St := (47, [(2147483651, 2147483884)], 1, [(3, 1, 1), (0, 2147483649, 2147483649), (2, 0, 18446744073709551615), (9, 0, 0), (0, 2147483655, 2147483655), (0, 2147483651, 2147483651)], [(31, 1, (1, 0, 2147483648))], [(30, 30, 0, 235), (31, 31, 1, 1)], [(0, (0, 48, 48)), (1, (0, 2147483651, 2147483651))])
def kd_S55q27_4 : kd_St := (47, [(2147483652, 2147483885)], 1, [(3, 1, 1), (0, 2147483649, 2147483649), (2, 0, 18446744073709551615), (9, 0, 0), (0, 2147483655, 2147483655), (0, 2147483650, 2147483650)], [(31, 1, (1, 0, 2147483648))], [(30, 30, 0, 236), (31, 31, 1, 1)], [(0, (0, 48, 48)), (1, (0, 2147483650, 2147483650))])
def kd_S55q27_5 : kd_St := (47, [(2147483653, 2147483886)], 1, [(3, 1, 1), (0, 2147483649, 2147483649), (2, 0, 18446744073709551615), (9, 0, 0), (0, 2147483655, 2147483655), (0, 2147483649, 2147483649)], [(31, 1, (1, 0, 2147483648))], [(30, 30, 0, 237), (31, 31, 1, 1)], [(0, (0, 48, 48)), (1, (0, 2147483649, 2147483649))])
def kd_S55q27_6 : kd_St := (47, [(2147483654, 2147483887)], 1, [(3, 1, 1), (0, 2147483649, 2147483649), (2, 0, 18446744073709551615), (9, 0, 0), (0, 2147483655, 2147483655), (0, 2147483648, 2147483648)], [(31, 1, (1, 0, 2147483648))], [(30, 30, 0, 238), (31, 31, 1, 1)], [(0, (0, 48, 48)), (1, (0, 2147483648, 2147483648))])
def kd_S55q27_7 : kd_St := (47, [(2147483655, 2147483888)], 1, [(3, 1, 1), (0, 2147483649, 2147483649), (2, 0, 18446744073709551615), (9, 0, 0), (0, 2147483655, 2147483655), (0, 2147483647, 2147483647)], [(31, 1, (1, 0, 2147483648))], [(30, 30, 0, 239), (31, 31, 1, 1)], [(0, (0, 48, 48)), (1, (0, 2147483647, 2147483647))])
def kd_S55q27 : List kd_St := [kd_S55q27_0, kd_S55q27_1, kd_S55q27_2, kd_S55q27_3, kd_S55q27_4, kd_S55q27_5, kd_S55q27_6, kd_S55q27_7]
theorem kd_e55q27 : kd_run0 kd_ty kd_x55 6 (kd_call kd_ty kd_xt (kd_ctl kd_C55q27) 600 1) kd_T55q27 600 kd_S55q27 = true := by decide +kernel
theorem kd_r55q27_0 : kd_run1 kd_ty kd_x55 6 (kd_call kd_ty kd_xt (kd_ctl kd_C55q27) 600 1) kd_T55q27.2.2 600 kd_S55q27 kd_S55q27_0 = true := by decide +kernel
theorem kd_r55q27_1 : kd_run1 kd_ty kd_x55 6 (kd_call kd_ty kd_xt (kd_ctl kd_C55q27) 600 1) kd_T55q27.2.2 600 kd_S55q27 kd_S55q27_1 = true := by decide +kernel
theorem kd_r55q27_2 : kd_run1 kd_ty kd_x55 6 (kd_call kd_ty kd_xt (kd_ctl kd_C55q27) 600 1) kd_T55q27.2.2 600 kd_S55q27 kd_S55q27_2 = true := by decide +kernel
theorem kd_r55q27_3 : kd_run1 kd_ty kd_x55 6 (kd_call kd_ty kd_xt (kd_ctl kd_C55q27) 600 1) kd_T55q27.2.2 600 kd_S55q27 kd_S55q27_3 = true := by decide +kernel
theorem kd_r55q27_4 : kd_run1 kd_ty kd_x55 6 (kd_call kd_ty kd_xt (kd_ctl kd_C55q27) 600 1) kd_T55q27.2.2 600 kd_S55q27 kd_S55q27_4 = true := by decide +kernel
theorem kd_r55q27_5 : kd_run1 kd_ty kd_x55 6 (kd_call kd_ty kd_xt (kd_ctl kd_C55q27) 600 1) kd_T55q27.2.2 600 kd_S55q27 kd_S55q27_5 = true := by decide +kernel
theorem kd_r55q27_6 : kd_run1 kd_ty kd_x55 6 (kd_call kd_ty kd_xt (kd_ctl kd_C55q27) 600 1) kd_T55q27.2.2 600 kd_S55q27 kd_S55q27_6 = true := by decide +kernel
theorem kd_r55q27_7 : kd_run1 kd_ty kd_x55 6 (kd_call kd_ty kd_xt (kd_ctl kd_C55q27) 600 1) kd_T55q27.2.2 600 kd_S55q27 kd_S55q27_7 = true := by decide +kernel
theorem kd_h55q27 {g : kc_G} (hg : kc_ok g) : kd_hold g 2 kd_ty 55 kd_T55q27 := kd_mk (d0 := 0) (di := 1) hg kd_xk55 rfl rfl rfl rfl (kd_al_r kd_C55q27 trivial) (by decide) (by decide +kernel) kd_e55q27 (kd_al_r kd_S55q27 ⟨kd_r55q27_0, kd_r55q27_1, kd_r55q27_2, kd_r55q27_3, kd_r55q27_4, kd_r55q27_5, kd_r55q27_6, kd_r55q27_7, trivial⟩)
def kd_T55q28 : kd_Tc := ([(3, 1, 1), (0, 2147483649, 2147483649), (2, 0, 18446744073709551615), (0, 2147483656, 2147483656)], [], kd_P55)
def kd_C55q28 : List (Nat × kd_Tc) := []
def kd_S55q28_0 : kd_St := (47, [(2147483648, 2147483880)], 1, [(3, 1, 1), (0, 2147483649, 2147483649), (2, 0, 18446744073709551615), (9, 0, 0), (0, 2147483656, 2147483656), (0, 2147483655, 2147483655)], [(31, 1, (1, 0, 2147483648))], [], [(0, (0, 48, 48)), (1, (0, 2147483655, 2147483655))])
def kd_S55q28_1 : kd_St := (47, [(2147483649, 2147483881)], 1, [(3, 1, 1), (0, 2147483649, 2147483649), (2, 0, 18446744073709551615), (9, 0, 0), (0, 2147483656, 2147483656), (0, 2147483654, 2147483654)], [(31, 1, (1, 0, 2147483648))], [(30, 30, 0, 232), (31, 31, 1, 1)], [(0, (0, 48, 48)), (1, (0, 2147483654, 2147483654))])
def kd_S55q28_2 : kd_St := (47, [(2147483650, 2147483882)], 1, [(3, 1, 1), (0, 2147483649, 2147483649), (2, 0, 18446744073709551615), (9, 0, 0), (0, 2147483656, 2147483656), (0, 2147483653, 2147483653)], [(31, 1, (1, 0, 2147483648))], [(30, 30, 0, 233), (31, 31, 1, 1)], [(0, (0, 48, 48)), (1, (0, 2147483653, 2147483653))])
def kd_S55q28_3 : kd_St := (47, [(2147483651, 2147483883)], 1, [(3, 1, 1), (0, 2147483649, 2147483649), (2, 0, 18446744073709551615), (9, 0, 0), (0, 2147483656, 2147483656), (0, 2147483652, 2147483652)], [(31, 1, (1, 0, 2147483648))], [(30, 30, 0, 234), (31, 31, 1, 1)], [(0, (0, 48, 48)), (1, (0, 2147483652, 2147483652))])
def kd_S55q28_4 : kd_St := (47, [(2147483652, 2147483884)], 1, [(3, 1, 1), (0, 2147483649, 2147483649), (2, 0, 18446744073709551615), (9, 0, 0), (0, 2147483656, 2147483656), (0, 2147483651, 2147483651)], [(31, 1, (1, 0, 2147483648))], [(30, 30, 0, 235), (31, 31, 1, 1)], [(0, (0, 48, 48)), (1, (0, 2147483651, 2147483651))])
def kd_S55q28_5 : kd_St := (47, [(2147483653, 2147483885)], 1, [(3, 1, 1), (0, 2147483649, 2147483649), (2, 0, 18446744073709551615), (9, 0, 0), (0, 2147483656, 2147483656), (0, 2147483650, 2147483650)], [(31, 1, (1, 0, 2147483648))], [(30, 30, 0, 236), (31, 31, 1, 1)], [(0, (0, 48, 48)), (1, (0, 2147483650, 2147483650))])
def kd_S55q28_6 : kd_St := (47, [(2147483654, 2147483886)], 1, [(3, 1, 1), (0, 2147483649, 2147483649), (2, 0, 18446744073709551615), (9, 0, 0), (0, 2147483656, 2147483656), (0, 2147483649, 2147483649)], [(31, 1, (1, 0, 2147483648))], [(30, 30, 0, 237), (31, 31, 1, 1)], [(0, (0, 48, 48)), (1, (0, 2147483649, 2147483649))])
def kd_S55q28_7 : kd_St := (47, [(2147483655, 2147483887)], 1, [(3, 1, 1), (0, 2147483649, 2147483649), (2, 0, 18446744073709551615), (9, 0, 0), (0, 2147483656, 2147483656), (0, 2147483648, 2147483648)], [(31, 1, (1, 0, 2147483648))], [(30, 30, 0, 238), (31, 31, 1, 1)], [(0, (0, 48, 48)), (1, (0, 2147483648, 2147483648))])
def kd_S55q28_8 : kd_St := (47, [(2147483656, 2147483888)], 1, [(3, 1, 1), (0, 2147483649, 2147483649), (2, 0, 18446744073709551615), (9, 0, 0), (0, 2147483656, 2147483656), (0, 2147483647, 2147483647)], [(31, 1, (1, 0, 2147483648))], [(30, 30, 0, 239), (31, 31, 1, 1)], [(0, (0, 48, 48)), (1, (0, 2147483647, 2147483647))])
def kd_S55q28 : List kd_St := [kd_S55q28_0, kd_S55q28_1, kd_S55q28_2, kd_S55q28_3, kd_S55q28_4, kd_S55q28_5, kd_S55q28_6, kd_S55q28_7, kd_S55q28_8]
theorem kd_e55q28 : kd_run0 kd_ty kd_x55 6 (kd_call kd_ty kd_xt (kd_ctl kd_C55q28) 600 1) kd_T55q28 600 kd_S55q28 = true := by decide +kernel
theorem kd_r55q28_0 : kd_run1 kd_ty kd_x55 6 (kd_call kd_ty kd_xt (kd_ctl kd_C55q28) 600 1) kd_T55q28.2.2 600 kd_S55q28 kd_S55q28_0 = true := by decide +kernel
theorem kd_r55q28_1 : kd_run1 kd_ty kd_x55 6 (kd_call kd_ty kd_xt (kd_ctl kd_C55q28) 600 1) kd_T55q28.2.2 600 kd_S55q28 kd_S55q28_1 = true := by decide +kernel
theorem kd_r55q28_2 : kd_run1 kd_ty kd_x55 6 (kd_call kd_ty kd_xt (kd_ctl kd_C55q28) 600 1) kd_T55q28.2.2 600 kd_S55q28 kd_S55q28_2 = true := by decide +kernel
theorem kd_r55q28_3 : kd_run1 kd_ty kd_x55 6 (kd_call kd_ty kd_xt (kd_ctl kd_C55q28) 600 1) kd_T55q28.2.2 600 kd_S55q28 kd_S55q28_3 = true := by decide +kernel
theorem kd_r55q28_4 : kd_run1 kd_ty kd_x55 6 (kd_call kd_ty kd_xt (kd_ctl kd_C55q28) 600 1) kd_T55q28.2.2 600 kd_S55q28 kd_S55q28_4 = true := by decide +kernel
theorem kd_r55q28_5 : kd_run1 kd_ty kd_x55 6 (kd_call kd_ty kd_xt (kd_ctl kd_C55q28) 600 1) kd_T55q28.2.2 600 kd_S55q28 kd_S55q28_5 = true := by decide +kernel
theorem kd_r55q28_6 : kd_run1 kd_ty kd_x55 6 (kd_call kd_ty kd_xt (kd_ctl kd_C55q28) 600 1) kd_T55q28.2.2 600 kd_S55q28 kd_S55q28_6 = true := by decide +kernel
theorem kd_r55q28_7 : kd_run1 kd_ty kd_x55 6 (kd_call kd_ty kd_xt (kd_ctl kd_C55q28) 600 1) kd_T55q28.2.2 600 kd_S55q28 kd_S55q28_7 = true := by decide +kernel
theorem kd_r55q28_8 : kd_run1 kd_ty kd_x55 6 (kd_call kd_ty kd_xt (kd_ctl kd_C55q28) 600 1) kd_T55q28.2.2 600 kd_S55q28 kd_S55q28_8 = true := by decide +kernel
theorem kd_h55q28 {g : kc_G} (hg : kc_ok g) : kd_hold g 2 kd_ty 55 kd_T55q28 := kd_mk (d0 := 0) (di := 1) hg kd_xk55 rfl rfl rfl rfl (kd_al_r kd_C55q28 trivial) (by decide) (by decide +kernel) kd_e55q28 (kd_al_r kd_S55q28 ⟨kd_r55q28_0, kd_r55q28_1, kd_r55q28_2, kd_r55q28_3, kd_r55q28_4, kd_r55q28_5, kd_r55q28_6, kd_r55q28_7, kd_r55q28_8, trivial⟩)
def kd_T55q29 : kd_Tc := ([(3, 1, 1), (0, 2147483649, 2147483649), (2, 0, 18446744073709551615), (0, 2147483657, 4294967295)], [], kd_P55)
def kd_C55q29 : List (Nat × kd_Tc) := []
def kd_S55q29 : List kd_St := []
theorem kd_e55q29 : kd_run0 kd_ty kd_x55 6 (kd_call kd_ty kd_xt (kd_ctl kd_C55q29) 600 1) kd_T55q29 600 kd_S55q29 = true := by decide +kernel
theorem kd_h55q29 {g : kc_G} (hg : kc_ok g) : kd_hold g 2 kd_ty 55 kd_T55q29 := kd_mk (d0 := 0) (di := 1) hg kd_xk55 rfl rfl rfl rfl (kd_al_r kd_C55q29 trivial) (by decide) (by decide +kernel) kd_e55q29 (kd_al_r kd_S55q29 trivial)
def kd_T55q30 : kd_Tc := ([(3, 1, 1), (0, 2147483650, 4294967295), (2, 0, 18446744073709551615), (0, 0, 2147483648)], [], kd_P55)
def kd_C55q30 : List (Nat × kd_Tc) := []
def kd_S55q30 : List kd_St := []
theorem kd_e55q30 : kd_run0 kd_ty kd_x55 6 (kd_call kd_ty kd_xt (kd_ctl kd_C55q30) 600 1) kd_T55q30 600 kd_S55q30 = true := by decide +kernel
theorem kd_h55q30 {g : kc_G} (hg : kc_ok g) : kd_hold g 2 kd_ty 55 kd_T55q30 := kd_mk (d0 := 0) (di := 1) hg kd_xk55 rfl rfl rfl rfl (kd_al_r kd_C55q30 trivial) (by decide) (by decide +kernel) kd_e55q30 (kd_al_r kd_S55q30 trivial)
def kd_T55q31 : kd_Tc := ([(3, 1, 1), (0, 2147483650, 4294967295), (2, 0, 18446744073709551615), (0, 2147483649, 2147483649)], [], kd_P55)
def kd_C55q31 : List (Nat × kd_Tc) := []
def kd_S55q31 : List kd_St := []
theorem kd_e55q31 : kd_run0 kd_ty kd_x55 6 (kd_call kd_ty kd_xt (kd_ctl kd_C55q31) 600 1) kd_T55q31 600 kd_S55q31 = true := by decide +kernel
theorem kd_h55q31 {g : kc_G} (hg : kc_ok g) : kd_hold g 2 kd_ty 55 kd_T55q31 := kd_mk (d0 := 0) (di := 1) hg kd_xk55 rfl rfl rfl rfl (kd_al_r kd_C55q31 trivial) (by decide) (by decide +kernel) kd_e55q31 (kd_al_r kd_S55q31 trivial)
def kd_T55q32 : kd_Tc := ([(3, 1, 1), (0, 2147483650, 4294967295), (2, 0, 18446744073709551615), (0, 2147483650, 2147483650)], [], kd_P55)
def kd_C55q32 : List (Nat × kd_Tc) := []
def kd_S55q32 : List kd_St := []
theorem kd_e55q32 : kd_run0 kd_ty kd_x55 6 (kd_call kd_ty kd_xt (kd_ctl kd_C55q32) 600 1) kd_T55q32 600 kd_S55q32 = true := by decide +kernel
theorem kd_h55q32 {g : kc_G} (hg : kc_ok g) : kd_hold g 2 kd_ty 55 kd_T55q32 := kd_mk (d0 := 0) (di := 1) hg kd_xk55 rfl rfl rfl rfl (kd_al_r kd_C55q32 trivial) (by decide) (by decide +kernel) kd_e55q32 (kd_al_r kd_S55q32 trivial)
def kd_T55q33 : kd_Tc := ([(3, 1, 1), (0, 2147483650, 4294967295), (2, 0, 18446744073709551615), (0, 2147483651, 2147483651)], [], kd_P55)
def kd_C55q33 : List (Nat × kd_Tc) := []
def kd_S55q33 : List kd_St := []
theorem kd_e55q33 : kd_run0 kd_ty kd_x55 6 (kd_call kd_ty kd_xt (kd_ctl kd_C55q33) 600 1) kd_T55q33 600 kd_S55q33 = true := by decide +kernel
theorem kd_h55q33 {g : kc_G} (hg : kc_ok g) : kd_hold g 2 kd_ty 55 kd_T55q33 := kd_mk (d0 := 0) (di := 1) hg kd_xk55 rfl rfl rfl rfl (kd_al_r kd_C55q33 trivial) (by decide) (by decide +kernel) kd_e55q33 (kd_al_r kd_S55q33 trivial)
def kd_T55q34 : kd_Tc := ([(3, 1, 1), (0, 2147483650, 4294967295), (2, 0, 18446744073709551615), (0, 2147483652, 2147483652)], [], kd_P55)
def kd_C55q34 : List (Nat × kd_Tc) := []
def kd_S55q34 : List kd_St := []
theorem kd_e55q34 : kd_run0 kd_ty kd_x55 6 (kd_call kd_ty kd_xt (kd_ctl kd_C55q34) 600 1) kd_T55q34 600 kd_S55q34 = true := by decide +kernel
theorem kd_h55q34 {g : kc_G} (hg : kc_ok g) : kd_hold g 2 kd_ty 55 kd_T55q34 := kd_mk (d0 := 0) (di := 1) hg kd_xk55 rfl rfl rfl rfl (kd_al_r kd_C55q34 trivial) (by decide) (by decide +kernel) kd_e55q34 (kd_al_r kd_S55q34 trivial)
def kd_T55q35 : kd_Tc := ([(3, 1, 1), (0, 2147483650, 4294967295), (2, 0, 18446744073709551615), (0, 2147483653, 2147483653)], [], kd_P55)
def kd_C55q35 : List (Nat × kd_Tc) := []
def kd_S55q35 : List kd_St := []
theorem kd_e55q35 : kd_run0 kd_ty kd_x55 6 (kd_call kd_ty kd_xt (kd_ctl kd_C55q35) 600 1) kd_T55q35 600 kd_S55q35 = true := by decide +kernel
theorem kd_h55q35 {g : kc_G} (hg : kc_ok g) : kd_hold g 2 kd_ty 55 kd_T55q35 := kd_mk (d0 := 0) (di := 1) hg kd_xk55 rfl rfl rfl rfl (kd_al_r kd_C55q35 trivial) (by decide) (by decide +kernel) kd_e55q35 (kd_al_r kd_S55q35 trivial)
def kd_T55q36 : kd_Tc := ([(3, 1, 1), (0, 2147483650, 4294967295), (2, 0, 18446744073709551615), (0, 2147483654, 2147483654)], [], kd_P55)
def kd_C55q36 : List (Nat × kd_Tc) := []
def kd_S55q36 : List kd_St := []
theorem kd_e55q36 : kd_run0 kd_ty kd_x55 6 (kd_call kd_ty kd_xt (kd_ctl kd_C55q36) 600 1) kd_T55q36 600 kd_S55q36 = true := by decide +kernel
theorem kd_h55q36 {g : kc_G} (hg : kc_ok g) : kd_hold g 2 kd_ty 55 kd_T55q36 := kd_mk (d0 := 0) (di := 1) hg kd_xk55 rfl rfl rfl rfl (kd_al_r kd_C55q36 trivial) (by decide) (by decide +kernel) kd_e55q36 (kd_al_r kd_S55q36 trivial)
def kd_T55q37 : kd_Tc := ([(3, 1, 1), (0, 2147483650, 4294967295), (2, 0, 18446744073709551615), (0, 2147483655, 2147483655)], [], kd_P55)
def kd_C55q37 : List (Nat × kd_Tc) := []
def kd_S55q37 : List kd_St := []
theorem kd_e55q37 : kd_run0 kd_ty kd_x55 6 (kd_call kd_ty kd_xt (kd_ctl kd_C55q37) 600 1) kd_T55q37 600 kd_S55q37 = true := by decide +kernel
theorem kd_h55q37 {g : kc_G} (hg : kc_ok g) : kd_hold g 2 kd_ty 55 kd_T55q37 := kd_mk (d0 := 0) (di := 1) hg kd_xk55 rfl rfl rfl rfl (kd_al_r kd_C55q37 trivial) (by decide) (by decide +kernel) kd_e55q37 (kd_al_r kd_S55q37 trivial)
def kd_T55q38 : kd_Tc := ([(3, 1, 1), (0, 2147483650, 4294967295), (2, 0, 18446744073709551615), (0, 2147483656, 2147483656)], [], kd_P55)
def kd_C55q38 : List (Nat × kd_Tc) := []
def kd_S55q38 : List kd_St := []
theorem kd_e55q38 : kd_run0 kd_ty kd_x55 6 (kd_call kd_ty kd_xt (kd_ctl kd_C55q38) 600 1) kd_T55q38 600 kd_S55q38 = true := by decide +kernel
theorem kd_h55q38 {g : kc_G} (hg : kc_ok g) : kd_hold g 2 kd_ty 55 kd_T55q38 := kd_mk (d0 := 0) (di := 1) hg kd_xk55 rfl rfl rfl rfl (kd_al_r kd_C55q38 trivial) (by decide) (by decide +kernel) kd_e55q38 (kd_al_r kd_S55q38 trivial)
def kd_T55q39 : kd_Tc := ([(3, 1, 1), (0, 2147483650, 4294967295), (2, 0, 18446744073709551615), (0, 2147483657, 4294967295)], [], kd_P55)
def kd_C55q39 : List (Nat × kd_Tc) := []
def kd_S55q39 : List kd_St := []
theorem kd_e55q39 : kd_run0 kd_ty kd_x55 6 (kd_call kd_ty kd_xt (kd_ctl kd_C55q39) 600 1) kd_T55q39 600 kd_S55q39 = true := by decide +kernel
theorem kd_h55q39 {g : kc_G} (hg : kc_ok g) : kd_hold g 2 kd_ty 55 kd_T55q39 := kd_mk (d0 := 0) (di := 1) hg kd_xk55 rfl rfl rfl rfl (kd_al_r kd_C55q39 trivial) (by decide) (by decide +kernel) kd_e55q39 (kd_al_r kd_S55q39 trivial)
def kd_T55 : kd_Tc := ([(3, 1, 1), (0, 0, 4294967295), (2, 0, 18446744073709551615), (0, 0, 4294967295)], [], kd_P55)
theorem kd_h55 {g : kc_G} (hg : kc_ok g) : kd_hold g 2 kd_ty 55 kd_T55 := kd_hold_arg [(3, 1, 1)] [(0, 2147483647), (2147483648, 2147483648), (2147483649, 2147483649), (2147483650, 4294967295)] (by decide +kernel) (kd_al_r [(0, 2147483647), (2147483648, 2147483648), (2147483649, 2147483649), (2147483650, 4294967295)] ⟨(kd_hold_arg [(3, 1, 1), (0, 0, 2147483647), (2, 0, 18446744073709551615)] [(0, 2147483648), (2147483649, 2147483649), (2147483650, 2147483650), (2147483651, 2147483651), (2147483652, 2147483652), (2147483653, 2147483653), (2147483654, 2147483654), (2147483655, 2147483655), (2147483656, 2147483656), (2147483657, 4294967295)] (by decide +kernel) (kd_al_r [(0, 2147483648), (2147483649, 2147483649), (2147483650, 2147483650), (2147483651, 2147483651), (2147483652, 2147483652), (2147483653, 2147483653), (2147483654, 2147483654), (2147483655, 2147483655), (2147483656, 2147483656), (2147483657, 4294967295)] ⟨(kd_hold_le (kd_h55q0 hg) (by decide)), (kd_hold_le (kd_h55q1 hg) (by decide)), (kd_hold_le (kd_h55q2 hg) (by decide)), (kd_hold_le (kd_h55q3 hg) (by decide)), (kd_hold_le (kd_h55q4 hg) (by decide)), (kd_hold_le (kd_h55q5 hg) (by decide)), (kd_hold_le (kd_h55q6 hg) (by decide)), (kd_hold_le (kd_h55q7 hg) (by decide)), (kd_hold_le (kd_h55q8 hg) (by decide)), (kd_hold_le (kd_h55q9 hg) (by decide)), trivial⟩)), (kd_hold_arg [(3, 1, 1), (0, 2147483648, 2147483648), (2, 0, 18446744073709551615)] [(0, 2147483648), (2147483649, 2147483649), (2147483650, 2147483650), (2147483651, 2147483651), (2147483652, 2147483652), (2147483653, 2147483653), (2147483654, 2147483654), (2147483655, 2147483655), (2147483656, 2147483656), (2147483657, 4294967295)] (by decide +kernel) (kd_al_r [(0, 2147483648), (2147483649, 2147483649), (2147483650, 2147483650), (2147483651, 2147483651), (2147483652, 2147483652), (2147483653, 2147483653), (2147483654, 2147483654), (2147483655, 2147483655), (2147483656, 2147483656), (2147483657, 4294967295)] ⟨(kd_hold_le (kd_h55q10 hg) (by decide)), (kd_hold_le (kd_h55q11 hg) (by decide)), (kd_hold_le (kd_h55q12 hg) (by decide)), (kd_hold_le (kd_h55q13 hg) (by decide)), (kd_hold_le (kd_h55q14 hg) (by decide)), (kd_hold_le (kd_h55q15 hg) (by decide)), (kd_hold_le (kd_h55q16 hg) (by decide)), (kd_hold_le (kd_h55q17 hg) (by decide)), (kd_hold_le (kd_h55q18 hg) (by decide)), (kd_hold_le (kd_h55q19 hg) (by decide)), trivial⟩)), (kd_hold_arg [(3, 1, 1), (0, 2147483649, 2147483649), (2, 0, 18446744073709551615)] [(0, 2147483648), (2147483649, 2147483649), (2147483650, 2147483650), (2147483651, 2147483651), (2147483652, 2147483652), (2147483653, 2147483653), (2147483654, 2147483654), (2147483655, 2147483655), (2147483656, 2147483656), (2147483657, 4294967295)] (by decide +kernel) (kd_al_r [(0, 2147483648), (2147483649, 2147483649), (2147483650, 2147483650), (2147483651, 2147483651), (2147483652, 2147483652), (2147483653, 2147483653), (2147483654, 2147483654), (2147483655, 2147483655), (2147483656, 2147483656), (2147483657, 4294967295)] ⟨(kd_hold_le (kd_h55q20 hg) (by decide)), (kd_hold_le (kd_h55q21 hg) (by decide)), (kd_hold_le (kd_h55q22 hg) (by decide)), (kd_hold_le (kd_h55q23 hg) (by decide)), (kd_hold_le (kd_h55q24 hg) (by decide)), (kd_hold_le (kd_h55q25 hg) (by decide)), (kd_hold_le (kd_h55q26 hg) (by decide)), (kd_hold_le (kd_h55q27 hg) (by decide)), (kd_hold_le (kd_h55q28 hg) (by decide)), (kd_hold_le (kd_h55q29 hg) (by decide)), trivial⟩)), (kd_hold_arg [(3, 1, 1), (0, 2147483650, 4294967295), (2, 0, 18446744073709551615)] [(0, 2147483648), (2147483649, 2147483649), (2147483650, 2147483650), (2147483651, 2147483651), (2147483652, 2147483652), (2147483653, 2147483653), (2147483654, 2147483654), (2147483655, 2147483655), (2147483656, 2147483656), (2147483657, 4294967295)] (by decide +kernel) (kd_al_r [(0, 2147483648), (2147483649, 2147483649), (2147483650, 2147483650), (2147483651, 2147483651), (2147483652, 2147483652), (2147483653, 2147483653), (2147483654, 2147483654), (2147483655, 2147483655), (2147483656, 2147483656), (2147483657, 4294967295)] ⟨(kd_hold_le (kd_h55q30 hg) (by decide)), (kd_hold_le (kd_h55q31 hg) (by decide)), (kd_hold_le (kd_h55q32 hg) (by decide)), (kd_hold_le (kd_h55q33 hg) (by decide)), (kd_hold_le (kd_h55q34 hg) (by decide)), (kd_hold_le (kd_h55q35 hg) (by decide)), (kd_hold_le (kd_h55q36 hg) (by decide)), (kd_hold_le (kd_h55q37 hg) (by decide)), (kd_hold_le (kd_h55q38 hg) (by decide)), (kd_hold_le (kd_h55q39 hg) (by decide)), trivial⟩)), trivial⟩)
def kd_P54 : List kd_P := [(some (0, 2147483644, 2147483888), [], [(31, 31, 0, 1), (29, 30, 0, 239)])]
def kd_T54 : kd_Tc := ([(3, 0, 0), (0, 0, 4294967295), (2, 0, 18446744073709551615), (0, 0, 4294967295)], [], kd_P54)
def kd_C54 : List (Nat × kd_Tc) := [(55, kd_T55)]
def kd_S54 : List kd_St := []
theorem kd_e54 : kd_run0 kd_ty kd_x54 5 (kd_call kd_ty kd_xt (kd_ctl kd_C54) 600 0) kd_T54 600 kd_S54 = true := by decide +kernel
theorem kd_h54 {g : kc_G} (hg : kc_ok g) : kd_hold g 3 kd_ty 54 kd_T54 := kd_mk (d0 := 2) (di := 0) hg kd_xk54 rfl rfl rfl rfl (kd_al_r kd_C54 ⟨kd_hold_le (kd_h55 hg) (by decide), trivial⟩) (by decide) (by decide +kernel) kd_e54 (kd_al_r kd_S54 trivial)
def kd_P189 : List kd_P := [(some (0, 0, 4294967295), [], [])]
def kd_T189 : kd_Tc := ([(3, 190, 190), (0, 2147483648, 2147483653)], [], kd_P189)
def kd_C189 : List (Nat × kd_Tc) := []
def kd_S189_0 : kd_St := (19, [(0, 4294967295), (2147483648, 2147483653)], 2, [(3, 190, 190), (1, 0, 2147483648), (1, 1, 2147483648), (0, 2147483648, 2147483648)], [], [], [(0, (0, 20, 20)), (0, (0, 2147483648, 2147483648))])
def kd_S189_1 : kd_St := (19, [(0, 4294967295), (2147483648, 2147483653)], 2, [(3, 190, 190), (1, 0, 2147483648), (1, 1, 2147483648), (0, 2147483649, 2147483649)], [], [], [(0, (0, 20, 20)), (0, (0, 2147483649, 2147483649))])
def kd_S189_2 : kd_St := (19, [(0, 4294967295), (2147483648, 2147483653)], 2, [(3, 190, 190), (1, 0, 2147483648), (1, 1, 2147483648), (0, 2147483650, 2147483650)], [], [], [(0, (0, 20, 20)), (0, (0, 2147483650, 2147483650))])
def kd_S189_3 : kd_St := (19, [(0, 4294967295), (2147483648, 2147483653)], 2, [(3, 190, 190), (1, 0, 2147483648), (1, 1, 2147483648), (0, 2147483651, 2147483651)], [], [], [(0, (0, 20, 20)), (0, (0, 2147483651, 2147483651))])
def kd_S189 : List kd_St := [kd_S189_0, kd_S189_1, kd_S189_2, kd_S189_3]
theorem kd_e189 : kd_run0 kd_ty kd_x189 4 (kd_call kd_ty kd_xt (kd_ctl kd_C189) 600 0) kd_T189 600 kd_S189 = true := by decide +kernel
theorem kd_r189_0 : kd_run1 kd_ty kd_x189 4 (kd_call kd_ty kd_xt (kd_ctl kd_C189) 600 0) kd_T189.2.2 600 kd_S189 kd_S189_0 = true := by decide +kernel
theorem kd_r189_1 : kd_run1 kd_ty kd_x189 4 (kd_call kd_ty kd_xt (kd_ctl kd_C189) 600 0) kd_T189.2.2 600 kd_S189 kd_S189_1 = true := by decide +kernel
theorem kd_r189_2 : kd_run1 kd_ty kd_x189 4 (kd_call kd_ty kd_xt (kd_ctl kd_C189) 600 0) kd_T189.2.2 600 kd_S189 kd_S189_2 = true := by decide +kernel
theorem kd_r189_3 : kd_run1 kd_ty kd_x189 4 (kd_call kd_ty kd_xt (kd_ctl kd_C189) 600 0) kd_T189.2.2 600 kd_S189 kd_S189_3 = true := by decide +kernel
theorem kd_h189 {g : kc_G} (hg : kc_ok g) : kd_hold g 1 kd_ty 189 kd_T189 := kd_mk (d0 := 0) (di := 0) hg kd_xk189 rfl rfl rfl rfl (kd_al_r kd_C189 trivial) (by decide) (by decide +kernel) kd_e189 (kd_al_r kd_S189 ⟨kd_r189_0, kd_r189_1, kd_r189_2, kd_r189_3, trivial⟩)
def kd_P188 : List kd_P := [(some (0, 2147483648, 2147483649), [], [])]
def kd_T188 : kd_Tc := ([(3, 190, 190), (0, 0, 4294967295), (0, 2147483648, 2147483653), (0, 2147483648, 2147483649)], [], kd_P188)
def kd_C188 : List (Nat × kd_Tc) := [(189, kd_T189)]
def kd_S188 : List kd_St := []
theorem kd_e188 : kd_run0 kd_ty kd_x188 6 (kd_call kd_ty kd_xt (kd_ctl kd_C188) 600 0) kd_T188 600 kd_S188 = true := by decide +kernel
theorem kd_h188 {g : kc_G} (hg : kc_ok g) : kd_hold g 2 kd_ty 188 kd_T188 := kd_mk (d0 := 1) (di := 0) hg kd_xk188 rfl rfl rfl rfl (kd_al_r kd_C188 ⟨kd_hold_le (kd_h189 hg) (by decide), trivial⟩) (by decide) (by decide +kernel) kd_e188 (kd_al_r kd_S188 trivial)
def kd_P185 : List kd_P := [(some (0, 2147483648, 2147483653), [], [])]
def kd_T185q0 : kd_Tc := ([(3, 190, 190), (0, 2147483648, 2147483657), (0, 2147483648, 2147483648), (0, 2147483648, 2147483649)], [], kd_P185)
def kd_C185q0 : List (Nat × kd_Tc) := [(188, kd_T188), (186, kd_T186)]
def kd_S185q0 : List kd_St := []
theorem kd_e185q0 : kd_run0 kd_ty kd_x185 4 (kd_call kd_ty kd_xt (kd_ctl kd_C185q0) 600 1) kd_T185q0 600 kd_S185q0 = true := by decide +kernel
theorem kd_h185q0 {g : kc_G} (hg : kc_ok g) : kd_hold g 4 kd_ty 185 kd_T185q0 := kd_mk (d0 := 2) (di := 1) hg kd_xk185 rfl rfl rfl rfl (kd_al_r kd_C185q0 ⟨kd_hold_le (kd_h188 hg) (by decide), kd_hold_le (kd_h186 hg) (by decide), trivial⟩) (by decide) (by decide +kernel) kd_e185q0 (kd_al_r kd_S185q0 trivial)
def kd_T185q1 : kd_Tc := ([(3, 190, 190), (0, 2147483648, 2147483657), (0, 2147483649, 2147483649), (0, 2147483648, 2147483649)], [], kd_P185)
def kd_C185q1 : List (Nat × kd_Tc) := [(188, kd_T188), (186, kd_T186)]
def kd_S185q1 : List kd_St := []
theorem kd_e185q1 : kd_run0 kd_ty kd_x185 4 (kd_call kd_ty kd_xt (kd_ctl kd_C185q1) 600 1) kd_T185q1 600 kd_S185q1 = true := by decide +kernel
theorem kd_h185q1 {g : kc_G} (hg : kc_ok g) : kd_hold g 4 kd_ty 185 kd_T185q1 := kd_mk (d0 := 2) (di := 1) hg kd_xk185 rfl rfl rfl rfl (kd_al_r kd_C185q1 ⟨kd_hold_le (kd_h188 hg) (by decide), kd_hold_le (kd_h186 hg) (by decide), trivial⟩) (by decide) (by decide +kernel) kd_e185q1 (kd_al_r kd_S185q1 trivial)
def kd_T185q2 : kd_Tc := ([(3, 190, 190), (0, 2147483648, 2147483657), (0, 2147483650, 2147483650), (0, 2147483648, 2147483649)], [], kd_P185)
def kd_C185q2 : List (Nat × kd_Tc) := [(188, kd_T188), (186, kd_T186)]
def kd_S185q2 : List kd_St := []
theorem kd_e185q2 : kd_run0 kd_ty kd_x185 4 (kd_call kd_ty kd_xt (kd_ctl kd_C185q2) 600 1) kd_T185q2 600 kd_S185q2 = true := by decide +kernel
theorem kd_h185q2 {g : kc_G} (hg : kc_ok g) : kd_hold g 4 kd_ty 185 kd_T185q2 := kd_mk (d0 := 2) (di := 1) hg kd_xk185 rfl rfl rfl rfl (kd_al_r kd_C185q2 ⟨kd_hold_le (kd_h188 hg) (by decide), kd_hold_le (kd_h186 hg) (by decide), trivial⟩) (by decide) (by decide +kernel) kd_e185q2 (kd_al_r kd_S185q2 trivial)
def kd_T185q3 : kd_Tc := ([(3, 190, 190), (0, 2147483648, 2147483657), (0, 2147483651, 2147483651), (0, 2147483648, 2147483649)], [], kd_P185)
def kd_C185q3 : List (Nat × kd_Tc) := [(188, kd_T188), (186, kd_T186)]
def kd_S185q3 : List kd_St := []
theorem kd_e185q3 : kd_run0 kd_ty kd_x185 4 (kd_call kd_ty kd_xt (kd_ctl kd_C185q3) 600 1) kd_T185q3 600 kd_S185q3 = true := by decide +kernel
theorem kd_h185q3 {g : kc_G} (hg : kc_ok g) : kd_hold g 4 kd_ty 185 kd_T185q3 := kd_mk (d0 := 2) (di := 1) hg kd_xk185 rfl rfl rfl rfl (kd_al_r kd_C185q3 ⟨kd_hold_le (kd_h188 hg) (by decide), kd_hold_le (kd_h186 hg) (by decide), trivial⟩) (by decide) (by decide +kernel) kd_e185q3 (kd_al_r kd_S185q3 trivial)
def kd_T185q4 : kd_Tc := ([(3, 190, 190), (0, 2147483648, 2147483657), (0, 2147483652, 2147483652), (0, 2147483648, 2147483649)], [], kd_P185)
def kd_C185q4 : List (Nat × kd_Tc) := [(188, kd_T188), (186, kd_T186)]
def kd_S185q4 : List kd_St := []
theorem kd_e185q4 : kd_run0 kd_ty kd_x185 4 (kd_call kd_ty kd_xt (kd_ctl kd_C185q4) 600 1) kd_T185q4 600 kd_S185q4 = true := by decide +kernel
theorem kd_h185q4 {g : kc_G} (hg : kc_ok g) : kd_hold g 4 kd_ty 185 kd_T185q4 := kd_mk (d0 := 2) (di := 1) hg kd_xk185 rfl rfl rfl rfl (kd_al_r kd_C185q4 ⟨kd_hold_le (kd_h188 hg) (by decide), kd_hold_le (kd_h186 hg) (by decide), trivial⟩) (by decide) (by decide +kernel) kd_e185q4 (kd_al_r kd_S185q4 trivial)
def kd_T185q5 : kd_Tc := ([(3, 190, 190), (0, 2147483648, 2147483657), (0, 2147483653, 2147483653), (0, 2147483648, 2147483649)], [], kd_P185)
def kd_C185q5 : List (Nat × kd_Tc) := [(188, kd_T188), (186, kd_T186)]
def kd_S185q5 : List kd_St := []
theorem kd_e185q5 : kd_run0 kd_ty kd_x185 4 (kd_call kd_ty kd_xt (kd_ctl kd_C185q5) 600 1) kd_T185q5 600 kd_S185q5 = true := by decide +kernel
theorem kd_h185q5 {g : kc_G} (hg : kc_ok g) : kd_hold g 4 kd_ty 185 kd_T185q5 := kd_mk (d0 := 2) (di := 1) hg kd_xk185 rfl rfl rfl rfl (kd_al_r kd_C185q5 ⟨kd_hold_le (kd_h188 hg) (by decide), kd_hold_le (kd_h186 hg) (by decide), trivial⟩) (by decide) (by decide +kernel) kd_e185q5 (kd_al_r kd_S185q5 trivial)
def kd_T185 : kd_Tc := ([(3, 190, 190), (0, 2147483648, 2147483657), (0, 2147483648, 2147483653), (0, 2147483648, 2147483649)], [], kd_P185)
theorem kd_h185 {g : kc_G} (hg : kc_ok g) : kd_hold g 4 kd_ty 185 kd_T185 := kd_hold_arg [(3, 190, 190), (0, 2147483648, 2147483657)] [(2147483648, 2147483648), (2147483649, 2147483649), (2147483650, 2147483650), (2147483651, 2147483651), (2147483652, 2147483652), (2147483653, 2147483653)] (by decide +kernel) (kd_al_r [(2147483648, 2147483648), (2147483649, 2147483649), (2147483650, 2147483650), (2147483651, 2147483651), (2147483652, 2147483652), (2147483653, 2147483653)] ⟨(kd_hold_le (kd_h185q0 hg) (by decide)), (kd_hold_le (kd_h185q1 hg) (by decide)), (kd_hold_le (kd_h185q2 hg) (by decide)), (kd_hold_le (kd_h185q3 hg) (by decide)), (kd_hold_le (kd_h185q4 hg) (by decide)), (kd_hold_le (kd_h185q5 hg) (by decide)), trivial⟩)
def kd_P190 : List kd_P := [(none, [], [(195, 200, 0, 2), (192, 192, 0, 5), (191, 191, 0, 9)])]
def kd_T190q0 : kd_Tc := ([(3, 190, 190), (0, 2147483648, 2147483657), (0, 2147483648, 2147483648)], [], kd_P190)
def kd_C190q0 : List (Nat × kd_Tc) := []
def kd_S190q0 : List kd_St := []
theorem kd_e190q0 : kd_run0 kd_ty kd_x190 3 (kd_call kd_ty kd_xt (kd_ctl kd_C190q0) 600 0) kd_T190q0 600 kd_S190q0 = true := by decide +kernel
theorem kd_h190q0 {g : kc_G} (hg : kc_ok g) : kd_hold g 1 kd_ty 190 kd_T190q0 := kd_mk (d0 := 0) (di := 0) hg kd_xk190 rfl rfl rfl rfl (kd_al_r kd_C190q0 trivial) (by decide) (by decide +kernel) kd_e190q0 (kd_al_r kd_S190q0 trivial)
def kd_T190q1 : kd_Tc := ([(3, 190, 190), (0, 2147483648, 2147483657), (0, 2147483649, 2147483649)], [], kd_P190)
def kd_C190q1 : List (Nat × kd_Tc) := []
def kd_S190q1 : List kd_St := []
theorem kd_e190q1 : kd_run0 kd_ty kd_x190 3 (kd_call kd_ty kd_xt (kd_ctl kd_C190q1) 600 0) kd_T190q1 600 kd_S190q1 = true := by decide +kernel
theorem kd_h190q1 {g : kc_G} (hg : kc_ok g) : kd_hold g 1 kd_ty 190 kd_T190q1 := kd_mk (d0 := 0) (di := 0) hg kd_xk190 rfl rfl rfl rfl (kd_al_r kd_C190q1 trivial) (by decide) (by decide +kernel) kd_e190q1 (kd_al_r kd_S190q1 trivial)
def kd_T190q2 : kd_Tc := ([(3, 190, 190), (0, 2147483648, 2147483657), (0, 2147483650, 2147483650)], [], kd_P190)
def kd_C190q2 : List (Nat × kd_Tc) := []
def kd_S190q2 : List kd_St := []
theorem kd_e190q2 : kd_run0 kd_ty kd_x190 3 (kd_call kd_ty kd_xt (kd_ctl kd_C190q2) 600 0) kd_T190q2 600 kd_S190q2 = true := by decide +kernel
theorem kd_h190q2 {g : kc_G} (hg : kc_ok g) : kd_hold g 1 kd_ty 190 kd_T190q2 := kd_mk (d0 := 0) (di := 0) hg kd_xk190 rfl rfl rfl rfl (kd_al_r kd_C190q2 trivial) (by decide) (by decide +kernel) kd_e190q2 (kd_al_r kd_S190q2 trivial)
def kd_T190q3 : kd_Tc := ([(3, 190, 190), (0, 2147483648, 2147483657), (0, 2147483651, 2147483651)], [], kd_P190)
def kd_C190q3 : List (Nat × kd_Tc) := []
def kd_S190q3 : List kd_St := []
theorem kd_e190q3 : kd_run0 kd_ty kd_x190 3 (kd_call kd_ty kd_xt (kd_ctl kd_C190q3) 600 0) kd_T190q3 600 kd_S190q3 = true := by decide +kernel
theorem kd_h190q3 {g : kc_G} (hg : kc_ok g) : kd_hold g 1 kd_ty 190 kd_T190q3 := kd_mk (d0 := 0) (di := 0) hg kd_xk190 rfl rfl rfl rfl (kd_al_r kd_C190q3 trivial) (by decide) (by decide +kernel) kd_e190q3 (kd_al_r kd_S190q3 trivial)
def kd_T190q4 : kd_Tc := ([(3, 190, 190), (0, 2147483648, 2147483657), (0, 2147483652, 2147483652)], [], kd_P190)
def kd_C190q4 : List (Nat × kd_Tc) := []
def kd_S190q4 : List kd_St := []
theorem kd_e190q4 : kd_run0 kd_ty kd_x190 3 (kd_call kd_ty kd_xt (kd_ctl kd_C190q4) 600 0) kd_T190q4 600 kd_S190q4 = true := by decide +kernel
theorem kd_h190q4 {g : kc_G} (hg : kc_ok g) : kd_hold g 1 kd_ty 190 kd_T190q4 := kd_mk (d0 := 0) (di := 0) hg kd_xk190 rfl rfl rfl rfl (kd_al_r kd_C190q4 trivial) (by decide) (by decide +kernel) kd_e190q4 (kd_al_r kd_S190q4 trivial)
def kd_T190q5 : kd_Tc := ([(3, 190, 190), (0, 2147483648, 2147483657), (0, 2147483653, 2147483653)], [], kd_P190)
def kd_C190q5 : List (Nat × kd_Tc) := []
def kd_S190q5 : List kd_St := []
theorem kd_e190q5 : kd_run0 kd_ty kd_x190 3 (kd_call kd_ty kd_xt (kd_ctl kd_C190q5) 600 0) kd_T190q5 600 kd_S190q5 = true := by decide +kernel
theorem kd_h190q5 {g : kc_G} (hg : kc_ok g) : kd_hold g 1 kd_ty 190 kd_T190q5 := kd_mk (d0 := 0) (di := 0) hg kd_xk190 rfl rfl rfl rfl (kd_al_r kd_C190q5 trivial) (by decide) (by decide +kernel) kd_e190q5 (kd_al_r kd_S190q5 trivial)
def kd_T190 : kd_Tc := ([(3, 190, 190), (0, 2147483648, 2147483657), (0, 2147483648, 2147483653)], [], kd_P190)
theorem kd_h190 {g : kc_G} (hg : kc_ok g) : kd_hold g 1 kd_ty 190 kd_T190 := kd_hold_arg [(3, 190, 190), (0, 2147483648, 2147483657)] [(2147483648, 2147483648), (2147483649, 2147483649), (2147483650, 2147483650), (2147483651, 2147483651), (2147483652, 2147483652), (2147483653, 2147483653)] (by decide +kernel) (kd_al_r [(2147483648, 2147483648), (2147483649, 2147483649), (2147483650, 2147483650), (2147483651, 2147483651), (2147483652, 2147483652), (2147483653, 2147483653)] ⟨(kd_hold_le (kd_h190q0 hg) (by decide)), (kd_hold_le (kd_h190q1 hg) (by decide)), (kd_hold_le (kd_h190q2 hg) (by decide)), (kd_hold_le (kd_h190q3 hg) (by decide)), (kd_hold_le (kd_h190q4 hg) (by decide)), (kd_hold_le (kd_h190q5 hg) (by decide)), trivial⟩)
def kd_P184 : List kd_P := [(some (0, 2147483648, 2147483653), [], [(195, 200, 0, 2), (192, 192, 0, 5), (191, 191, 0, 9)])]
def kd_T184 : kd_Tc := ([(3, 190, 190), (0, 2147483648, 2147484647), (0, 2147483648, 2147484647), (0, 2147483648, 2147484647)], [], kd_P184)
def kd_C184 : List (Nat × kd_Tc) := [(190, kd_T190), (185, kd_T185)]
def kd_S184 : List kd_St := []
theorem kd_e184 : kd_run0 kd_ty kd_x184 6 (kd_call kd_ty kd_xt (kd_ctl kd_C184) 600 3) kd_T184 600 kd_S184 = true := by decide +kernel
theorem kd_h184 {g : kc_G} (hg : kc_ok g) : kd_hold g 8 kd_ty 184 kd_T184 := kd_mk (d0 := 4) (di := 3) hg kd_xk184 rfl rfl rfl rfl (kd_al_r kd_C184 ⟨kd_hold_le (kd_h190 hg) (by decide), kd_hold_le (kd_h185 hg) (by decide), trivial⟩) (by decide) (by decide +kernel) kd_e184 (kd_al_r kd_S184 trivial)
def kd_P191 : List kd_P := [(some (0, 2147483648, 2147483650), [], [(192, 192, 0, 5), (191, 191, 0, 9)])]
def kd_T191q0 : kd_Tc := ([(3, 190, 190), (0, 2147483648, 2147483648), (0, 2147483648, 2147483648)], [], kd_P191)
def kd_C191q0 : List (Nat × kd_Tc) := []
def kd_S191q0 : List kd_St := []
theorem kd_e191q0 : kd_run0 kd_ty kd_x191 5 (kd_call kd_ty kd_xt (kd_ctl kd_C191q0) 600 3) kd_T191q0 600 kd_S191q0 = true := by decide +kernel
theorem kd_h191q0 {g : kc_G} (hg : kc_ok g) : kd_hold g 4 kd_ty 191 kd_T191q0 := kd_mk (d0 := 0) (di := 3) hg kd_xk191 rfl rfl rfl rfl (kd_al_r kd_C191q0 trivial) (by decide) (by decide +kernel) kd_e191q0 (kd_al_r kd_S191q0 trivial)
def kd_T191q1 : kd_Tc := ([(3, 190, 190), (0, 2147483648, 2147483648), (0, 2147483649, 2147483649)], [], kd_P191)
def kd_C191q1 : List (Nat × kd_Tc) := []
def kd_S191q1 : List kd_St := []
theorem kd_e191q1 : kd_run0 kd_ty kd_x191 5 (kd_call kd_ty kd_xt (kd_ctl kd_C191q1) 600 3) kd_T191q1 600 kd_S191q1 = true := by decide +kernel
theorem kd_h191q1 {g : kc_G} (hg : kc_ok g) : kd_hold g 4 kd_ty 191 kd_T191q1 := kd_mk (d0 := 0) (di := 3) hg kd_xk191 rfl rfl rfl rfl (kd_al_r kd_C191q1 trivial) (by decide) (by decide +kernel) kd_e191q1 (kd_al_r kd_S191q1 trivial)
def kd_T191q2 : kd_Tc := ([(3, 190, 190), (0, 2147483648, 2147483648), (0, 2147483650, 2147484647)], [], kd_P191)
def kd_C191q2 : List (Nat × kd_Tc) := []
def kd_S191q2 : List kd_St := []
theorem kd_e191q2 : kd_run0 kd_ty kd_x191 5 (kd_call kd_ty kd_xt (kd_ctl kd_C191q2) 600 3) kd_T191q2 600 kd_S191q2 = true := by decide +kernel
theorem kd_h191q2 {g : kc_G} (hg : kc_ok g) : kd_hold g 4 kd_ty 191 kd_T191q2 := kd_mk (d0 := 0) (di := 3) hg kd_xk191 rfl rfl rfl rfl (kd_al_r kd_C191q2 trivial) (by decide) (by decide +kernel) kd_e191q2 (kd_al_r kd_S191q2 trivial)
def kd_T191q3 : kd_Tc := ([(3, 190, 190), (0, 2147483649, 2147483649), (0, 2147483648, 2147483648)], [], kd_P191)
def kd_C191q3 : List (Nat × kd_Tc) := []
def kd_S191q3 : List kd_St := []
theorem kd_e191q3 : kd_run0 kd_ty kd_x191 5 (kd_call kd_ty kd_xt (kd_ctl kd_C191q3) 600 3) kd_T191q3 600 kd_S191q3 = true := by decide +kernel
theorem kd_h191q3 {g : kc_G} (hg : kc_ok g) : kd_hold g 4 kd_ty 191 kd_T191q3 := kd_mk (d0 := 0) (di := 3) hg kd_xk191 rfl rfl rfl rfl (kd_al_r kd_C191q3 trivial) (by decide) (by decide +kernel) kd_e191q3 (kd_al_r kd_S191q3 trivial)
def kd_T191q4 : kd_Tc := ([(3, 190, 190), (0, 2147483649, 2147483649), (0, 2147483649, 2147483649)], [], kd_P191)
def kd_C191q4 : List (Nat × kd_Tc) := []
def kd_S191q4 : List kd_St := []
theorem kd_e191q4 : kd_run0 kd_ty kd_x191 5 (kd_call kd_ty kd_xt (kd_ctl kd_C191q4) 600 3) kd_T191q4 600 kd_S191q4 = true := by decide +kernel
theorem kd_h191q4 {g : kc_G} (hg : kc_ok g) : kd_hold g 4 kd_ty 191 kd_T191q4 := kd_mk (d0 := 0) (di := 3) hg kd_xk191 rfl rfl rfl rfl (kd_al_r kd_C191q4 trivial) (by decide) (by decide +kernel) kd_e191q4 (kd_al_r kd_S191q4 trivial)
def kd_T191q5 : kd_Tc := ([(3, 190, 190), (0, 2147483649, 2147483649), (0, 2147483650, 2147484647)], [], kd_P191)
def kd_C191q5 : List (Nat × kd_Tc) := []
def kd_S191q5 : List kd_St := []
theorem kd_e191q5 : kd_run0 kd_ty kd_x191 5 (kd_call kd_ty kd_xt (kd_ctl kd_C191q5) 600 3) kd_T191q5 600 kd_S191q5 = true := by decide +kernel
theorem kd_h191q5 {g : kc_G} (hg : kc_ok g) : kd_hold g 4 kd_ty 191 kd_T191q5 := kd_mk (d0 := 0) (di := 3) hg kd_xk191 rfl rfl rfl rfl (kd_al_r kd_C191q5 trivial) (by decide) (by decide +kernel) kd_e191q5 (kd_al_r kd_S191q5 trivial)
def kd_T191q6 : kd_Tc := ([(3, 190, 190), (0, 2147483650, 2147483650), (0, 2147483648, 2147483648)], [], kd_P191)
def kd_C191q6 : List (Nat × kd_Tc) := []
def kd_S191q6 : List kd_St := []
theorem kd_e191q6 : kd_run0 kd_ty kd_x191 5 (kd_call kd_ty kd_xt (kd_ctl kd_C191q6) 600 3) kd_T191q6 600 kd_S191q6 = true := by decide +kernel
theorem kd_h191q6 {g : kc_G} (hg : kc_ok g) : kd_hold g 4 kd_ty 191 kd_T191q6 := kd_mk (d0 := 0) (di := 3) hg kd_xk191 rfl rfl rfl rfl (kd_al_r kd_C191q6 trivial) (by decide) (by decide +kernel) kd_e191q6 (kd_al_r kd_S191q6 trivial)
def kd_T191q7 : kd_Tc := ([(3, 190, 190), (0, 2147483650, 2147483650), (0, 2147483649, 2147483649)], [], kd_P191)
def kd_C191q7 : List (Nat × kd_Tc) := []
def kd_S191q7 : List kd_St := []
theorem kd_e191q7 : kd_run0 kd_ty kd_x191 5 (kd_call kd_ty kd_xt (kd_ctl kd_C191q7) 600 3) kd_T191q7 600 kd_S191q7 = true := by decide +kernel
theorem kd_h191q7 {g : kc_G} (hg : kc_ok g) : kd_hold g 4 kd_ty 191 kd_T191q7 := kd_mk (d0 := 0) (di := 3) hg kd_xk191 rfl rfl rfl rfl (kd_al_r kd_C191q7 trivial) (by decide) (by decide +kernel) kd_e191q7 (kd_al_r kd_S191q7 trivial)
def kd_T191q8 : kd_Tc := ([(3, 190, 190), (0, 2147483650, 2147483650), (0, 2147483650, 2147484647)], [], kd_P191)
def kd_C191q8 : List (Nat × kd_Tc) := []
def kd_S191q8 : List kd_St := []
theorem kd_e191q8 : kd_run0 kd_ty kd_x191 5 (kd_call kd_ty kd_xt (kd_ctl kd_C191q8) 600 3) kd_T191q8 600 kd_S191q8 = true := by decide +kernel
theorem kd_h191q8 {g : kc_G} (hg : kc_ok g) : kd_hold g 4 kd_ty 191 kd_T191q8 := kd_mk (d0 := 0) (di := 3) hg kd_xk191 rfl rfl rfl rfl (kd_al_r kd_C191q8 trivial) (by decide) (by decide +kernel) kd_e191q8 (kd_al_r kd_S191q8 trivial)
def kd_T191q9 : kd_Tc := ([(3, 190, 190), (0, 2147483651, 2147484647), (0, 2147483648, 2147483648)], [], kd_P191)
def kd_C191q9 : List (Nat × kd_Tc) := []
def kd_S191q9 : List kd_St := []
theorem kd_e191q9 : kd_run0 kd_ty kd_x191 5 (kd_call kd_ty kd_xt (kd_ctl kd_C191q9) 600 3) kd_T191q9 600 kd_S191q9 = true := by decide +kernel
theorem kd_h191q9 {g : kc_G} (hg : kc_ok g) : kd_hold g 4 kd_ty 191 kd_T191q9 := kd_mk (d0 := 0) (di := 3) hg kd_xk191 rfl rfl rfl rfl (kd_al_r kd_C191q9 trivial) (by decide) (by decide +kernel) kd_e191q9 (kd_al_r kd_S191q9 trivial)
def kd_T191q10 : kd_Tc := ([(3, 190, 190), (0, 2147483651, 2147484647), (0, 2147483649, 2147483649)], [], kd_P191)
def kd_C191q10 : List (Nat × kd_Tc) := []
def kd_S191q10 : List kd_St := []
theorem kd_e191q10 : kd_run0 kd_ty kd_x191 5 (kd_call kd_ty kd_xt (kd_ctl kd_C191q10) 600 3) kd_T191q10 600 kd_S191q10 = true := by decide +kernel
theorem kd_h191q10 {g : kc_G} (hg : kc_ok g) : kd_hold g 4 kd_ty 191 kd_T191q10 := kd_mk (d0 := 0) (di := 3) hg kd_xk191 rfl rfl rfl rfl (kd_al_r kd_C191q10 trivial) (by decide) (by decide +kernel) kd_e191q10 (kd_al_r kd_S191q10 trivial)
def kd_T191q11 : kd_Tc := ([(3, 190, 190), (0, 2147483651, 2147484647), (0, 2147483650, 2147484647)], [], kd_P191)
def kd_C191q11 : List (Nat × kd_Tc) := []
def kd_S191q11 : List kd_St := []
theorem kd_e191q11 : kd_run0 kd_ty kd_x191 5 (kd_call kd_ty kd_xt (kd_ctl kd_C191q11) 600 3) kd_T191q11 600 kd_S191q11 = true := by decide +kernel
theorem kd_h191q11 {g : kc_G} (hg : kc_ok g) : kd_hold g 4 kd_ty 191 kd_T191q11 := kd_mk (d0 := 0) (di := 3) hg kd_xk191 rfl rfl rfl rfl (kd_al_r kd_C191q11 trivial) (by decide) (by decide +kernel) kd_e191q11 (kd_al_r kd_S191q11 trivial)
def kd_T191 : kd_Tc := ([(3, 190, 190), (0, 2147483648, 2147484647), (0, 2147483648, 2147484647)], [], kd_P191)
theorem kd_h191 {g : kc_G} (hg : kc_ok g) : kd_hold g 4 kd_ty 191 kd_T191 := kd_hold_arg [(3, 190, 190)] [(2147483648, 2147483648), (2147483649, 2147483649), (2147483650, 2147483650), (2147483651, 2147484647)] (by decide +kernel) (kd_al_r [(2147483648, 2147483648), (2147483649, 2147483649), (2147483650, 2147483650), (2147483651, 2147484647)] ⟨(kd_hold_arg [(3, 190, 190), (0, 2147483648, 2147483648)] [(2147483648, 2147483648), (2147483649, 2147483649), (2147483650, 2147484647)] (by decide +kernel) (kd_al_r [(2147483648, 2147483648), (2147483649, 2147483649), (2147483650, 2147484647)] ⟨(kd_hold_le (kd_h191q0 hg) (by decide)), (kd_hold_le (kd_h191q1 hg) (by decide)), (kd_hold_le (kd_h191q2 hg) (by decide)), trivial⟩)), (kd_hold_arg [(3, 190, 190), (0, 2147483649, 2147483649)] [(2147483648, 2147483648), (2147483649, 2147483649), (2147483650, 2147484647)] (by decide +kernel) (kd_al_r [(2147483648, 2147483648), (2147483649, 2147483649), (2147483650, 2147484647)] ⟨(kd_hold_le (kd_h191q3 hg) (by decide)), (kd_hold_le (kd_h191q4 hg) (by decide)), (kd_hold_le (kd_h191q5 hg) (by decide)), trivial⟩)), (kd_hold_arg [(3, 190, 190), (0, 2147483650, 2147483650)] [(2147483648, 2147483648), (2147483649, 2147483649), (2147483650, 2147484647)] (by decide +kernel) (kd_al_r [(2147483648, 2147483648), (2147483649, 2147483649), (2147483650, 2147484647)] ⟨(kd_hold_le (kd_h191q6 hg) (by decide)), (kd_hold_le (kd_h191q7 hg) (by decide)), (kd_hold_le (kd_h191q8 hg) (by decide)), trivial⟩)), (kd_hold_arg [(3, 190, 190), (0, 2147483651, 2147484647)] [(2147483648, 2147483648), (2147483649, 2147483649), (2147483650, 2147484647)] (by decide +kernel) (kd_al_r [(2147483648, 2147483648), (2147483649, 2147483649), (2147483650, 2147484647)] ⟨(kd_hold_le (kd_h191q9 hg) (by decide)), (kd_hold_le (kd_h191q10 hg) (by decide)), (kd_hold_le (kd_h191q11 hg) (by decide)), trivial⟩)), trivial⟩)
def kd_P192 : List kd_P := [(some (0, 2147483648, 2147483653), [], [(195, 200, 0, 2), (192, 192, 0, 5), (191, 191, 0, 9)])]
def kd_T192q0 : kd_Tc := ([(3, 190, 190), (0, 2147483648, 2147483648), (0, 2147483648, 2147483648), (0, 2147483648, 2147484647), (0, 2147482650, 2147484647)], [], kd_P192)
def kd_C192q0 : List (Nat × kd_Tc) := [(190, kd_T190), (185, kd_T185)]
def kd_S192q0 : List kd_St := []
theorem kd_e192q0 : kd_run0 kd_ty kd_x192 9 (kd_call kd_ty kd_xt (kd_ctl kd_C192q0) 600 3) kd_T192q0 600 kd_S192q0 = true := by decide +kernel
theorem kd_h192q0 {g : kc_G} (hg : kc_ok g) : kd_hold g 8 kd_ty 192 kd_T192q0 := kd_mk (d0 := 4) (di := 3) hg kd_xk192 rfl rfl rfl rfl (kd_al_r kd_C192q0 ⟨kd_hold_le (kd_h190 hg) (by decide), kd_hold_le (kd_h185 hg) (by decide), trivial⟩) (by decide) (by decide +kernel) kd_e192q0 (kd_al_r kd_S192q0 trivial)
def kd_T192q1 : kd_Tc := ([(3, 190, 190), (0, 2147483648, 2147483648), (0, 2147483649, 2147483649), (0, 2147483648, 2147484647), (0, 2147482650, 2147484647)], [], kd_P192)
def kd_C192q1 : List (Nat × kd_Tc) := [(190, kd_T190), (185, kd_T185)]
def kd_S192q1 : List kd_St := []
theorem kd_e192q1 : kd_run0 kd_ty kd_x192 9 (kd_call kd_ty kd_xt (kd_ctl kd_C192q1) 600 3) kd_T192q1 600 kd_S192q1 = true := by decide +kernel
theorem kd_h192q1 {g : kc_G} (hg : kc_ok g) : kd_hold g 8 kd_ty 192 kd_T192q1 := kd_mk (d0 := 4) (di := 3) hg kd_xk192 rfl rfl rfl rfl (kd_al_r kd_C192q1 ⟨kd_hold_le (kd_h190 hg) (by decide), kd_hold_le (kd_h185 hg) (by decide), trivial⟩) (by decide) (by decide +kernel) kd_e192q1 (kd_al_r kd_S192q1 trivial)
def kd_T192q2 : kd_Tc := ([(3, 190, 190), (0, 2147483648, 2147483648), (0, 2147483650, 2147484647), (0, 2147483648, 2147484647), (0, 2147482650, 2147484647)], [], kd_P192)
def kd_C192q2 : List (Nat × kd_Tc) := []
def kd_S192q2 : List kd_St := []
theorem kd_e192q2 : kd_run0 kd_ty kd_x192 9 (kd_call kd_ty kd_xt (kd_ctl kd_C192q2) 600 3) kd_T192q2 600 kd_S192q2 = true := by decide +kernel
theorem kd_h192q2 {g : kc_G} (hg : kc_ok g) : kd_hold g 4 kd_ty 192 kd_T192q2 := kd_mk (d0 := 0) (di := 3) hg kd_xk192 rfl rfl rfl rfl (kd_al_r kd_C192q2 trivial) (by decide) (by decide +kernel) kd_e192q2 (kd_al_r kd_S192q2 trivial)
def kd_T192q3 : kd_Tc := ([(3, 190, 190), (0, 2147483649, 2147483649), (0, 2147483648, 2147483648), (0, 2147483648, 2147484647), (0, 2147482650, 2147484647)], [], kd_P192)
def kd_C192q3 : List (Nat × kd_Tc) := [(190, kd_T190), (185, kd_T185)]
def kd_S192q3 : List kd_St := []
theorem kd_e192q3 : kd_run0 kd_ty kd_x192 9 (kd_call kd_ty kd_xt (kd_ctl kd_C192q3) 600 3) kd_T192q3 600 kd_S192q3 = true := by decide +kernel
theorem kd_h192q3 {g : kc_G} (hg : kc_ok g) : kd_hold g 8 kd_ty 192 kd_T192q3 := kd_mk (d0 := 4) (di := 3) hg kd_xk192 rfl rfl rfl rfl (kd_al_r kd_C192q3 ⟨kd_hold_le (kd_h190 hg) (by decide), kd_hold_le (kd_h185 hg) (by decide), trivial⟩) (by decide) (by decide +kernel) kd_e192q3 (kd_al_r kd_S192q3 trivial)
def kd_T192q4 : kd_Tc := ([(3, 190, 190), (0, 2147483649, 2147483649), (0, 2147483649, 2147483649), (0, 2147483648, 2147484647), (0, 2147482650, 2147484647)], [], kd_P192)
def kd_C192q4 : List (Nat × kd_Tc) := [(190, kd_T190), (185, kd_T185)]
def kd_S192q4 : List kd_St := []
theorem kd_e192q4 : kd_run0 kd_ty kd_x192 9 (kd_call kd_ty kd_xt (kd_ctl kd_C192q4) 600 3) kd_T192q4 600 kd_S192q4 = true := by decide +kernel
theorem kd_h192q4 {g : kc_G} (hg : kc_ok g) : kd_hold g 8 kd_ty 192 kd_T192q4 := kd_mk (d0 := 4) (di := 3) hg kd_xk192 rfl rfl rfl rfl (kd_al_r kd_C192q4 ⟨kd_hold_le (kd_h190 hg) (by decide), kd_hold_le (kd_h185 hg) (by decide), trivial⟩) (by decide) (by decide +kernel) kd_e192q4 (kd_al_r kd_S192q4 trivial)
def kd_T192q5 : kd_Tc := ([(3, 190, 190), (0, 2147483649, 2147483649), (0, 2147483650, 2147484647), (0, 2147483648, 2147484647), (0, 2147482650, 2147484647)], [], kd_P192)
def kd_C192q5 : List (Nat × kd_Tc) := []
def kd_S192q5 : List kd_St := []
theorem kd_e192q5 : kd_run0 kd_ty kd_x192 9 (kd_call kd_ty kd_xt (kd_ctl kd_C192q5) 600 3) kd_T192q5 600 kd_S192q5 = true := by decide +kernel
theorem kd_h192q5 {g : kc_G} (hg : kc_ok g) : kd_hold g 4 kd_ty 192 kd_T192q5 := kd_mk (d0 := 0) (di := 3) hg kd_xk192 rfl rfl rfl rfl (kd_al_r kd_C192q5 trivial) (by decide) (by decide +kernel) kd_e192q5 (kd_al_r kd_S192q5 trivial)
def kd_T192q6 : kd_Tc := ([(3, 190, 190), (0, 2147483650, 2147483650), (0, 2147483648, 2147483648), (0, 2147483648, 2147484647), (0, 2147482650, 2147484647)], [], kd_P192)
def kd_C192q6 : List (Nat × kd_Tc) := [(190, kd_T190), (185, kd_T185)]
def kd_S192q6 : List kd_St := []
theorem kd_e192q6 : kd_run0 kd_ty kd_x192 9 (kd_call kd_ty kd_xt (kd_ctl kd_C192q6) 600 3) kd_T192q6 600 kd_S192q6 = true := by decide +kernel
theorem kd_h192q6 {g : kc_G} (hg : kc_ok g) : kd_hold g 8 kd_ty 192 kd_T192q6 := kd_mk (d0 := 4) (di := 3) hg kd_xk192 rfl rfl rfl rfl (kd_al_r kd_C192q6 ⟨kd_hold_le (kd_h190 hg) (by decide), kd_hold_le (kd_h185 hg) (by decide), trivial⟩) (by decide) (by decide +kernel) kd_e192q6 (kd_al_r kd_S192q6 trivial)
def kd_T192q7 : kd_Tc := ([(3, 190, 190), (0, 2147483650, 2147483650), (0, 2147483649, 2147483649), (0, 2147483648, 2147484647), (0, 2147482650, 2147484647)], [], kd_P192)
def kd_C192q7 : List (Nat × kd_Tc) := [(190, kd_T190), (185, kd_T185)]
def kd_S192q7 : List kd_St := []
theorem kd_e192q7 : kd_run0 kd_ty kd_x192 9 (kd_call kd_ty kd_xt (kd_ctl kd_C192q7) 600 3) kd_T192q7 600 kd_S192q7 = true := by decide +kernel
theorem kd_h192q7 {g : kc_G} (hg : kc_ok g) : kd_hold g 8 kd_ty 192 kd_T192q7 := kd_mk (d0 := 4) (di := 3) hg kd_xk192 rfl rfl rfl rfl (kd_al_r kd_C192q7 ⟨kd_hold_le (kd_h190 hg) (by decide), kd_hold_le (kd_h185 hg) (by decide), trivial⟩) (by decide) (by decide +kernel) kd_e192q7 (kd_al_r kd_S192q7 trivial)
def kd_T192q8 : kd_Tc := ([(3, 190, 190), (0, 2147483650, 2147483650), (0, 2147483650, 2147484647), (0, 2147483648, 2147484647), (0, 2147482650, 2147484647)], [], kd_P192)
def kd_C192q8 : List (Nat × kd_Tc) := []
def kd_S192q8 : List kd_St := []
theorem kd_e192q8 : kd_run0 kd_ty kd_x192 9 (kd_call kd_ty kd_xt (kd_ctl kd_C192q8) 600 3) kd_T192q8 600 kd_S192q8 = true := by decide +kernel
theorem kd_h192q8 {g : kc_G} (hg : kc_ok g) : kd_hold g 4 kd_ty 192 kd_T192q8 := kd_mk (d0 := 0) (di := 3) hg kd_xk192 rfl rfl rfl rfl (kd_al_r kd_C192q8 trivial) (by decide) (by decide +kernel) kd_e192q8 (kd_al_r kd_S192q8 trivial)
def kd_T192q9 : kd_Tc := ([(3, 190, 190), (0, 2147483651, 2147484647), (0, 2147483648, 2147483648), (0, 2147483648, 2147484647), (0, 2147482650, 2147484647)], [], kd_P192)
def kd_C192q9 : List (Nat × kd_Tc) := []
def kd_S192q9 : List kd_St := []
theorem kd_e192q9 : kd_run0 kd_ty kd_x192 9 (kd_call kd_ty kd_xt (kd_ctl kd_C192q9) 600 3) kd_T192q9 600 kd_S192q9 = true := by decide +kernel
theorem kd_h192q9 {g : kc_G} (hg : kc_ok g) : kd_hold g 4 kd_ty 192 kd_T192q9 := kd_mk (d0 := 0) (di := 3) hg kd_xk192 rfl rfl rfl rfl (kd_al_r kd_C192q9 trivial) (by decide) (by decide +kernel) kd_e192q9 (kd_al_r kd_S192q9 trivial)
def kd_T192q10 : kd_Tc := ([(3, 190, 190), (0, 2147483651, 2147484647), (0, 2147483649, 2147483649), (0, 2147483648, 2147484647), (0, 2147482650, 2147484647)], [], kd_P192)
def kd_C192q10 : List (Nat × kd_Tc) := []
def kd_S192q10 : List kd_St := []
theorem kd_e192q10 : kd_run0 kd_ty kd_x192 9 (kd_call kd_ty kd_xt (kd_ctl kd_C192q10) 600 3) kd_T192q10 600 kd_S192q10 = true := by decide +kernel
theorem kd_h192q10 {g : kc_G} (hg : kc_ok g) : kd_hold g 4 kd_ty 192 kd_T192q10 := kd_mk (d0 := 0) (di := 3) hg kd_xk192 rfl rfl rfl rfl (kd_al_r kd_C192q10 trivial) (by decide) (by decide +kernel) kd_e192q10 (kd_al_r kd_S192q10 trivial)
def kd_T192q11 : kd_Tc := ([(3, 190, 190), (0, 2147483651, 2147484647), (0, 2147483650, 2147484647), (0, 2147483648, 2147484647), (0, 2147482650, 2147484647)], [], kd_P192)
def kd_C192q11 : List (Nat × kd_Tc) := []
def kd_S192q11 : List kd_St := []
theorem kd_e192q11 : kd_run0 kd_ty kd_x192 9 (kd_call kd_ty kd_xt (kd_ctl kd_C192q11) 600 3) kd_T192q11 600 kd_S192q11 = true := by decide +kernel
theorem kd_h192q11 {g : kc_G} (hg : kc_ok g) : kd_hold g 4 kd_ty 192 kd_T192q11 := kd_mk (d0 := 0) (di := 3) hg kd_xk192 rfl rfl rfl rfl (kd_al_r kd_C192q11 trivial) (by decide) (by decide +kernel) kd_e192q11 (kd_al_r kd_S192q11 trivial)
def kd_T192 : kd_Tc := ([(3, 190, 190), (0, 2147483648, 2147484647), (0, 2147483648, 2147484647), (0, 2147483648, 2147484647), (0, 2147482650, 2147484647)], [], kd_P192)
theorem kd_h192 {g : kc_G} (hg : kc_ok g) : kd_hold g 8 kd_ty 192 kd_T192 := kd_hold_arg [(3, 190, 190)] [(2147483648, 2147483648), (2147483649, 2147483649), (2147483650, 2147483650), (2147483651, 2147484647)] (by decide +kernel) (kd_al_r [(2147483648, 2147483648), (2147483649, 2147483649), (2147483650, 2147483650), (2147483651, 2147484647)] ⟨(kd_hold_arg [(3, 190, 190), (0, 2147483648, 2147483648)] [(2147483648, 2147483648), (2147483649, 2147483649), (2147483650, 2147484647)] (by decide +kernel) (kd_al_r [(2147483648, 2147483648), (2147483649, 2147483649), (2147483650, 2147484647)] ⟨(kd_hold_le (kd_h192q0 hg) (by decide)), (kd_hold_le (kd_h192q1 hg) (by decide)), (kd_hold_le (kd_h192q2 hg) (by decide)), trivial⟩)), (kd_hold_arg [(3, 190, 190), (0, 2147483649, 2147483649)] [(2147483648, 2147483648), (2147483649, 2147483649), (2147483650, 2147484647)] (by decide +kernel) (kd_al_r [(2147483648, 2147483648), (2147483649, 2147483649), (2147483650, 2147484647)] ⟨(kd_hold_le (kd_h192q3 hg) (by decide)), (kd_hold_le (kd_h192q4 hg) (by decide)), (kd_hold_le (kd_h192q5 hg) (by decide)), trivial⟩)), (kd_hold_arg [(3, 190, 190), (0, 2147483650, 2147483650)] [(2147483648, 2147483648), (2147483649, 2147483649), (2147483650, 2147484647)] (by decide +kernel) (kd_al_r [(2147483648, 2147483648), (2147483649, 2147483649), (2147483650, 2147484647)] ⟨(kd_hold_le (kd_h192q6 hg) (by decide)), (kd_hold_le (kd_h192q7 hg) (by decide)), (kd_hold_le (kd_h192q8 hg) (by decide)), trivial⟩)), (kd_hold_arg [(3, 190, 190), (0, 2147483651, 2147484647)] [(2147483648, 2147483648), (2147483649, 2147483649), (2147483650, 2147484647)] (by decide +kernel) (kd_al_r [(2147483648, 2147483648), (2147483649, 2147483649), (2147483650, 2147484647)] ⟨(kd_hold_le (kd_h192q9 hg) (by decide)), (kd_hold_le (kd_h192q10 hg) (by decide)), (kd_hold_le (kd_h192q11 hg) (by decide)), trivial⟩)), trivial⟩)
def kd_P193 : List kd_P := [(some (0, 2147483648, 2147483653), [], [(193, 193, 0, 5), (201, 201, 0, 5)])]
def kd_T193 : kd_Tc := ([(3, 190, 190), (0, 2147483648, 2147484647), (0, 2147483648, 2147484647)], [], kd_P193)
def kd_C193 : List (Nat × kd_Tc) := [(188, kd_T188)]
def kd_S193 : List kd_St := []
theorem kd_e193 : kd_run0 kd_ty kd_x193 4 (kd_call kd_ty kd_xt (kd_ctl kd_C193) 600 3) kd_T193 600 kd_S193 = true := by decide +kernel
theorem kd_h193 {g : kc_G} (hg : kc_ok g) : kd_hold g 6 kd_ty 193 kd_T193 := kd_mk (d0 := 2) (di := 3) hg kd_xk193 rfl rfl rfl rfl (kd_al_r kd_C193 ⟨kd_hold_le (kd_h188 hg) (by decide), trivial⟩) (by decide) (by decide +kernel) kd_e193 (kd_al_r kd_S193 trivial)
def kd_P194 : List kd_P := [(some (0, 2147483648, 2147483650), [], [(193, 193, 0, 5), (201, 201, 0, 5)])]
def kd_T194 : kd_Tc := ([(3, 190, 190), (0, 2147483648, 2147484647), (0, 2147483648, 2147484647)], [], kd_P194)
def kd_C194 : List (Nat × kd_Tc) := []
def kd_S194 : List kd_St := []
theorem kd_e194 : kd_run0 kd_ty kd_x194 4 (kd_call kd_ty kd_xt (kd_ctl kd_C194) 600 3) kd_T194 600 kd_S194 = true := by decide +kernel
theorem kd_h194 {g : kc_G} (hg : kc_ok g) : kd_hold g 4 kd_ty 194 kd_T194 := kd_mk (d0 := 0) (di := 3) hg kd_xk194 rfl rfl rfl rfl (kd_al_r kd_C194 trivial) (by decide) (by decide +kernel) kd_e194 (kd_al_r kd_S194 trivial)
def kd_P196 : List kd_P := [(some (0, 2147483648, 2147483649), [], [])]
def kd_T196 : kd_Tc := ([(3, 190, 190)], [], kd_P196)
def kd_C196 : List (Nat × kd_Tc) := [(186, kd_T186)]
def kd_S196_0 : kd_St := (2, [], 0, [(3, 190, 190), (0, 2147483648, 2147483648)], [], [], [(0, (0, 3, 3)), (0, (0, 2147483648, 2147483648))])
def kd_S196_1 : kd_St := (2, [(2147483649, 2147483651)], 1, [(3, 190, 190), (0, 2147483649, 2147483649)], [(1, 1, (1, 0, 2147483648))], [], [(0, (0, 3, 3)), (0, (0, 2147483649, 2147483649))])
def kd_S196_2 : kd_St := (2, [(2147483649, 2147483651)], 1, [(3, 190, 190), (0, 2147483650, 2147483650)], [(1, 1, (1, 0, 2147483648))], [], [(0, (0, 3, 3)), (0, (0, 2147483650, 2147483650))])
def kd_S196_3 : kd_St := (2, [(2147483650, 2147483651)], 1, [(3, 190, 190), (0, 2147483651, 2147483651)], [(1, 1, (1, 0, 2147483648))], [], [(0, (0, 3, 3)), (0, (0, 2147483651, 2147483651))])
def kd_S196_4 : kd_St := (2, [(2147483650, 2147483651)], 1, [(3, 190, 190), (0, 2147483652, 2147483652)], [(1, 1, (1, 0, 2147483648))], [], [(0, (0, 3, 3)), (0, (0, 2147483652, 2147483652))])
def kd_S196_5 : kd_St := (2, [], 0, [(3, 190, 190), (0, 2147483653, 2147483653)], [(1, 1, (0, 2147483651, 2147483651))], [], [(0, (0, 3, 3)), (0, (0, 2147483653, 2147483653))])
def kd_S196_6 : kd_St := (2, [], 0, [(3, 190, 190), (0, 2147483654, 2147483654)], [(1, 1, (0, 2147483651, 2147483651))], [], [(0, (0, 3, 3)), (0, (0, 2147483654, 2147483654))])
def kd_S196 : List kd_St := [kd_S196_0, kd_S196_1, kd_S196_2, kd_S196_3, kd_S196_4, kd_S196_5, kd_S196_6]
theorem kd_e196 : kd_run0 kd_ty kd_x196 2 (kd_call kd_ty kd_xt (kd_ctl kd_C196) 600 0) kd_T196 600 kd_S196 = true := by decide +kernel
theorem kd_r196_0 : kd_run1 kd_ty kd_x196 2 (kd_call kd_ty kd_xt (kd_ctl kd_C196) 600 0) kd_T196.2.2 600 kd_S196 kd_S196_0 = true := by decide +kernel
theorem kd_r196_1 : kd_run1 kd_ty kd_x196 2 (kd_call kd_ty kd_xt (kd_ctl kd_C196) 600 0) kd_T196.2.2 600 kd_S196 kd_S196_1 = true := by decide +kernel
theorem kd_r196_2 : kd_run1 kd_ty kd_x196 2 (kd_call kd_ty kd_xt (kd_ctl kd_C196) 600 0) kd_T196.2.2 600 kd_S196 kd_S196_2 = true := by decide +kernel
theorem kd_r196_3 : kd_run1 kd_ty kd_x196 2 (kd_call kd_ty kd_xt (kd_ctl kd_C196) 600 0) kd_T196.2.2 600 kd_S196 kd_S196_3 = true := by decide +kernel
theorem kd_r196_4 : kd_run1 kd_ty kd_x196 2 (kd_call kd_ty kd_xt (kd_ctl kd_C196) 600 0) kd_T196.2.2 600 kd_S196 kd_S196_4 = true := by decide +kernel
theorem kd_r196_5 : kd_run1 kd_ty kd_x196 2 (kd_call kd_ty kd_xt (kd_ctl kd_C196) 600 0) kd_T196.2.2 600 kd_S196 kd_S196_5 = true := by decide +kernel
theorem kd_r196_6 : kd_run1 kd_ty kd_x196 2 (kd_call kd_ty kd_xt (kd_ctl kd_C196) 600 0) kd_T196.2.2 600 kd_S196 kd_S196_6 = true := by decide +kernel
theorem kd_h196 {g : kc_G} (hg : kc_ok g) : kd_hold g 2 kd_ty 196 kd_T196 := kd_mk (d0 := 1) (di := 0) hg kd_xk196 rfl rfl rfl rfl (kd_al_r kd_C196 ⟨kd_hold_le (kd_h186 hg) (by decide), trivial⟩) (by decide) (by decide +kernel) kd_e196 (kd_al_r kd_S196 ⟨kd_r196_0, kd_r196_1, kd_r196_2, kd_r196_3, kd_r196_4, kd_r196_5, kd_r196_6, trivial⟩)
def kd_P75 : List kd_P := [(none, [], [(203, 203, 0, 9)])]
def kd_T75 : kd_Tc := ([(3, 190, 190)], [], kd_P75)
def kd_C75 : List (Nat × kd_Tc) := [(182, kd_T182)]
def kd_S75_0 : kd_St := (2, [], 0, [(3, 190, 190), (0, 2147483648, 2147483648)], [], [], [(0, (0, 3, 3)), (0, (0, 2147483648, 2147483648))])
def kd_S75_1 : kd_St := (2, [(2147483648, 4294967295), (2147483649, 2147483658)], 2, [(3, 190, 190), (0, 2147483649, 2147483649)], [(1, 2, (1, 0, 2147483648)), (203, 0, (1, 1, 2147483648))], [(203, 203, 0, 0)], [(0, (0, 3, 3)), (0, (0, 2147483649, 2147483649))])
def kd_S75_2 : kd_St := (2, [(2147483648, 4294967295), (2147483648, 4294967295), (2147483650, 2147483658)], 3, [(3, 190, 190), (0, 2147483650, 2147483650)], [(1, 2, (1, 0, 2147483648)), (203, 0, (1, 1, 2147483648)), (203, 1, (1, 2, 2147483648))], [(203, 203, 0, 1)], [(0, (0, 3, 3)), (0, (0, 2147483650, 2147483650))])
def kd_S75_3 : kd_St := (2, [(2147483648, 4294967295), (2147483648, 4294967295), (2147483648, 4294967295), (2147483651, 2147483658)], 4, [(3, 190, 190), (0, 2147483651, 2147483651)], [(1, 2, (1, 0, 2147483648)), (203, 0, (1, 1, 2147483648)), (203, 1, (1, 2, 2147483648)), (203, 2, (1, 3, 2147483648))], [(203, 203, 0, 2)], [(0, (0, 3, 3)), (0, (0, 2147483651, 2147483651))])
def kd_S75_4 : kd_St := (2, [(2147483648, 4294967295), (2147483648, 4294967295), (2147483648, 4294967295), (2147483648, 4294967295), (2147483652, 2147483658)], 5, [(3, 190, 190), (0, 2147483652, 2147483652)], [(1, 2, (1, 0, 2147483648)), (203, 0, (1, 1, 2147483648)), (203, 1, (1, 2, 2147483648)), (203, 2, (1, 3, 2147483648)), (203, 3, (1, 4, 2147483648))], [(203, 203, 0, 3)], [(0, (0, 3, 3)), (0, (0, 2147483652, 2147483652))])
def kd_S75_5 : kd_St := (2, [(2147483648, 4294967295), (2147483648, 4294967295), (2147483648, 4294967295), (2147483648, 4294967295), (2147483648, 4294967295), (2147483653, 2147483658)], 6, [(3, 190, 190), (0, 2147483653, 2147483653)], [(1, 2, (1, 0, 2147483648)), (203, 0, (1, 1, 2147483648)), (203, 1, (1, 2, 2147483648)), (203, 2, (1, 3, 2147483648)), (203, 3, (1, 4, 2147483648)), (203, 4, (1, 5, 2147483648))], [(203, 203, 0, 4)], [(0, (0, 3, 3)), (0, (0, 2147483653, 2147483653))])
def kd_S75_6 : kd_St := (2, [(2147483648, 4294967295), (2147483648, 4294967295), (2147483648, 4294967295), (2147483648, 4294967295), (2147483648, 4294967295), (2147483648, 4294967295), (2147483654, 2147483658)], 7, [(3, 190, 190), (0, 2147483654, 2147483654)], [(1, 2, (1, 0, 2147483648)), (203, 0, (1, 1, 2147483648)), (203, 1, (1, 2, 2147483648)), (203, 2, (1, 3, 2147483648)), (203, 3, (1, 4, 2147483648)), (203, 4, (1, 5, 2147483648)), (203, 5, (1, 6, 2147483648))], [(203, 203, 0, 5)], [(0, (0, 3, 3)), (0, (0, 2147483654, 2147483654))])
def kd_S75_7 : kd_St := (2, [(2147483648, 4294967295), (2147483648, 4294967295), (2147483648, 4294967295), (2147483648, 4294967295), (2147483648, 4294967295), (2147483648, 4294967295), (2147483648, 4294967295), (2147483655, 2147483658)], 8, [(3, 190, 190), (0, 2147483655, 2147483655)], [(1, 2, (1, 0, 2147483648)), (203, 0, (1, 1, 2147483648)), (203, 1, (1, 2, 2147483648)), (203, 2, (1, 3, 2147483648)), (203, 3, (1, 4, 2147483648)), (203, 4, (1, 5, 2147483648)), (203, 5, (1, 6, 2147483648)), (203, 6, (1, 7, 2147483648))], [(203, 203, 0, 6)], [(0, (0, 3, 3)), (0, (0, 2147483655, 2147483655))])
def kd_S75_8 : kd_St := (2, [(2147483648, 4294967295), (2147483648, 4294967295), (2147483648, 4294967295), (2147483648, 4294967295), (2147483648, 4294967295), (2147483648, 4294967295), (2147483648, 4294967295), (2147483648, 4294967295), (2147483656, 2147483658)], 9, [(3, 190, 190), (0, 2147483656, 2147483656)], [(1, 2, (1, 0, 2147483648)), (203, 0, (1, 1, 2147483648)), (203, 1, (1, 2, 2147483648)), (203, 2, (1, 3, 2147483648)), (203, 3, (1, 4, 2147483648)), (203, 4, (1, 5, 2147483648)), (203, 5, (1, 6, 2147483648)), (203, 6, (1, 7, 2147483648)), (203, 7, (1, 8, 2147483648))], [(203, 203, 0, 7)], [(0, (0, 3, 3)), (0, (0, 2147483656, 2147483656))])
def kd_S75_9 : kd_St := (2, [(2147483648, 4294967295), (2147483648, 4294967295), (2147483648, 4294967295), (2147483648, 4294967295), (2147483648, 4294967295), (2147483648, 4294967295), (2147483648, 4294967295), (2147483648, 4294967295), (2147483648, 4294967295), (2147483657, 2147483658)], 10, [(3, 190, 190), (0, 2147483657, 2147483657)], [(1, 2, (1, 0, 2147483648)), (203, 0, (1, 1, 2147483648)), (203, 1, (1, 2, 2147483648)), (203, 2, (1, 3, 2147483648)), (203, 3, (1, 4, 2147483648)), (203, 4, (1, 5, 2147483648)), (203, 5, (1, 6, 2147483648)), (203, 6, (1, 7, 2147483648)), (203, 7, (1, 8, 2147483648)), (203, 8, (1, 9, 2147483648))], [(203, 203, 0, 8)], [(0, (0, 3, 3)), (0, (0, 2147483657, 2147483657))])
def kd_S75_10 : kd_St := (2, [(2147483648, 4294967295), (2147483648, 4294967295), (2147483648, 4294967295), (2147483648, 4294967295), (2147483648, 4294967295), (2147483648, 4294967295), (2147483648, 4294967295), (2147483648, 4294967295), (2147483648, 4294967295), (2147483648, 4294967295)], 10, [(3, 190, 190), (0, 2147483658, 2147483658)], [(1, 2, (0, 2147483658, 2147483658)), (203, 0, (1, 0, 2147483648)), (203, 1, (1, 1, 2147483648)), (203, 2, (1, 2, 2147483648)), (203, 3, (1, 3, 2147483648)), (203, 4, (1, 4, 2147483648)), (203, 5, (1, 5, 2147483648)), (203, 6, (1, 6, 2147483648)), (203, 7, (1, 7, 2147483648)), (203, 8, (1, 8, 2147483648)), (203, 9, (1, 9, 2147483648))], [(203, 203, 0, 9)], [(0, (0, 3, 3)), (0, (0, 2147483658, 2147483658))])
def kd_S75 : List kd_St := [kd_S75_0, kd_S75_1, kd_S75_2, kd_S75_3, kd_S75_4, kd_S75_5, kd_S75_6, kd_S75_7, kd_S75_8, kd_S75_9, kd_S75_10]
theorem kd_e75 : kd_run0 kd_ty kd_x75 2 (kd_call kd_ty kd_xt (kd_ctl kd_C75) 600 0) kd_T75 600 kd_S75 = true := by decide +kernel
theorem kd_r75_0 : kd_run1 kd_ty kd_x75 2 (kd_call kd_ty kd_xt (kd_ctl kd_C75) 600 0) kd_T75.2.2 600 kd_S75 kd_S75_0 = true := by decide +kernel
theorem kd_r75_1 : kd_run1 kd_ty kd_x75 2 (kd_call kd_ty kd_xt (kd_ctl kd_C75) 600 0) kd_T75.2.2 600 kd_S75 kd_S75_1 = true := by decide +kernel
theorem kd_r75_2 : kd_run1 kd_ty kd_x75 2 (kd_call kd_ty kd_xt (kd_ctl kd_C75) 600 0) kd_T75.2.2 600 kd_S75 kd_S75_2 = true := by decide +kernel
theorem kd_r75_3 : kd_run1 kd_ty kd_x75 2 (kd_call kd_ty kd_xt (kd_ctl kd_C75) 600 0) kd_T75.2.2 600 kd_S75 kd_S75_3 = true := by decide +kernel
theorem kd_r75_4 : kd_run1 kd_ty kd_x75 2 (kd_call kd_ty kd_xt (kd_ctl kd_C75) 600 0) kd_T75.2.2 600 kd_S75 kd_S75_4 = true := by decide +kernel
theorem kd_r75_5 : kd_run1 kd_ty kd_x75 2 (kd_call kd_ty kd_xt (kd_ctl kd_C75) 600 0) kd_T75.2.2 600 kd_S75 kd_S75_5 = true := by decide +kernel
theorem kd_r75_6 : kd_run1 kd_ty kd_x75 2 (kd_call kd_ty kd_xt (kd_ctl kd_C75) 600 0) kd_T75.2.2 600 kd_S75 kd_S75_6 = true := by decide +kernel
theorem kd_r75_7 : kd_run1 kd_ty kd_x75 2 (kd_call kd_ty kd_xt (kd_ctl kd_C75) 600 0) kd_T75.2.2 600 kd_S75 kd_S75_7 = true := by decide +kernel
theorem kd_r75_8 : kd_run1 kd_ty kd_x75 2 (kd_call kd_ty kd_xt (kd_ctl kd_C75) 600 0) kd_T75.2.2 600 kd_S75 kd_S75_8 = true := by decide +kernel
theorem kd_r75_9 : kd_run1 kd_ty kd_x75 2 (kd_call kd_ty kd_xt (kd_ctl kd_C75) 600 0) kd_T75.2.2 600 kd_S75 kd_S75_9 = true := by decide +kernel
theorem kd_r75_10 : kd_run1 kd_ty kd_x75 2 (kd_call kd_ty kd_xt (kd_ctl kd_C75) 600 0) kd_T75.2.2 600 kd_S75 kd_S75_10 = true := by decide +kernel
theorem kd_h75 {g : kc_G} (hg : kc_ok g) : kd_hold g 2 kd_ty 75 kd_T75 := kd_mk (d0 := 1) (di := 0) hg kd_xk75 rfl rfl rfl rfl (kd_al_r kd_C75 ⟨kd_hold_le (kd_h182 hg) (by decide), trivial⟩) (by decide) (by decide +kernel) kd_e75 (kd_al_r kd_S75 ⟨kd_r75_0, kd_r75_1, kd_r75_2, kd_r75_3, kd_r75_4, kd_r75_5, kd_r75_6, kd_r75_7, kd_r75_8, kd_r75_9, kd_r75_10, trivial⟩)
def kd_P197 : List kd_P := [(some (0, 2147483648, 2147483649), [], [(202, 202, 0, 2)])]
def kd_T197 : kd_Tc := ([(3, 190, 190)], [], kd_P197)
def kd_C197 : List (Nat × kd_Tc) := [(189, kd_T189)]
def kd_S197_0 : kd_St := (4, [], 0, [(3, 190, 190), (0, 2147483648, 2147483648), (0, 2147483648, 2147483648), (9, 0, 0)], [], [], [(0, (0, 5, 5)), (0, (0, 2147483648, 2147483648))])
def kd_S197_1 : kd_St := (4, [(2147483649, 2147483651), (0, 4294967295), (2147483648, 2147483649)], 3, [(3, 190, 190), (1, 0, 2147483648), (0, 2147483649, 2147483649), (1, 1, 2147483648)], [(1, 1, (1, 2, 2147483648))], [(202, 202, 0, 0)], [(0, (0, 5, 5)), (0, (0, 2147483649, 2147483649))])
def kd_S197_2 : kd_St := (4, [(2147483650, 2147483651), (0, 4294967295), (2147483648, 2147483649)], 3, [(3, 190, 190), (1, 0, 2147483648), (0, 2147483650, 2147483650), (1, 1, 2147483648)], [(1, 1, (1, 2, 2147483648))], [(202, 202, 0, 1)], [(0, (0, 5, 5)), (0, (0, 2147483650, 2147483650))])
def kd_S197_3 : kd_St := (4, [(0, 4294967295), (2147483648, 2147483649)], 2, [(3, 190, 190), (1, 0, 2147483648), (0, 2147483651, 2147483651), (1, 1, 2147483648)], [(1, 1, (0, 2147483651, 2147483651))], [(202, 202, 0, 2)], [(0, (0, 5, 5)), (0, (0, 2147483651, 2147483651))])
def kd_S197 : List kd_St := [kd_S197_0, kd_S197_1, kd_S197_2, kd_S197_3]
theorem kd_e197 : kd_run0 kd_ty kd_x197 4 (kd_call kd_ty kd_xt (kd_ctl kd_C197) 600 0) kd_T197 600 kd_S197 = true := by decide +kernel
theorem kd_r197_0 : kd_run1 kd_ty kd_x197 4 (kd_call kd_ty kd_xt (kd_ctl kd_C197) 600 0) kd_T197.2.2 600 kd_S197 kd_S197_0 = true := by decide +kernel
theorem kd_r197_1 : kd_run1 kd_ty kd_x197 4 (kd_call kd_ty kd_xt (kd_ctl kd_C197) 600 0) kd_T197.2.2 600 kd_S197 kd_S197_1 = true := by decide +kernel
theorem kd_r197_2 : kd_run1 kd_ty kd_x197 4 (kd_call kd_ty kd_xt (kd_ctl kd_C197) 600 0) kd_T197.2.2 600 kd_S197 kd_S197_2 = true := by decide +kernel
theorem kd_r197_3 : kd_run1 kd_ty kd_x197 4 (kd_call kd_ty kd_xt (kd_ctl kd_C197) 600 0) kd_T197.2.2 600 kd_S197 kd_S197_3 = true := by decide +kernel
theorem kd_h197 {g : kc_G} (hg : kc_ok g) : kd_hold g 2 kd_ty 197 kd_T197 := kd_mk (d0 := 1) (di := 0) hg kd_xk197 rfl rfl rfl rfl (kd_al_r kd_C197 ⟨kd_hold_le (kd_h189 hg) (by decide), trivial⟩) (by decide) (by decide +kernel) kd_e197 (kd_al_r kd_S197 ⟨kd_r197_0, kd_r197_1, kd_r197_2, kd_r197_3, trivial⟩)
def kd_P195 : List kd_P := [(some (0, 2147483648, 2147483655), [], [(202, 202, 0, 2), (203, 203, 0, 9), (190, 190, 4, 4), (190, 190, 6, 6), (190, 190, 14, 14)])]
def kd_T195 : kd_Tc := ([(3, 190, 190), (0, 2147483648, 2147484647)], [], kd_P195)
def kd_C195 : List (Nat × kd_Tc) := [(197, kd_T197), (75, kd_T75), (196, kd_T196)]
def kd_S195_0 : kd_St := (61, [(2147483648, 4294967295), (2147483649, 2147483747), (2147483648, 2147483653)], 3, [(3, 190, 190), (1, 0, 2147483648), (1, 1, 2147483648), (1, 2, 2147483648)], [], [(202, 202, 0, 2), (190, 190, 4, 4)], [(0, (0, 62, 62)), (0, (1, 2, 2147483648))])
def kd_S195 : List kd_St := [kd_S195_0]
theorem kd_e195 : kd_run0 kd_ty kd_x195 4 (kd_call kd_ty kd_xt (kd_ctl kd_C195) 600 2) kd_T195 600 kd_S195 = true := by decide +kernel
theorem kd_r195_0 : kd_run1 kd_ty kd_x195 4 (kd_call kd_ty kd_xt (kd_ctl kd_C195) 600 2) kd_T195.2.2 600 kd_S195 kd_S195_0 = true := by decide +kernel
theorem kd_h195 {g : kc_G} (hg : kc_ok g) : kd_hold g 5 kd_ty 195 kd_T195 := kd_mk (d0 := 2) (di := 2) hg kd_xk195 rfl rfl rfl rfl (kd_al_r kd_C195 ⟨kd_hold_le (kd_h197 hg) (by decide), kd_hold_le (kd_h75 hg) (by decide), kd_hold_le (kd_h196 hg) (by decide), trivial⟩) (by decide) (by decide +kernel) kd_e195 (kd_al_r kd_S195 ⟨kd_r195_0, trivial⟩)
def kd_P183 : List kd_P := [(some (0, 2147483648, 2147483655), [], [(195, 200, 0, 2), (202, 202, 0, 2), (192, 193, 0, 5), (201, 201, 0, 5), (191, 191, 0, 9), (203, 203, 0, 9), (190, 190, 4, 4), (190, 190, 6, 6), (190, 190, 14, 14)])]
def kd_T183 : kd_Tc := ([(3, 190, 190), (0, 2147483648, 2147483663), (3, 130, 189)], [], kd_P183)
def kd_C183 : List (Nat × kd_Tc) := [(195, kd_T195), (194, kd_T194), (193, kd_T193), (192, kd_T192), (191, kd_T191), (184, kd_T184)]
def kd_S183 : List kd_St := []
theorem kd_e183 : kd_run0 kd_ty kd_x183 3 (kd_call kd_ty kd_xt (kd_ctl kd_C183) 600 0) kd_T183 600 kd_S183 = true := by decide +kernel
theorem kd_h183 {g : kc_G} (hg : kc_ok g) : kd_hold g 9 kd_ty 183 kd_T183 := kd_mk (d0 := 8) (di := 0) hg kd_xk183 rfl rfl rfl rfl (kd_al_r kd_C183 ⟨kd_hold_le (kd_h195 hg) (by decide), kd_hold_le (kd_h194 hg) (by decide), kd_hold_le (kd_h193 hg) (by decide), kd_hold_le (kd_h192 hg) (by decide), kd_hold_le (kd_h191 hg) (by decide), kd_hold_le (kd_h184 hg) (by decide), trivial⟩) (by decide) (by decide +kernel) kd_e183 (kd_al_r kd_S183 trivial)
def kd_P74 : List kd_P := [(none, [], [(202, 202, 0, 2), (192, 193, 0, 5), (201, 201, 0, 5), (191, 191, 0, 9), (203, 203, 0, 9), (190, 190, 2, 6), (190, 190, 14, 14)])]
def kd_T74 : kd_Tc := ([(3, 190, 190)], [], kd_P74)
def kd_C74 : List (Nat × kd_Tc) := [(75, kd_T75)]
def kd_S74_0 : kd_St := (32, [], 0, [(3, 190, 190), (0, 2147483648, 2147483648)], [(190, 2, (0, 2147483648, 2147483648)), (190, 3, (0, 2147483648, 2147483648)), (190, 4, (0, 2147483648, 2147483648)), (190, 5, (0, 2147483648, 2147483648)), (190, 6, (0, 2147483648, 2147483648)), (190, 14, (0, 2147483648, 2147483648))], [(190, 190, 2, 6), (190, 190, 14, 14)], [(0, (0, 33, 33)), (0, (0, 2147483648, 2147483648))])
def kd_S74_1 : kd_St := (32, [(2147483648, 2147483653), (2147483649, 2147483658)], 2, [(3, 190, 190), (0, 2147483649, 2147483649)], [(1, 2, (1, 0, 2147483648)), (190, 2, (0, 2147483648, 2147483648)), (190, 3, (0, 2147483648, 2147483648)), (190, 4, (0, 2147483648, 2147483648)), (190, 5, (0, 2147483648, 2147483648)), (190, 6, (0, 2147483648, 2147483648)), (190, 14, (0, 2147483648, 2147483648)), (191, 0, (1, 1, 2147483648))], [(191, 191, 0, 0), (190, 190, 2, 6), (190, 190, 14, 14)], [(0, (0, 33, 33)), (0, (0, 2147483649, 2147483649))])
def kd_S74_2 : kd_St := (32, [(2147483648, 2147483653), (2147483648, 2147483653), (2147483650, 2147483658)], 3, [(3, 190, 190), (0, 2147483650, 2147483650)], [(1, 2, (1, 0, 2147483648)), (190, 2, (0, 2147483648, 2147483648)), (190, 3, (0, 2147483648, 2147483648)), (190, 4, (0, 2147483648, 2147483648)), (190, 5, (0, 2147483648, 2147483648)), (190, 6, (0, 2147483648, 2147483648)), (190, 14, (0, 2147483648, 2147483648)), (191, 0, (1, 1, 2147483648)), (191, 1, (1, 2, 2147483648))], [(191, 191, 0, 1), (190, 190, 2, 6), (190, 190, 14, 14)], [(0, (0, 33, 33)), (0, (0, 2147483650, 2147483650))])
def kd_S74_3 : kd_St := (32, [(2147483648, 2147483653), (2147483648, 2147483653), (2147483648, 2147483653), (2147483651, 2147483658)], 4, [(3, 190, 190), (0, 2147483651, 2147483651)], [(1, 2, (1, 0, 2147483648)), (190, 2, (0, 2147483648, 2147483648)), (190, 3, (0, 2147483648, 2147483648)), (190, 4, (0, 2147483648, 2147483648)), (190, 5, (0, 2147483648, 2147483648)), (190, 6, (0, 2147483648, 2147483648)), (190, 14, (0, 2147483648, 2147483648)), (191, 0, (1, 1, 2147483648)), (191, 1, (1, 2, 2147483648)), (191, 2, (1, 3, 2147483648))], [(191, 191, 0, 2), (190, 190, 2, 6), (190, 190, 14, 14)], [(0, (0, 33, 33)), (0, (0, 2147483651, 2147483651))])
def kd_S74_4 : kd_St := (32, [(2147483648, 2147483653), (2147483648, 2147483653), (2147483648, 2147483653), (2147483648, 2147483653), (2147483652, 2147483658)], 5, [(3, 190, 190), (0, 2147483652, 2147483652)], [(1, 2, (1, 0, 2147483648)), (190, 2, (0, 2147483648, 2147483648)), (190, 3, (0, 2147483648, 2147483648)), (190, 4, (0, 2147483648, 2147483648)), (190, 5, (0, 2147483648, 2147483648)), (190, 6, (0, 2147483648, 2147483648)), (190, 14, (0, 2147483648, 2147483648)), (191, 0, (1, 1, 2147483648)), (191, 1, (1, 2, 2147483648)), (191, 2, (1, 3, 2147483648)), (191, 3, (1, 4, 2147483648))], [(191, 191, 0, 3), (190, 190, 2, 6), (190, 190, 14, 14)], [(0, (0, 33, 33)), (0, (0, 2147483652, 2147483652))])
def kd_S74_5 : kd_St := (32, [(2147483648, 2147483653), (2147483648, 2147483653), (2147483648, 2147483653), (2147483648, 2147483653), (2147483648, 2147483653), (2147483653, 2147483658)], 6, [(3, 190, 190), (0, 2147483653, 2147483653)], [(1, 2, (1, 0, 2147483648)), (190, 2, (0, 2147483648, 2147483648)), (190, 3, (0, 2147483648, 2147483648)), (190, 4, (0, 2147483648, 2147483648)), (190, 5, (0, 2147483648, 2147483648)), (190, 6, (0, 2147483648, 2147483648)), (190, 14, (0, 2147483648, 2147483648)), (191, 0, (1, 1, 2147483648)), (191, 1, (1, 2, 2147483648)), (191, 2, (1, 3, 2147483648)), (191, 3, (1, 4, 2147483648)), (191, 4, (1, 5, 2147483648))], [(191, 191, 0, 4), (190, 190, 2, 6), (190, 190, 14, 14)], [(0, (0, 33, 33)), (0, (0, 2147483653, 2147483653))])
def kd_S74_6 : kd_St := (32, [(2147483648, 2147483653), (2147483648, 2147483653), (2147483648, 2147483653), (2147483648, 2147483653), (2147483648, 2147483653), (2147483648, 2147483653), (2147483654, 2147483658)], 7, [(3, 190, 190), (0, 2147483654, 2147483654)], [(1, 2, (1, 0, 2147483648)), (190, 2, (0, 2147483648, 2147483648)), (190, 3, (0, 2147483648, 2147483648)), (190, 4, (0, 2147483648, 2147483648)), (190, 5, (0, 2147483648, 2147483648)), (190, 6, (0, 2147483648, 2147483648)), (190, 14, (0, 2147483648, 2147483648)), (191, 0, (1, 1, 2147483648)), (191, 1, (1, 2, 2147483648)), (191, 2, (1, 3, 2147483648)), (191, 3, (1, 4, 2147483648)), (191, 4, (1, 5, 2147483648)), (191, 5, (1, 6, 2147483648))], [(191, 191, 0, 5), (190, 190, 2, 6), (190, 190, 14, 14)], [(0, (0, 33, 33)), (0, (0, 2147483654, 2147483654))])
def kd_S74_7 : kd_St := (32, [(2147483648, 2147483653), (2147483648, 2147483653), (2147483648, 2147483653), (2147483648, 2147483653), (2147483648, 2147483653), (2147483648, 2147483653), (2147483648, 2147483653), (2147483655, 2147483658)], 8, [(3, 190, 190), (0, 2147483655, 2147483655)], [(1, 2, (1, 0, 2147483648)), (190, 2, (0, 2147483648, 2147483648)), (190, 3, (0, 2147483648, 2147483648)), (190, 4, (0, 2147483648, 2147483648)), (190, 5, (0, 2147483648, 2147483648)), (190, 6, (0, 2147483648, 2147483648)), (190, 14, (0, 2147483648, 2147483648)), (191, 0, (1, 1, 2147483648)), (191, 1, (1, 2, 2147483648)), (191, 2, (1, 3, 2147483648)), (191, 3, (1, 4, 2147483648)), (191, 4, (1, 5, 2147483648)), (191, 5, (1, 6, 2147483648)), (191, 6, (1, 7, 2147483648))], [(191, 191, 0, 6), (190, 190, 2, 6), (190, 190, 14, 14)], [(0, (0, 33, 33)), (0, (0, 2147483655, 2147483655))])
def kd_S74_8 : kd_St := (32, [(2147483648, 2147483653), (2147483648, 2147483653), (2147483648, 2147483653), (2147483648, 2147483653), (2147483648, 2147483653), (2147483648, 2147483653), (2147483648, 2147483653), (2147483648, 2147483653), (2147483656, 2147483658)], 9, [(3, 190, 190), (0, 2147483656, 2147483656)], [(1, 2, (1, 0, 2147483648)), (190, 2, (0, 2147483648, 2147483648)), (190, 3, (0, 2147483648, 2147483648)), (190, 4, (0, 2147483648, 2147483648)), (190, 5, (0, 2147483648, 2147483648)), (190, 6, (0, 2147483648, 2147483648)), (190, 14, (0, 2147483648, 2147483648)), (191, 0, (1, 1, 2147483648)), (191, 1, (1, 2, 2147483648)), (191, 2, (1, 3, 2147483648)), (191, 3, (1, 4, 2147483648)), (191, 4, (1, 5, 2147483648)), (191, 5, (1, 6, 2147483648)), (191, 6, (1, 7, 2147483648)), (191, 7, (1, 8, 2147483648))], [(191, 191, 0, 7), (190, 190, 2, 6), (190, 190, 14, 14)], [(0, (0, 33, 33)), (0, (0, 2147483656, 2147483656))])
def kd_S74_9 : kd_St := (32, [(2147483648, 2147483653), (2147483648, 2147483653), (2147483648, 2147483653), (2147483648, 2147483653), (2147483648, 2147483653), (2147483648, 2147483653), (2147483648, 2147483653), (2147483648, 2147483653), (2147483648, 2147483653), (2147483657, 2147483658)], 10, [(3, 190, 190), (0, 2147483657, 2147483657)], [(1, 2, (1, 0, 2147483648)), (190, 2, (0, 2147483648, 2147483648)), (190, 3, (0, 2147483648, 2147483648)), (190, 4, (0, 2147483648, 2147483648)), (190, 5, (0, 2147483648, 2147483648)), (190, 6, (0, 2147483648, 2147483648)), (190, 14, (0, 2147483648, 2147483648)), (191, 0, (1, 1, 2147483648)), (191, 1, (1, 2, 2147483648)), (191, 2, (1, 3, 2147483648)), (191, 3, (1, 4, 2147483648)), (191, 4, (1, 5, 2147483648)), (191, 5, (1, 6, 2147483648)), (191, 6, (1, 7, 2147483648)), (191, 7, (1, 8, 2147483648)), (191, 8, (1, 9, 2147483648))], [(191, 191, 0, 8), (190, 190, 2, 6), (190, 190, 14, 14)], [(0, (0, 33, 33)), (0, (0, 2147483657, 2147483657))])
def kd_S74_10 : kd_St := (32, [(2147483648, 2147483653), (2147483648, 2147483653), (2147483648, 2147483653), (2147483648, 2147483653), (2147483648, 2147483653), (2147483648, 2147483653), (2147483648, 2147483653), (2147483648, 2147483653), (2147483648, 2147483653), (2147483648, 2147483653)], 10, [(3, 190, 190), (0, 2147483658, 2147483658)], [(1, 2, (0, 2147483658, 2147483658)), (190, 2, (0, 2147483648, 2147483648)), (190, 3, (0, 2147483648, 2147483648)), (190, 4, (0, 2147483648, 2147483648)), (190, 5, (0, 2147483648, 2147483648)), (190, 6, (0, 2147483648, 2147483648)), (190, 14, (0, 2147483648, 2147483648)), (191, 0, (1, 0, 2147483648)), (191, 1, (1, 1, 2147483648)), (191, 2, (1, 2, 2147483648)), (191, 3, (1, 3, 2147483648)), (191, 4, (1, 4, 2147483648)), (191, 5, (1, 5, 2147483648)), (191, 6, (1, 6, 2147483648)), (191, 7, (1, 7, 2147483648)), (191, 8, (1, 8, 2147483648)), (191, 9, (1, 9, 2147483648))], [(191, 191, 0, 9), (190, 190, 2, 6), (190, 190, 14, 14)], [(0, (0, 33, 33)), (0, (0, 2147483658, 2147483658))])
def kd_S74 : List kd_St := [kd_S74_0, kd_S74_1, kd_S74_2, kd_S74_3, kd_S74_4, kd_S74_5, kd_S74_6, kd_S74_7, kd_S74_8, kd_S74_9, kd_S74_10]
theorem kd_e74 : kd_run0 kd_ty kd_x74 2 (kd_call kd_ty kd_xt (kd_ctl kd_C74) 600 1) kd_T74 600 kd_S74 = true := by decide +kernel
theorem kd_r74_0 : kd_run1 kd_ty kd_x74 2 (kd_call kd_ty kd_xt (kd_ctl kd_C74) 600 1) kd_T74.2.2 600 kd_S74 kd_S74_0 = true := by decide +kernel
theorem kd_r74_1 : kd_run1 kd_ty kd_x74 2 (kd_call kd_ty kd_xt (kd_ctl kd_C74) 600 1) kd_T74.2.2 600 kd_S74 kd_S74_1 = true := by decide +kernel
theorem kd_r74_2 : kd_run1 kd_ty kd_x74 2 (kd_call kd_ty kd_xt (kd_ctl kd_C74) 600 1) kd_T74.2.2 600 kd_S74 kd_S74_2 = true := by decide +kernel
theorem kd_r74_3 : kd_run1 kd_ty kd_x74 2 (kd_call kd_ty kd_xt (kd_ctl kd_C74) 600 1) kd_T74.2.2 600 kd_S74 kd_S74_3 = true := by decide +kernel
theorem kd_r74_4 : kd_run1 kd_ty kd_x74 2 (kd_call kd_ty kd_xt (kd_ctl kd_C74) 600 1) kd_T74.2.2 600 kd_S74 kd_S74_4 = true := by decide +kernel
theorem kd_r74_5 : kd_run1 kd_ty kd_x74 2 (kd_call kd_ty kd_xt (kd_ctl kd_C74) 600 1) kd_T74.2.2 600 kd_S74 kd_S74_5 = true := by decide +kernel
theorem kd_r74_6 : kd_run1 kd_ty kd_x74 2 (kd_call kd_ty kd_xt (kd_ctl kd_C74) 600 1) kd_T74.2.2 600 kd_S74 kd_S74_6 = true := by decide +kernel
theorem kd_r74_7 : kd_run1 kd_ty kd_x74 2 (kd_call kd_ty kd_xt (kd_ctl kd_C74) 600 1) kd_T74.2.2 600 kd_S74 kd_S74_7 = true := by decide +kernel
theorem kd_r74_8 : kd_run1 kd_ty kd_x74 2 (kd_call kd_ty kd_xt (kd_ctl kd_C74) 600 1) kd_T74.2.2 600 kd_S74 kd_S74_8 = true := by decide +kernel
theorem kd_r74_9 : kd_run1 kd_ty kd_x74 2 (kd_call kd_ty kd_xt (kd_ctl kd_C74) 600 1) kd_T74.2.2 600 kd_S74 kd_S74_9 = true := by decide +kernel
theorem kd_r74_10 : kd_run1 kd_ty kd_x74 2 (kd_call kd_ty kd_xt (kd_ctl kd_C74) 600 1) kd_T74.2.2 600 kd_S74 kd_S74_10 = true := by decide +kernel
theorem kd_h74 {g : kc_G} (hg : kc_ok g) : kd_hold g 4 kd_ty 74 kd_T74 := kd_mk (d0 := 2) (di := 1) hg kd_xk74 rfl rfl rfl rfl (kd_al_r kd_C74 ⟨kd_hold_le (kd_h75 hg) (by decide), trivial⟩) (by decide) (by decide +kernel) kd_e74 (kd_al_r kd_S74 ⟨kd_r74_0, kd_r74_1, kd_r74_2, kd_r74_3, kd_r74_4, kd_r74_5, kd_r74_6, kd_r74_7, kd_r74_8, kd_r74_9, kd_r74_10, trivial⟩)
def kd_P76 : List kd_P := [(some (0, 2147483648, 2147483658), [], [])]
def kd_T76 : kd_Tc := ([(3, 190, 190)], [], kd_P76)
def kd_C76 : List (Nat × kd_Tc) := []
def kd_S76_0 : kd_St := (4, [], 0, [(3, 190, 190), (0, 2147483648, 2147483648), (0, 2147483648, 2147483648)], [], [], [(0, (0, 5, 5)), (0, (0, 2147483648, 2147483648))])
def kd_S76_1 : kd_St := (4, [(2147483649, 2147483658), (2147483648, 2147483649)], 2, [(3, 190, 190), (1, 0, 2147483648), (0, 2147483649, 2147483649)], [(1, 2, (1, 1, 2147483648))], [], [(0, (0, 5, 5)), (0, (0, 2147483649, 2147483649))])
def kd_S76_2 : kd_St := (4, [(2147483650, 2147483658), (2147483648, 2147483650)], 2, [(3, 190, 190), (1, 0, 2147483648), (0, 2147483650, 2147483650)], [(1, 2, (1, 1, 2147483648))], [], [(0, (0, 5, 5)), (0, (0, 2147483650, 2147483650))])
def kd_S76_3 : kd_St := (4, [(2147483651, 2147483658), (2147483648, 2147483651)], 2, [(3, 190, 190), (1, 0, 2147483648), (0, 2147483651, 2147483651)], [(1, 2, (1, 1, 2147483648))], [], [(0, (0, 5, 5)), (0, (0, 2147483651, 2147483651))])
def kd_S76_4 : kd_St := (4, [(2147483652, 2147483658), (2147483648, 2147483652)], 2, [(3, 190, 190), (1, 0, 2147483648), (0, 2147483652, 2147483652)], [(1, 2, (1, 1, 2147483648))], [], [(0, (0, 5, 5)), (0, (0, 2147483652, 2147483652))])
def kd_S76_5 : kd_St := (4, [(2147483653, 2147483658), (2147483648, 2147483653)], 2, [(3, 190, 190), (1, 0, 2147483648), (0, 2147483653, 2147483653)], [(1, 2, (1, 1, 2147483648))], [], [(0, (0, 5, 5)), (0, (0, 2147483653, 2147483653))])
def kd_S76_6 : kd_St := (4, [(2147483654, 2147483658), (2147483648, 2147483654)], 2, [(3, 190, 190), (1, 0, 2147483648), (0, 2147483654, 2147483654)], [(1, 2, (1, 1, 2147483648))], [], [(0, (0, 5, 5)), (0, (0, 2147483654, 2147483654))])
def kd_S76_7 : kd_St := (4, [(2147483655, 2147483658), (2147483648, 2147483655)], 2, [(3, 190, 190), (1, 0, 2147483648), (0, 2147483655, 2147483655)], [(1, 2, (1, 1, 2147483648))], [], [(0, (0, 5, 5)), (0, (0, 2147483655, 2147483655))])
def kd_S76_8 : kd_St := (4, [(2147483656, 2147483658), (2147483648, 2147483656)], 2, [(3, 190, 190), (1, 0, 2147483648), (0, 2147483656, 2147483656)], [(1, 2, (1, 1, 2147483648))], [], [(0, (0, 5, 5)), (0, (0, 2147483656, 2147483656))])
def kd_S76_9 : kd_St := (4, [(2147483657, 2147483658), (2147483648, 2147483657)], 2, [(3, 190, 190), (1, 0, 2147483648), (0, 2147483657, 2147483657)], [(1, 2, (1, 1, 2147483648))], [], [(0, (0, 5, 5)), (0, (0, 2147483657, 2147483657))])
def kd_S76_10 : kd_St := (4, [(2147483648, 2147483658)], 1, [(3, 190, 190), (1, 0, 2147483648), (0, 2147483658, 2147483658)], [(1, 2, (0, 2147483658, 2147483658))], [], [(0, (0, 5, 5)), (0, (0, 2147483658, 2147483658))])
def kd_S76 : List kd_St := [kd_S76_0, kd_S76_1, kd_S76_2, kd_S76_3, kd_S76_4, kd_S76_5, kd_S76_6, kd_S76_7, kd_S76_8, kd_S76_9, kd_S76_10]
theorem kd_e76 : kd_run0 kd_ty kd_x76 3 (kd_call kd_ty kd_xt (kd_ctl kd_C76) 600 0) kd_T76 600 kd_S76 = true := by decide +kernel
theorem kd_r76_0 : kd_run1 kd_ty kd_x76 3 (kd_call kd_ty kd_xt (kd_ctl kd_C76) 600 0) kd_T76.2.2 600 kd_S76 kd_S76_0 = true := by decide +kernel
theorem kd_r76_1 : kd_run1 kd_ty kd_x76 3 (kd_call kd_ty kd_xt (kd_ctl kd_C76) 600 0) kd_T76.2.2 600 kd_S76 kd_S76_1 = true := by decide +kernel
theorem kd_r76_2 : kd_run1 kd_ty kd_x76 3 (kd_call kd_ty kd_xt (kd_ctl kd_C76) 600 0) kd_T76.2.2 600 kd_S76 kd_S76_2 = true := by decide +kernel
theorem kd_r76_3 : kd_run1 kd_ty kd_x76 3 (kd_call kd_ty kd_xt (kd_ctl kd_C76) 600 0) kd_T76.2.2 600 kd_S76 kd_S76_3 = true := by decide +kernel
theorem kd_r76_4 : kd_run1 kd_ty kd_x76 3 (kd_call kd_ty kd_xt (kd_ctl kd_C76) 600 0) kd_T76.2.2 600 kd_S76 kd_S76_4 = true := by decide +kernel
theorem kd_r76_5 : kd_run1 kd_ty kd_x76 3 (kd_call kd_ty kd_xt (kd_ctl kd_C76) 600 0) kd_T76.2.2 600 kd_S76 kd_S76_5 = true := by decide +kernel
theorem kd_r76_6 : kd_run1 kd_ty kd_x76 3 (kd_call kd_ty kd_xt (kd_ctl kd_C76) 600 0) kd_T76.2.2 600 kd_S76 kd_S76_6 = true := by decide +kernel
theorem kd_r76_7 : kd_run1 kd_ty kd_x76 3 (kd_call kd_ty kd_xt (kd_ctl kd_C76) 600 0) kd_T76.2.2 600 kd_S76 kd_S76_7 = true := by decide +kernel
theorem kd_r76_8 : kd_run1 kd_ty kd_x76 3 (kd_call kd_ty kd_xt (kd_ctl kd_C76) 600 0) kd_T76.2.2 600 kd_S76 kd_S76_8 = true := by decide +kernel
theorem kd_r76_9 : kd_run1 kd_ty kd_x76 3 (kd_call kd_ty kd_xt (kd_ctl kd_C76) 600 0) kd_T76.2.2 600 kd_S76 kd_S76_9 = true := by decide +kernel
theorem kd_r76_10 : kd_run1 kd_ty kd_x76 3 (kd_call kd_ty kd_xt (kd_ctl kd_C76) 600 0) kd_T76.2.2 600 kd_S76 kd_S76_10 = true := by decide +kernel
theorem kd_h76 {g : kc_G} (hg : kc_ok g) : kd_hold g 1 kd_ty 76 kd_T76 := kd_mk (d0 := 0) (di := 0) hg kd_xk76 rfl rfl rfl rfl (kd_al_r kd_C76 trivial) (by decide) (by decide +kernel) kd_e76 (kd_al_r kd_S76 ⟨kd_r76_0, kd_r76_1, kd_r76_2, kd_r76_3, kd_r76_4, kd_r76_5, kd_r76_6, kd_r76_7, kd_r76_8, kd_r76_9, kd_r76_10, trivial⟩)
def kd_P187 : List kd_P := [(some (0, 2147483647, 2147483657), [], [])]
def kd_T187q0 : kd_Tc := ([(3, 190, 190), (0, 2147483648, 2147483648)], [], kd_P187)
def kd_C187q0 : List (Nat × kd_Tc) := []
def kd_S187q0 : List kd_St := []
theorem kd_e187q0 : kd_run0 kd_ty kd_x187 2 (kd_call kd_ty kd_xt (kd_ctl kd_C187q0) 600 0) kd_T187q0 600 kd_S187q0 = true := by decide +kernel
theorem kd_h187q0 {g : kc_G} (hg : kc_ok g) : kd_hold g 1 kd_ty 187 kd_T187q0 := kd_mk (d0 := 0) (di := 0) hg kd_xk187 rfl rfl rfl rfl (kd_al_r kd_C187q0 trivial) (by decide) (by decide +kernel) kd_e187q0 (kd_al_r kd_S187q0 trivial)
def kd_T187q1 : kd_Tc := ([(3, 190, 190), (0, 2147483649, 2147483649)], [], kd_P187)
def kd_C187q1 : List (Nat × kd_Tc) := []
def kd_S187q1 : List kd_St := []
theorem kd_e187q1 : kd_run0 kd_ty kd_x187 2 (kd_call kd_ty kd_xt (kd_ctl kd_C187q1) 600 0) kd_T187q1 600 kd_S187q1 = true := by decide +kernel
theorem kd_h187q1 {g : kc_G} (hg : kc_ok g) : kd_hold g 1 kd_ty 187 kd_T187q1 := kd_mk (d0 := 0) (di := 0) hg kd_xk187 rfl rfl rfl rfl (kd_al_r kd_C187q1 trivial) (by decide) (by decide +kernel) kd_e187q1 (kd_al_r kd_S187q1 trivial)
def kd_T187q2 : kd_Tc := ([(3, 190, 190), (0, 2147483650, 2147483650)], [], kd_P187)
def kd_C187q2 : List (Nat × kd_Tc) := []
def kd_S187q2 : List kd_St := []
theorem kd_e187q2 : kd_run0 kd_ty kd_x187 2 (kd_call kd_ty kd_xt (kd_ctl kd_C187q2) 600 0) kd_T187q2 600 kd_S187q2 = true := by decide +kernel
theorem kd_h187q2 {g : kc_G} (hg : kc_ok g) : kd_hold g 1 kd_ty 187 kd_T187q2 := kd_mk (d0 := 0) (di := 0) hg kd_xk187 rfl rfl rfl rfl (kd_al_r kd_C187q2 trivial) (by decide) (by decide +kernel) kd_e187q2 (kd_al_r kd_S187q2 trivial)
def kd_T187q3 : kd_Tc := ([(3, 190, 190), (0, 2147483651, 2147483651)], [], kd_P187)
def kd_C187q3 : List (Nat × kd_Tc) := []
def kd_S187q3 : List kd_St := []
theorem kd_e187q3 : kd_run0 kd_ty kd_x187 2 (kd_call kd_ty kd_xt (kd_ctl kd_C187q3) 600 0) kd_T187q3 600 kd_S187q3 = true := by decide +kernel
theorem kd_h187q3 {g : kc_G} (hg : kc_ok g) : kd_hold g 1 kd_ty 187 kd_T187q3 := kd_mk (d0 := 0) (di := 0) hg kd_xk187 rfl rfl rfl rfl (kd_al_r kd_C187q3 trivial) (by decide) (by decide +kernel) kd_e187q3 (kd_al_r kd_S187q3 trivial)
def kd_T187q4 : kd_Tc := ([(3, 190, 190), (0, 2147483652, 2147483652)], [], kd_P187)
def kd_C187q4 : List (Nat × kd_Tc) := []
def kd_S187q4 : List kd_St := []
theorem kd_e187q4 : kd_run0 kd_ty kd_x187 2 (kd_call kd_ty kd_xt (kd_ctl kd_C187q4) 600 0) kd_T187q4 600 kd_S187q4 = true := by decide +kernel
theorem kd_h187q4 {g : kc_G} (hg : kc_ok g) : kd_hold g 1 kd_ty 187 kd_T187q4 := kd_mk (d0 := 0) (di := 0) hg kd_xk187 rfl rfl rfl rfl (kd_al_r kd_C187q4 trivial) (by decide) (by decide +kernel) kd_e187q4 (kd_al_r kd_S187q4 trivial)
def kd_T187q5 : kd_Tc := ([(3, 190, 190), (0, 2147483653, 2147483653)], [], kd_P187)
def kd_C187q5 : List (Nat × kd_Tc) := []
def kd_S187q5 : List kd_St := []
theorem kd_e187q5 : kd_run0 kd_ty kd_x187 2 (kd_call kd_ty kd_xt (kd_ctl kd_C187q5) 600 0) kd_T187q5 600 kd_S187q5 = true := by decide +kernel
theorem kd_h187q5 {g : kc_G} (hg : kc_ok g) : kd_hold g 1 kd_ty 187 kd_T187q5 := kd_mk (d0 := 0) (di := 0) hg kd_xk187 rfl rfl rfl rfl (kd_al_r kd_C187q5 trivial) (by decide) (by decide +kernel) kd_e187q5 (kd_al_r kd_S187q5 trivial)
def kd_T187 : kd_Tc := ([(3, 190, 190), (0, 2147483648, 2147483653)], [], kd_P187)
theorem kd_h187 {g : kc_G} (hg : kc_ok g) : kd_hold g 1 kd_ty 187 kd_T187 := kd_hold_arg [(3, 190, 190)] [(2147483648, 2147483648), (2147483649, 2147483649), (2147483650, 2147483650), (2147483651, 2147483651), (2147483652, 2147483652), (2147483653, 2147483653)] (by decide +kernel) (kd_al_r [(2147483648, 2147483648), (2147483649, 2147483649), (2147483650, 2147483650), (2147483651, 2147483651), (2147483652, 2147483652), (2147483653, 2147483653)] ⟨(kd_hold_le (kd_h187q0 hg) (by decide)), (kd_hold_le (kd_h187q1 hg) (by decide)), (kd_hold_le (kd_h187q2 hg) (by decide)), (kd_hold_le (kd_h187q3 hg) (by decide)), (kd_hold_le (kd_h187q4 hg) (by decide)), (kd_hold_le (kd_h187q5 hg) (by decide)), trivial⟩)
def kd_P86 : List kd_P := [(some (0, 2147483648, 2147483649), [], [])]
def kd_T86 : kd_Tc := ([(3, 1, 1), (0, 0, 4294967295)], [], kd_P86)
def kd_C86 : List (Nat × kd_Tc) := []
def kd_S86 : List kd_St := []
theorem kd_e86 : kd_run0 kd_ty kd_x86 2 (kd_call kd_ty kd_xt (kd_ctl kd_C86) 600 1) kd_T86 600 kd_S86 = true := by decide +kernel
theorem kd_h86 {g : kc_G} (hg : kc_ok g) : kd_hold g 2 kd_ty 86 kd_T86 := kd_mk (d0 := 0) (di := 1) hg kd_xk86 rfl rfl rfl rfl (kd_al_r kd_C86 trivial) (by decide) (by decide +kernel) kd_e86 (kd_al_r kd_S86 trivial)
def kd_P198 : List kd_P := [(some (0, 0, 4294967295), [], [])]
def kd_T198 : kd_Tc := ([(3, 1, 1), (0, 0, 4294967295), (0, 0, 4294967295)], [], kd_P198)
def kd_C198 : List (Nat × kd_Tc) := []
def kd_S198_0 : kd_St := (5, [(0, 4294967295), (0, 4294967295)], 2, [(3, 1, 1), (1, 0, 2147483648), (1, 1, 2147483648), (0, 2147483648, 2147483648), (0, 2147483648, 2147483648)], [], [], [(0, (0, 6, 6)), (0, (0, 2147483648, 2147483648))])
def kd_S198_1 : kd_St := (5, [(2147483649, 2147483658), (2147483549, 2147483747), (0, 4294967295), (0, 4294967295)], 4, [(3, 1, 1), (1, 0, 2147483648), (1, 1, 2147483648), (1, 2, 2147483648), (0, 2147483649, 2147483649)], [(1, 2, (1, 3, 2147483648))], [], [(0, (0, 6, 6)), (0, (0, 2147483649, 2147483649))])
def kd_S198_2 : kd_St := (5, [(2147483650, 2147483658), (2147483450, 2147483846), (0, 4294967295), (0, 4294967295)], 4, [(3, 1, 1), (1, 0, 2147483648), (1, 1, 2147483648), (1, 2, 2147483648), (0, 2147483650, 2147483650)], [(1, 2, (1, 3, 2147483648))], [], [(0, (0, 6, 6)), (0, (0, 2147483650, 2147483650))])
def kd_S198_3 : kd_St := (5, [(2147483651, 2147483658), (2147483351, 2147483945), (0, 4294967295), (0, 4294967295)], 4, [(3, 1, 1), (1, 0, 2147483648), (1, 1, 2147483648), (1, 2, 2147483648), (0, 2147483651, 2147483651)], [(1, 2, (1, 3, 2147483648))], [], [(0, (0, 6, 6)), (0, (0, 2147483651, 2147483651))])
def kd_S198_4 : kd_St := (5, [(2147483652, 2147483658), (2147483252, 2147484044), (0, 4294967295), (0, 4294967295)], 4, [(3, 1, 1), (1, 0, 2147483648), (1, 1, 2147483648), (1, 2, 2147483648), (0, 2147483652, 2147483652)], [(1, 2, (1, 3, 2147483648))], [], [(0, (0, 6, 6)), (0, (0, 2147483652, 2147483652))])
def kd_S198_5 : kd_St := (5, [(2147483653, 2147483658), (2147483153, 2147484143), (0, 4294967295), (0, 4294967295)], 4, [(3, 1, 1), (1, 0, 2147483648), (1, 1, 2147483648), (1, 2, 2147483648), (0, 2147483653, 2147483653)], [(1, 2, (1, 3, 2147483648))], [], [(0, (0, 6, 6)), (0, (0, 2147483653, 2147483653))])
def kd_S198_6 : kd_St := (5, [(2147483654, 2147483658), (2147483054, 2147484242), (0, 4294967295), (0, 4294967295)], 4, [(3, 1, 1), (1, 0, 2147483648), (1, 1, 2147483648), (1, 2, 2147483648), (0, 2147483654, 2147483654)], [(1, 2, (1, 3, 2147483648))], [], [(0, (0, 6, 6)), (0, (0, 2147483654, 2147483654))])
def kd_S198_7 : kd_St := (5, [(2147483655, 2147483658), (2147482955, 2147484341), (0, 4294967295), (0, 4294967295)], 4, [(3, 1, 1), (1, 0, 2147483648), (1, 1, 2147483648), (1, 2, 2147483648), (0, 2147483655, 2147483655)], [(1, 2, (1, 3, 2147483648))], [], [(0, (0, 6, 6)), (0, (0, 2147483655, 2147483655))])
def kd_S198_8 : kd_St := (5, [(2147483656, 2147483658), (2147482856, 2147484440), (0, 4294967295), (0, 4294967295)], 4, [(3, 1, 1), (1, 0, 2147483648), (1, 1, 2147483648), (1, 2, 2147483648), (0, 2147483656, 2147483656)], [(1, 2, (1, 3, 2147483648))], [], [(0, (0, 6, 6)), (0, (0, 2147483656, 2147483656))])
def kd_S198_9 : kd_St := (5, [(2147483657, 2147483658), (2147482757, 2147484539), (0, 4294967295), (0, 4294967295)], 4, [(3, 1, 1), (1, 0, 2147483648), (1, 1, 2147483648), (1, 2, 2147483648), (0, 2147483657, 2147483657)], [(1, 2, (1, 3, 2147483648))], [], [(0, (0, 6, 6)), (0, (0, 2147483657, 2147483657))])
def kd_S198_10 : kd_St := (5, [(2147482658, 2147484638), (0, 4294967295), (0, 4294967295)], 3, [(3, 1, 1), (1, 0, 2147483648), (1, 1, 2147483648), (1, 2, 2147483648), (0, 2147483658, 2147483658)], [(1, 2, (0, 2147483658, 2147483658))], [], [(0, (0, 6, 6)), (0, (0, 2147483658, 2147483658))])
def kd_S198 : List kd_St := [kd_S198_0, kd_S198_1, kd_S198_2, kd_S198_3, kd_S198_4, kd_S198_5, kd_S198_6, kd_S198_7, kd_S198_8, kd_S198_9, kd_S198_10]
theorem kd_e198 : kd_run0 kd_ty kd_x198 5 (kd_call kd_ty kd_xt (kd_ctl kd_C198) 600 0) kd_T198 600 kd_S198 = true := by decide +kernel
theorem kd_r198_0 : kd_run1 kd_ty kd_x198 5 (kd_call kd_ty kd_xt (kd_ctl kd_C198) 600 0) kd_T198.2.2 600 kd_S198 kd_S198_0 = true := by decide +kernel
theorem kd_r198_1 : kd_run1 kd_ty kd_x198 5 (kd_call kd_ty kd_xt (kd_ctl kd_C198) 600 0) kd_T198.2.2 600 kd_S198 kd_S198_1 = true := by decide +kernel
theorem kd_r198_2 : kd_run1 kd_ty kd_x198 5 (kd_call kd_ty kd_xt (kd_ctl kd_C198) 600 0) kd_T198.2.2 600 kd_S198 kd_S198_2 = true := by decide +kernel
theorem kd_r198_3 : kd_run1 kd_ty kd_x198 5 (kd_call kd_ty kd_xt (kd_ctl kd_C198) 600 0) kd_T198.2.2 600 kd_S198 kd_S198_3 = true := by decide +kernel
theorem kd_r198_4 : kd_run1 kd_ty kd_x198 5 (kd_call kd_ty kd_xt (kd_ctl kd_C198) 600 0) kd_T198.2.2 600 kd_S198 kd_S198_4 = true := by decide +kernel
theorem kd_r198_5 : kd_run1 kd_ty kd_x198 5 (kd_call kd_ty kd_xt (kd_ctl kd_C198) 600 0) kd_T198.2.2 600 kd_S198 kd_S198_5 = true := by decide +kernel
theorem kd_r198_6 : kd_run1 kd_ty kd_x198 5 (kd_call kd_ty kd_xt (kd_ctl kd_C198) 600 0) kd_T198.2.2 600 kd_S198 kd_S198_6 = true := by decide +kernel
theorem kd_r198_7 : kd_run1 kd_ty kd_x198 5 (kd_call kd_ty kd_xt (kd_ctl kd_C198) 600 0) kd_T198.2.2 600 kd_S198 kd_S198_7 = true := by decide +kernel
theorem kd_r198_8 : kd_run1 kd_ty kd_x198 5 (kd_call kd_ty kd_xt (kd_ctl kd_C198) 600 0) kd_T198.2.2 600 kd_S198 kd_S198_8 = true := by decide +kernel
theorem kd_r198_9 : kd_run1 kd_ty kd_x198 5 (kd_call kd_ty kd_xt (kd_ctl kd_C198) 600 0) kd_T198.2.2 600 kd_S198 kd_S198_9 = true := by decide +kernel
theorem kd_r198_10 : kd_run1 kd_ty kd_x198 5 (kd_call kd_ty kd_xt (kd_ctl kd_C198) 600 0) kd_T198.2.2 600 kd_S198 kd_S198_10 = true := by decide +kernel
theorem kd_h198 {g : kc_G} (hg : kc_ok g) : kd_hold g 1 kd_ty 198 kd_T198 := kd_mk (d0 := 0) (di := 0) hg kd_xk198 rfl rfl rfl rfl (kd_al_r kd_C198 trivial) (by decide) (by decide +kernel) kd_e198 (kd_al_r kd_S198 ⟨kd_r198_0, kd_r198_1, kd_r198_2, kd_r198_3, kd_r198_4, kd_r198_5, kd_r198_6, kd_r198_7, kd_r198_8, kd_r198_9, kd_r198_10, trivial⟩)
def kd_P85 : List kd_P := [(some (0, 0, 4294967295), [], [])]
def kd_T85 : kd_Tc := ([(3, 0, 0), (0, 0, 4294967295), (0, 0, 4294967295)], [], kd_P85)
def kd_C85 : List (Nat × kd_Tc) := [(198, kd_T198), (86, kd_T86)]
def kd_S85_0 : kd_St := (38, [(2147483648, 2147484672), (0, 4294967295), (0, 4294967295), (0, 4294967295), (0, 2148483648), (2147483648, 2147483650), (0, 4294967295)], 7, [(3, 0, 0), (1, 0, 2147483648), (1, 1, 2147483648), (1, 2, 2147483648), (1, 3, 2147483648), (1, 4, 2147483648), (1, 5, 2147483648), (1, 6, 2147483648), (9, 0, 0)], [], [], [(0, (0, 39, 39)), (0, (1, 6, 2147483648))])
def kd_S85 : List kd_St := [kd_S85_0]
theorem kd_e85 : kd_run0 kd_ty kd_x85 9 (kd_call kd_ty kd_xt (kd_ctl kd_C85) 600 1) kd_T85 600 kd_S85 = true := by decide +kernel
theorem kd_r85_0 : kd_run1 kd_ty kd_x85 9 (kd_call kd_ty kd_xt (kd_ctl kd_C85) 600 1) kd_T85.2.2 600 kd_S85 kd_S85_0 = true := by decide +kernel
theorem kd_h85 {g : kc_G} (hg : kc_ok g) : kd_hold g 4 kd_ty 85 kd_T85 := kd_mk (d0 := 2) (di := 1) hg kd_xk85 rfl rfl rfl rfl (kd_al_r kd_C85 ⟨kd_hold_le (kd_h198 hg) (by decide), kd_hold_le (kd_h86 hg) (by decide), trivial⟩) (by decide) (by decide +kernel) kd_e85 (kd_al_r kd_S85 ⟨kd_r85_0, trivial⟩)
def kd_P89 : List kd_P := [(some (0, 0, 2147483747), [], [])]
def kd_T89 : kd_Tc := ([(3, 0, 0), (0, 0, 4294967295), (0, 0, 4294967295)], [], kd_P89)
def kd_C89 : List (Nat × kd_Tc) := [(198, kd_T198), (86, kd_T86)]
def kd_S89_0 : kd_St := (33, [(2147483648, 2147484672), (0, 4294967295), (0, 2148483648), (2147483648, 2147483747), (0, 4294967295)], 5, [(3, 0, 0), (1, 0, 2147483648), (1, 1, 2147483648), (1, 2, 2147483648), (1, 3, 2147483648), (1, 4, 2147483648), (9, 0, 0)], [], [], [(0, (0, 34, 34)), (0, (1, 4, 2147483648))])
def kd_S89 : List kd_St := [kd_S89_0]
theorem kd_e89 : kd_run0 kd_ty kd_x89 7 (kd_call kd_ty kd_xt (kd_ctl kd_C89) 600 1) kd_T89 600 kd_S89 = true := by decide +kernel
theorem kd_r89_0 : kd_run1 kd_ty kd_x89 7 (kd_call kd_ty kd_xt (kd_ctl kd_C89) 600 1) kd_T89.2.2 600 kd_S89 kd_S89_0 = true := by decide +kernel
theorem kd_h89 {g : kc_G} (hg : kc_ok g) : kd_hold g 4 kd_ty 89 kd_T89 := kd_mk (d0 := 2) (di := 1) hg kd_xk89 rfl rfl rfl rfl (kd_al_r kd_C89 ⟨kd_hold_le (kd_h198 hg) (by decide), kd_hold_le (kd_h86 hg) (by decide), trivial⟩) (by decide) (by decide +kernel) kd_e89 (kd_al_r kd_S89 ⟨kd_r89_0, trivial⟩)
def kd_P202 : List kd_P := [(none, [], [(206, 207, 0, 9)])]
def kd_T202 : kd_Tc := ([(3, 204, 204), (0, 2147483648, 2147483657)], [], kd_P202)
def kd_C202 : List (Nat × kd_Tc) := []
def kd_S202 : List kd_St := []
theorem kd_e202 : kd_run0 kd_ty kd_x202 4 (kd_call kd_ty kd_xt (kd_ctl kd_C202) 600 0) kd_T202 600 kd_S202 = true := by decide +kernel
theorem kd_h202 {g : kc_G} (hg : kc_ok g) : kd_hold g 1 kd_ty 202 kd_T202 := kd_mk (d0 := 0) (di := 0) hg kd_xk202 rfl rfl rfl rfl (kd_al_r kd_C202 trivial) (by decide) (by decide +kernel) kd_e202 (kd_al_r kd_S202 trivial)
def kd_P203 : List kd_P := [(some (0, 2147483648, 2147483653), [], [])]
def kd_T203q0 : kd_Tc := ([(3, 204, 204), (0, 2147483648, 2147483648)], [], kd_P203)
def kd_C203q0 : List (Nat × kd_Tc) := []
def kd_S203q0 : List kd_St := []
theorem kd_e203q0 : kd_run0 kd_ty kd_x203 2 (kd_call kd_ty kd_xt (kd_ctl kd_C203q0) 600 0) kd_T203q0 600 kd_S203q0 = true := by decide +kernel
theorem kd_h203q0 {g : kc_G} (hg : kc_ok g) : kd_hold g 1 kd_ty 203 kd_T203q0 := kd_mk (d0 := 0) (di := 0) hg kd_xk203 rfl rfl rfl rfl (kd_al_r kd_C203q0 trivial) (by decide) (by decide +kernel) kd_e203q0 (kd_al_r kd_S203q0 trivial)
def kd_T203q1 : kd_Tc := ([(3, 204, 204), (0, 2147483649, 2147483649)], [], kd_P203)
def kd_C203q1 : List (Nat × kd_Tc) := []
def kd_S203q1 : List kd_St := []
theorem kd_e203q1 : kd_run0 kd_ty kd_x203 2 (kd_call kd_ty kd_xt (kd_ctl kd_C203q1) 600 0) kd_T203q1 600 kd_S203q1 = true := by decide +kernel
theorem kd_h203q1 {g : kc_G} (hg : kc_ok g) : kd_hold g 1 kd_ty 203 kd_T203q1 := kd_mk (d0 := 0) (di := 0) hg kd_xk203 rfl rfl rfl rfl (kd_al_r kd_C203q1 trivial) (by decide) (by decide +kernel) kd_e203q1 (kd_al_r kd_S203q1 trivial)
def kd_T203q2 : kd_Tc := ([(3, 204, 204), (0, 2147483650, 2147483650)], [], kd_P203)
def kd_C203q2 : List (Nat × kd_Tc) := []
def kd_S203q2 : List kd_St := []
theorem kd_e203q2 : kd_run0 kd_ty kd_x203 2 (kd_call kd_ty kd_xt (kd_ctl kd_C203q2) 600 0) kd_T203q2 600 kd_S203q2 = true := by decide +kernel
theorem kd_h203q2 {g : kc_G} (hg : kc_ok g) : kd_hold g 1 kd_ty 203 kd_T203q2 := kd_mk (d0 := 0) (di := 0) hg kd_xk203 rfl rfl rfl rfl (kd_al_r kd_C203q2 trivial) (by decide) (by decide +kernel) kd_e203q2 (kd_al_r kd_S203q2 trivial)
def kd_T203q3 : kd_Tc := ([(3, 204, 204), (0, 2147483651, 2147483651)], [], kd_P203)
def kd_C203q3 : List (Nat × kd_Tc) := []
def kd_S203q3 : List kd_St := []
theorem kd_e203q3 : kd_run0 kd_ty kd_x203 2 (kd_call kd_ty kd_xt (kd_ctl kd_C203q3) 600 0) kd_T203q3 600 kd_S203q3 = true := by decide +kernel
theorem kd_h203q3 {g : kc_G} (hg : kc_ok g) : kd_hold g 1 kd_ty 203 kd_T203q3 := kd_mk (d0 := 0) (di := 0) hg kd_xk203 rfl rfl rfl rfl (kd_al_r kd_C203q3 trivial) (by decide) (by decide +kernel) kd_e203q3 (kd_al_r kd_S203q3 trivial)
def kd_T203q4 : kd_Tc := ([(3, 204, 204), (0, 2147483652, 2147483652)], [], kd_P203)
def kd_C203q4 : List (Nat × kd_Tc) := []
def kd_S203q4 : List kd_St := []
theorem kd_e203q4 : kd_run0 kd_ty kd_x203 2 (kd_call kd_ty kd_xt (kd_ctl kd_C203q4) 600 0) kd_T203q4 600 kd_S203q4 = true := by decide +kernel
theorem kd_h203q4 {g : kc_G} (hg : kc_ok g) : kd_hold g 1 kd_ty 203 kd_T203q4 := kd_mk (d0 := 0) (di := 0) hg kd_xk203 rfl rfl rfl rfl (kd_al_r kd_C203q4 trivial) (by decide) (by decide +kernel) kd_e203q4 (kd_al_r kd_S203q4 trivial)
def kd_T203q5 : kd_Tc := ([(3, 204, 204), (0, 2147483653, 2147483653)], [], kd_P203)
def kd_C203q5 : List (Nat × kd_Tc) := []
def kd_S203q5 : List kd_St := []
theorem kd_e203q5 : kd_run0 kd_ty kd_x203 2 (kd_call kd_ty kd_xt (kd_ctl kd_C203q5) 600 0) kd_T203q5 600 kd_S203q5 = true := by decide +kernel
theorem kd_h203q5 {g : kc_G} (hg : kc_ok g) : kd_hold g 1 kd_ty 203 kd_T203q5 := kd_mk (d0 := 0) (di := 0) hg kd_xk203 rfl rfl rfl rfl (kd_al_r kd_C203q5 trivial) (by decide) (by decide +kernel) kd_e203q5 (kd_al_r kd_S203q5 trivial)
def kd_T203q6 : kd_Tc := ([(3, 204, 204), (0, 2147483654, 2147483654)], [], kd_P203)
def kd_C203q6 : List (Nat × kd_Tc) := []
def kd_S203q6 : List kd_St := []
theorem kd_e203q6 : kd_run0 kd_ty kd_x203 2 (kd_call kd_ty kd_xt (kd_ctl kd_C203q6) 600 0) kd_T203q6 600 kd_S203q6 = true := by decide +kernel
theorem kd_h203q6 {g : kc_G} (hg : kc_ok g) : kd_hold g 1 kd_ty 203 kd_T203q6 := kd_mk (d0 := 0) (di := 0) hg kd_xk203 rfl rfl rfl rfl (kd_al_r kd_C203q6 trivial) (by decide) (by decide +kernel) kd_e203q6 (kd_al_r kd_S203q6 trivial)
def kd_T203q7 : kd_Tc := ([(3, 204, 204), (0, 2147483655, 2147483655)], [], kd_P203)
def kd_C203q7 : List (Nat × kd_Tc) := []
def kd_S203q7 : List kd_St := []
theorem kd_e203q7 : kd_run0 kd_ty kd_x203 2 (kd_call kd_ty kd_xt (kd_ctl kd_C203q7) 600 0) kd_T203q7 600 kd_S203q7 = true := by decide +kernel
theorem kd_h203q7 {g : kc_G} (hg : kc_ok g) : kd_hold g 1 kd_ty 203 kd_T203q7 := kd_mk (d0 := 0) (di := 0) hg kd_xk203 rfl rfl rfl rfl (kd_al_r kd_C203q7 trivial) (by decide) (by decide +kernel) kd_e203q7 (kd_al_r kd_S203q7 trivial)
def kd_T203q8 : kd_Tc := ([(3, 204, 204), (0, 2147483656, 2147483656)], [], kd_P203)
def kd_C203q8 : List (Nat × kd_Tc) := []
def kd_S203q8 : List kd_St := []
theorem kd_e203q8 : kd_run0 kd_ty kd_x203 2 (kd_call kd_ty kd_xt (kd_ctl kd_C203q8) 600 0) kd_T203q8 600 kd_S203q8 = true := by decide +kernel
theorem kd_h203q8 {g : kc_G} (hg : kc_ok g) : kd_hold g 1 kd_ty 203 kd_T203q8 := kd_mk (d0 := 0) (di := 0) hg kd_xk203 rfl rfl rfl rfl (kd_al_r kd_C203q8 trivial) (by decide) (by decide +kernel) kd_e203q8 (kd_al_r kd_S203q8 trivial)
def kd_T203q9 : kd_Tc := ([(3, 204, 204), (0, 2147483657, 2147483657)], [], kd_P203)
def kd_C203q9 : List (Nat × kd_Tc) := []
def kd_S203q9 : List kd_St := []
theorem kd_e203q9 : kd_run0 kd_ty kd_x203 2 (kd_call kd_ty kd_xt (kd_ctl kd_C203q9) 600 0) kd_T203q9 600 kd_S203q9 = true := by decide +kernel
theorem kd_h203q9 {g : kc_G} (hg : kc_ok g) : kd_hold g 1 kd_ty 203 kd_T203q9 := kd_mk (d0 := 0) (di := 0) hg kd_xk203 rfl rfl rfl rfl (kd_al_r kd_C203q9 trivial) (by decide) (by decide +kernel) kd_e203q9 (kd_al_r kd_S203q9 trivial)
def kd_T203 : kd_Tc := ([(3, 204, 204), (0, 2147483648, 2147483657)], [], kd_P203)
theorem kd_h203 {g : kc_G} (hg : kc_ok g) : kd_hold g 1 kd_ty 203 kd_T203 := kd_hold_arg [(3, 204, 204)] [(2147483648, 2147483648), (2147483649, 2147483649), (2147483650, 2147483650), (2147483651, 2147483651), (2147483652, 2147483652), (2147483653, 2147483653), (2147483654, 2147483654), (2147483655, 2147483655), (2147483656, 2147483656), (2147483657, 2147483657)] (by decide +kernel) (kd_al_r [(2147483648, 2147483648), (2147483649, 2147483649), (2147483650, 2147483650), (2147483651, 2147483651), (2147483652, 2147483652), (2147483653, 2147483653), (2147483654, 2147483654), (2147483655, 2147483655), (2147483656, 2147483656), (2147483657, 2147483657)] ⟨(kd_hold_le (kd_h203q0 hg) (by decide)), (kd_hold_le (kd_h203q1 hg) (by decide)), (kd_hold_le (kd_h203q2 hg) (by decide)), (kd_hold_le (kd_h203q3 hg) (by decide)), (kd_hold_le (kd_h203q4 hg) (by decide)), (kd_hold_le (kd_h203q5 hg) (by decide)), (kd_hold_le (kd_h203q6 hg) (by decide)), (kd_hold_le (kd_h203q7 hg) (by decide)), (kd_hold_le (kd_h203q8 hg) (by decide)), (kd_hold_le (kd_h203q9 hg) (by decide)), trivial⟩)
def kd_P204 : List kd_P := [(some (0, 2147483648, 2147483653), [], [])]
def kd_T204q0 : kd_Tc := ([(3, 204, 204), (0, 2147483648, 2147483648)], [], kd_P204)
def kd_C204q0 : List (Nat × kd_Tc) := []
def kd_S204q0 : List kd_St := []
theorem kd_e204q0 : kd_run0 kd_ty kd_x204 2 (kd_call kd_ty kd_xt (kd_ctl kd_C204q0) 600 0) kd_T204q0 600 kd_S204q0 = true := by decide +kernel
theorem kd_h204q0 {g : kc_G} (hg : kc_ok g) : kd_hold g 1 kd_ty 204 kd_T204q0 := kd_mk (d0 := 0) (di := 0) hg kd_xk204 rfl rfl rfl rfl (kd_al_r kd_C204q0 trivial) (by decide) (by decide +kernel) kd_e204q0 (kd_al_r kd_S204q0 trivial)
def kd_T204q1 : kd_Tc := ([(3, 204, 204), (0, 2147483649, 2147483649)], [], kd_P204)
def kd_C204q1 : List (Nat × kd_Tc) := []
def kd_S204q1 : List kd_St := []
theorem kd_e204q1 : kd_run0 kd_ty kd_x204 2 (kd_call kd_ty kd_xt (kd_ctl kd_C204q1) 600 0) kd_T204q1 600 kd_S204q1 = true := by decide +kernel
theorem kd_h204q1 {g : kc_G} (hg : kc_ok g) : kd_hold g 1 kd_ty 204 kd_T204q1 := kd_mk (d0 := 0) (di := 0) hg kd_xk204 rfl rfl rfl rfl (kd_al_r kd_C204q1 trivial) (by decide) (by decide +kernel) kd_e204q1 (kd_al_r kd_S204q1 trivial)
def kd_T204q2 : kd_Tc := ([(3, 204, 204), (0, 2147483650, 2147483650)], [], kd_P204)
def kd_C204q2 : List (Nat × kd_Tc) := []
def kd_S204q2 : List kd_St := []
theorem kd_e204q2 : kd_run0 kd_ty kd_x204 2 (kd_call kd_ty kd_xt (kd_ctl kd_C204q2) 600 0) kd_T204q2 600 kd_S204q2 = true := by decide +kernel
theorem kd_h204q2 {g : kc_G} (hg : kc_ok g) : kd_hold g 1 kd_ty 204 kd_T204q2 := kd_mk (d0 := 0) (di := 0) hg kd_xk204 rfl rfl rfl rfl (kd_al_r kd_C204q2 trivial) (by decide) (by decide +kernel) kd_e204q2 (kd_al_r kd_S204q2 trivial)
def kd_T204q3 : kd_Tc := ([(3, 204, 204), (0, 2147483651, 2147483651)], [], kd_P204)
def kd_C204q3 : List (Nat × kd_Tc) := []
def kd_S204q3 : List kd_St := []
theorem kd_e204q3 : kd_run0 kd_ty kd_x204 2 (kd_call kd_ty kd_xt (kd_ctl kd_C204q3) 600 0) kd_T204q3 600 kd_S204q3 = true := by decide +kernel
theorem kd_h204q3 {g : kc_G} (hg : kc_ok g) : kd_hold g 1 kd_ty 204 kd_T204q3 := kd_mk (d0 := 0) (di := 0) hg kd_xk204 rfl rfl rfl rfl (kd_al_r kd_C204q3 trivial) (by decide) (by decide +kernel) kd_e204q3 (kd_al_r kd_S204q3 trivial)
def kd_T204q4 : kd_Tc := ([(3, 204, 204), (0, 2147483652, 2147483652)], [], kd_P204)
def kd_C204q4 : List (Nat × kd_Tc) := []
def kd_S204q4 : List kd_St := []
theorem kd_e204q4 : kd_run0 kd_ty kd_x204 2 (kd_call kd_ty kd_xt (kd_ctl kd_C204q4) 600 0) kd_T204q4 600 kd_S204q4 = true := by decide +kernel
theorem kd_h204q4 {g : kc_G} (hg : kc_ok g) : kd_hold g 1 kd_ty 204 kd_T204q4 := kd_mk (d0 := 0) (di := 0) hg kd_xk204 rfl rfl rfl rfl (kd_al_r kd_C204q4 trivial) (by decide) (by decide +kernel) kd_e204q4 (kd_al_r kd_S204q4 trivial)
def kd_T204q5 : kd_Tc := ([(3, 204, 204), (0, 2147483653, 2147483653)], [], kd_P204)
def kd_C204q5 : List (Nat × kd_Tc) := []
def kd_S204q5 : List kd_St := []
theorem kd_e204q5 : kd_run0 kd_ty kd_x204 2 (kd_call kd_ty kd_xt (kd_ctl kd_C204q5) 600 0) kd_T204q5 600 kd_S204q5 = true := by decide +kernel
theorem kd_h204q5 {g : kc_G} (hg : kc_ok g) : kd_hold g 1 kd_ty 204 kd_T204q5 := kd_mk (d0 := 0) (di := 0) hg kd_xk204 rfl rfl rfl rfl (kd_al_r kd_C204q5 trivial) (by decide) (by decide +kernel) kd_e204q5 (kd_al_r kd_S204q5 trivial)
def kd_T204q6 : kd_Tc := ([(3, 204, 204), (0, 2147483654, 2147483654)], [], kd_P204)
def kd_C204q6 : List (Nat × kd_Tc) := []
def kd_S204q6 : List kd_St := []
theorem kd_e204q6 : kd_run0 kd_ty kd_x204 2 (kd_call kd_ty kd_xt (kd_ctl kd_C204q6) 600 0) kd_T204q6 600 kd_S204q6 = true := by decide +kernel
theorem kd_h204q6 {g : kc_G} (hg : kc_ok g) : kd_hold g 1 kd_ty 204 kd_T204q6 := kd_mk (d0 := 0) (di := 0) hg kd_xk204 rfl rfl rfl rfl (kd_al_r kd_C204q6 trivial) (by decide) (by decide +kernel) kd_e204q6 (kd_al_r kd_S204q6 trivial)
def kd_T204q7 : kd_Tc := ([(3, 204, 204), (0, 2147483655, 2147483655)], [], kd_P204)
def kd_C204q7 : List (Nat × kd_Tc) := []
def kd_S204q7 : List kd_St := []
theorem kd_e204q7 : kd_run0 kd_ty kd_x204 2 (kd_call kd_ty kd_xt (kd_ctl kd_C204q7) 600 0) kd_T204q7 600 kd_S204q7 = true := by decide +kernel
theorem kd_h204q7 {g : kc_G} (hg : kc_ok g) : kd_hold g 1 kd_ty 204 kd_T204q7 := kd_mk (d0 := 0) (di := 0) hg kd_xk204 rfl rfl rfl rfl (kd_al_r kd_C204q7 trivial) (by decide) (by decide +kernel) kd_e204q7 (kd_al_r kd_S204q7 trivial)
def kd_T204q8 : kd_Tc := ([(3, 204, 204), (0, 2147483656, 2147483656)], [], kd_P204)
def kd_C204q8 : List (Nat × kd_Tc) := []
def kd_S204q8 : List kd_St := []
theorem kd_e204q8 : kd_run0 kd_ty kd_x204 2 (kd_call kd_ty kd_xt (kd_ctl kd_C204q8) 600 0) kd_T204q8 600 kd_S204q8 = true := by decide +kernel
theorem kd_h204q8 {g : kc_G} (hg : kc_ok g) : kd_hold g 1 kd_ty 204 kd_T204q8 := kd_mk (d0 := 0) (di := 0) hg kd_xk204 rfl rfl rfl rfl (kd_al_r kd_C204q8 trivial) (by decide) (by decide +kernel) kd_e204q8 (kd_al_r kd_S204q8 trivial)
def kd_T204q9 : kd_Tc := ([(3, 204, 204), (0, 2147483657, 2147483657)], [], kd_P204)
def kd_C204q9 : List (Nat × kd_Tc) := []
def kd_S204q9 : List kd_St := []
theorem kd_e204q9 : kd_run0 kd_ty kd_x204 2 (kd_call kd_ty kd_xt (kd_ctl kd_C204q9) 600 0) kd_T204q9 600 kd_S204q9 = true := by decide +kernel
theorem kd_h204q9 {g : kc_G} (hg : kc_ok g) : kd_hold g 1 kd_ty 204 kd_T204q9 := kd_mk (d0 := 0) (di := 0) hg kd_xk204 rfl rfl rfl rfl (kd_al_r kd_C204q9 trivial) (by decide) (by decide +kernel) kd_e204q9 (kd_al_r kd_S204q9 trivial)
def kd_T204 : kd_Tc := ([(3, 204, 204), (0, 2147483648, 2147483657)], [], kd_P204)
theorem kd_h204 {g : kc_G} (hg : kc_ok g) : kd_hold g 1 kd_ty 204 kd_T204 := kd_hold_arg [(3, 204, 204)] [(2147483648, 2147483648), (2147483649, 2147483649), (2147483650, 2147483650), (2147483651, 2147483651), (2147483652, 2147483652), (2147483653, 2147483653), (2147483654, 2147483654), (2147483655, 2147483655), (2147483656, 2147483656), (2147483657, 2147483657)] (by decide +kernel) (kd_al_r [(2147483648, 2147483648), (2147483649, 2147483649), (2147483650, 2147483650), (2147483651, 2147483651), (2147483652, 2147483652), (2147483653, 2147483653), (2147483654, 2147483654), (2147483655, 2147483655), (2147483656, 2147483656), (2147483657, 2147483657)] ⟨(kd_hold_le (kd_h204q0 hg) (by decide)), (kd_hold_le (kd_h204q1 hg) (by decide)), (kd_hold_le (kd_h204q2 hg) (by decide)), (kd_hold_le (kd_h204q3 hg) (by decide)), (kd_hold_le (kd_h204q4 hg) (by decide)), (kd_hold_le (kd_h204q5 hg) (by decide)), (kd_hold_le (kd_h204q6 hg) (by decide)), (kd_hold_le (kd_h204q7 hg) (by decide)), (kd_hold_le (kd_h204q8 hg) (by decide)), (kd_hold_le (kd_h204q9 hg) (by decide)), trivial⟩)
