/-! ===== contracts, kc 0 ===== -/
def kd_P201 : List kd_P := [(some (0, 2147483648, 2147483649), [], [])]
def kd_T201 : kd_Tc := ([(3, 1, 1), (0, 0, 4294967295)], [], kd_P201)
def kd_C201 : List (Nat × kd_Tc) := []
def kd_S201_0 : kd_St := (2, [(0, 4294967295)], 1, [(3, 1, 1), (1, 0, 2147483648), (0, 2147483648, 2147483648)], [], [], [(0, (0, 3, 3)), (0, (0, 2147483648, 2147483648))])
def kd_S201_1 : kd_St := (2, [(2147483649, 2147483653), (0, 4294967295)], 2, [(3, 1, 1), (1, 0, 2147483648), (0, 2147483649, 2147483649)], [(1, 3, (1, 1, 2147483648))], [], [(0, (0, 3, 3)), (0, (0, 2147483649, 2147483649))])
def kd_S201_2 : kd_St := (2, [(2147483650, 2147483653), (0, 4294967295)], 2, [(3, 1, 1), (1, 0, 2147483648), (0, 2147483650, 2147483650)], [(1, 3, (1, 1, 2147483648))], [], [(0, (0, 3, 3)), (0, (0, 2147483650, 2147483650))])
def kd_S201_3 : kd_St := (2, [(2147483651, 2147483653), (0, 4294967295)], 2, [(3, 1, 1), (1, 0, 2147483648), (0, 2147483651, 2147483651)], [(1, 3, (1, 1, 2147483648))], [], [(0, (0, 3, 3)), (0, (0, 2147483651, 2147483651))])
def kd_S201_4 : kd_St := (2, [(2147483652, 2147483653), (0, 4294967295)], 2, [(3, 1, 1), (1, 0, 2147483648), (0, 2147483652, 2147483652)], [(1, 3, (1, 1, 2147483648))], [], [(0, (0, 3, 3)), (0, (0, 2147483652, 2147483652))])
def kd_S201_5 : kd_St := (2, [(0, 4294967295)], 1, [(3, 1, 1), (1, 0, 2147483648), (0, 2147483653, 2147483653)], [(1, 3, (0, 2147483653, 2147483653))], [], [(0, (0, 3, 3)), (0, (0, 2147483653, 2147483653))])
def kd_S201 : List kd_St := [kd_S201_0, kd_S201_1, kd_S201_2, kd_S201_3, kd_S201_4, kd_S201_5]
theorem kd_e201 : kd_run0 kd_ty kd_x201 3 (kd_call kd_ty kd_xt (kd_ctl kd_C201) 600 0) kd_T201 600 kd_S201 = true := by decide +kernel
theorem kd_r201_0 : kd_run1 kd_ty kd_x201 3 (kd_call kd_ty kd_xt (kd_ctl kd_C201) 600 0) kd_T201.2.2 600 kd_S201 kd_S201_0 = true := by decide +kernel
theorem kd_r201_1 : kd_run1 kd_ty kd_x201 3 (kd_call kd_ty kd_xt (kd_ctl kd_C201) 600 0) kd_T201.2.2 600 kd_S201 kd_S201_1 = true := by decide +kernel
theorem kd_r201_2 : kd_run1 kd_ty kd_x201 3 (kd_call kd_ty kd_xt (kd_ctl kd_C201) 600 0) kd_T201.2.2 600 kd_S201 kd_S201_2 = true := by decide +kernel
theorem kd_r201_3 : kd_run1 kd_ty kd_x201 3 (kd_call kd_ty kd_xt (kd_ctl kd_C201) 600 0) kd_T201.2.2 600 kd_S201 kd_S201_3 = true := by decide +kernel
theorem kd_r201_4 : kd_run1 kd_ty kd_x201 3 (kd_call kd_ty kd_xt (kd_ctl kd_C201) 600 0) kd_T201.2.2 600 kd_S201 kd_S201_4 = true := by decide +kernel
theorem kd_r201_5 : kd_run1 kd_ty kd_x201 3 (kd_call kd_ty kd_xt (kd_ctl kd_C201) 600 0) kd_T201.2.2 600 kd_S201 kd_S201_5 = true := by decide +kernel
theorem kd_h201 {g : kc_G} (hg : kc_ok g) : kd_hold g 1 kd_ty 201 kd_T201 := kd_mk (d0 := 0) (di := 0) hg kd_xk201 rfl rfl rfl rfl (kd_al_r kd_C201 trivial) (by decide) (by decide +kernel) kd_e201 (kd_al_r kd_S201 ⟨kd_r201_0, kd_r201_1, kd_r201_2, kd_r201_3, kd_r201_4, kd_r201_5, trivial⟩)
def kd_P186 : List kd_P := [(some (0, 2147483648, 2147483649), [], [])]
def kd_T186 : kd_Tc := ([(3, 1, 1), (0, 2147483648, 2147483657)], [], kd_P186)
def kd_C186 : List (Nat × kd_Tc) := []
def kd_S186 : List kd_St := []
theorem kd_e186 : kd_run0 kd_ty kd_x186 2 (kd_call kd_ty kd_xt (kd_ctl kd_C186) 600 0) kd_T186 600 kd_S186 = true := by decide +kernel
theorem kd_h186 {g : kc_G} (hg : kc_ok g) : kd_hold g 1 kd_ty 186 kd_T186 := kd_mk (d0 := 0) (di := 0) hg kd_xk186 rfl rfl rfl rfl (kd_al_r kd_C186 trivial) (by decide) (by decide +kernel) kd_e186 (kd_al_r kd_S186 trivial)
def kd_P182 : List kd_P := [(some (0, 2147483648, 4294967295), [], [])]
def kd_T182 : kd_Tc := ([(3, 1, 1), (0, 2147483648, 2147483657), (0, 0, 4294967295)], [], kd_P182)
def kd_C182 : List (Nat × kd_Tc) := []
def kd_S182 : List kd_St := []
theorem kd_e182 : kd_run0 kd_ty kd_x182 3 (kd_call kd_ty kd_xt (kd_ctl kd_C182) 600 0) kd_T182 600 kd_S182 = true := by decide +kernel
theorem kd_h182 {g : kc_G} (hg : kc_ok g) : kd_hold g 1 kd_ty 182 kd_T182 := kd_mk (d0 := 0) (di := 0) hg kd_xk182 rfl rfl rfl rfl (kd_al_r kd_C182 trivial) (by decide) (by decide +kernel) kd_e182 (kd_al_r kd_S182 trivial)
def kd_P189 : List kd_P := [(some (0, 0, 4294967295), [], [])]
def kd_T189 : kd_Tc := ([(3, 190, 190), (0, 2147483648, 2147483653)], [], kd_P189)
def kd_C189 : List (Nat × kd_Tc) := []
def kd_S189_0 : kd_St := (19, [(0, 4294967295), (2147483648, 2147483653)], 2, [(3, 190, 190), (1, 0, 2147483648), (1, 1, 2147483648), (0, 2147483648, 2147483648)], [], [], [(0, (0, 20, 20)), (0, (0, 2147483648, 2147483648))])
def kd_S189_1 : kd_St := (19, [(0, 4294967295), (2147483648, 2147483653)], 2, [(3, 190, 190), (1, 0, 2147483648), (1, 1, 2147483648), (0, 2147483649, 2147483649)], [], [], [(0, (0, 20, 20)), (0, (0, 2147483649, 2147483649))])
def kd_S189_2 : kd_St := (19, [(0, 4294967295), (2147483648, 2147483653)], 2, [(3, 190, 190), (1, 0, 2147483648), (1, 1, 2147483648), (0, 2147483650, 2147483650)], [], [], [(0, (0, 20, 20)), (0, (0, 2147483650, 2147483650))])
def kd_S189_3 : kd_St := (19, [(0, 4294967295), (2147483648, 2147483653)], 2, [(3, 190, 190), (1, 0, 2147483648), (1, 1, 2147483648), (0, 2147483651, 2147483651)], [], [], [(0, (0, 20, 20)), (0, (0, 2147483651, 2147483651))])
def kd_S189 : List kd_St := [kd_S189_0, kd_S189_1, kd_S189_2, kd_S189_3]
theorem kd_e189 : kd_run0 kd_ty kd_x189 4 (kd_call kd_ty kd_xt (kd_ctl kd_C189) 600 0) kd_T189 600 kd_S189 = true := by decide +kernel
theorem kd_r189_0 : kd_run1 kd_ty kd_x189 4 (kd_call kd_ty kd_xt (kd_ctl kd_C189) 600 0) kd_T189.2.2 600 kd_S189 kd_S189_0 = true := by decide +kernel
theorem kd_r189_1 : kd_run1 kd_ty kd_x189 4 (kd_call kd_ty kd_xt (kd_ctl kd_C189) 600 0) kd_T189.2.2 600 kd_S189 kd_S189_1 = true := by decide +kernel
theorem kd_r189_2 : kd_run1 kd_ty kd_x189 4 (kd_call kd_ty kd_xt (kd_ctl kd_C189) 600 0) kd_T189.2.2 600 kd_S189 kd_S189_2 = true := by decide +kernel
theorem kd_r189_3 : kd_run1 kd_ty kd_x189 4 (kd_call kd_ty kd_xt (kd_ctl kd_C189) 600 0) kd_T189.2.2 600 kd_S189 kd_S189_3 = true := by decide +kernel
theorem kd_h189 {g : kc_G} (hg : kc_ok g) : kd_hold g 1 kd_ty 189 kd_T189 := kd_mk (d0 := 0) (di := 0) hg kd_xk189 rfl rfl rfl rfl (kd_al_r kd_C189 trivial) (by decide) (by decide +kernel) kd_e189 (kd_al_r kd_S189 ⟨kd_r189_0, kd_r189_1, kd_r189_2, kd_r189_3, trivial⟩)
def kd_P188 : List kd_P := [(some (0, 2147483648, 2147483649), [], [])]
def kd_T188 : kd_Tc := ([(3, 190, 190), (0, 0, 4294967295), (0, 2147483648, 2147483653), (0, 2147483648, 2147483649)], [], kd_P188)
def kd_C188 : List (Nat × kd_Tc) := [(189, kd_T189)]
def kd_S188 : List kd_St := []
theorem kd_e188 : kd_run0 kd_ty kd_x188 6 (kd_call kd_ty kd_xt (kd_ctl kd_C188) 600 0) kd_T188 600 kd_S188 = true := by decide +kernel
theorem kd_h188 {g : kc_G} (hg : kc_ok g) : kd_hold g 2 kd_ty 188 kd_T188 := kd_mk (d0 := 1) (di := 0) hg kd_xk188 rfl rfl rfl rfl (kd_al_r kd_C188 ⟨kd_hold_le (kd_h189 hg) (by decide), trivial⟩) (by decide) (by decide +kernel) kd_e188 (kd_al_r kd_S188 trivial)
def kd_P185 : List kd_P := [(some (0, 2147483648, 2147483653), [], [])]
def kd_T185q0 : kd_Tc := ([(3, 190, 190), (0, 2147483648, 2147483657), (0, 2147483648, 2147483648), (0, 2147483648, 2147483649)], [], kd_P185)
def kd_C185q0 : List (Nat × kd_Tc) := [(188, kd_T188), (186, kd_T186)]
def kd_S185q0 : List kd_St := []
theorem kd_e185q0 : kd_run0 kd_ty kd_x185 4 (kd_call kd_ty kd_xt (kd_ctl kd_C185q0) 600 1) kd_T185q0 600 kd_S185q0 = true := by decide +kernel
theorem kd_h185q0 {g : kc_G} (hg : kc_ok g) : kd_hold g 4 kd_ty 185 kd_T185q0 := kd_mk (d0 := 2) (di := 1) hg kd_xk185 rfl rfl rfl rfl (kd_al_r kd_C185q0 ⟨kd_hold_le (kd_h188 hg) (by decide), kd_hold_le (kd_h186 hg) (by decide), trivial⟩) (by decide) (by decide +kernel) kd_e185q0 (kd_al_r kd_S185q0 trivial)
def kd_T185q1 : kd_Tc := ([(3, 190, 190), (0, 2147483648, 2147483657), (0, 2147483649, 2147483649), (0, 2147483648, 2147483649)], [], kd_P185)
def kd_C185q1 : List (Nat × kd_Tc) := [(188, kd_T188), (186, kd_T186)]
def kd_S185q1 : List kd_St := []
theorem kd_e185q1 : kd_run0 kd_ty kd_x185 4 (kd_call kd_ty kd_xt (kd_ctl kd_C185q1) 600 1) kd_T185q1 600 kd_S185q1 = true := by decide +kernel
theorem kd_h185q1 {g : kc_G} (hg : kc_ok g) : kd_hold g 4 kd_ty 185 kd_T185q1 := kd_mk (d0 := 2) (di := 1) hg kd_xk185 rfl rfl rfl rfl (kd_al_r kd_C185q1 ⟨kd_hold_le (kd_h188 hg) (by decide), kd_hold_le (kd_h186 hg) (by decide), trivial⟩) (by decide) (by decide +kernel) kd_e185q1 (kd_al_r kd_S185q1 trivial)
def kd_T185q2 : kd_Tc := ([(3, 190, 190), (0, 2147483648, 2147483657), (0, 2147483650, 2147483650), (0, 2147483648, 2147483649)], [], kd_P185)
def kd_C185q2 : List (Nat × kd_Tc) := [(188, kd_T188), (186, kd_T186)]
def kd_S185q2 : List kd_St := []
theorem kd_e185q2 : kd_run0 kd_ty kd_x185 4 (kd_call kd_ty kd_xt (kd_ctl kd_C185q2) 600 1) kd_T185q2 600 kd_S185q2 = true := by decide +kernel
theorem kd_h185q2 {g : kc_G} (hg : kc_ok g) : kd_hold g 4 kd_ty 185 kd_T185q2 := kd_mk (d0 := 2) (di := 1) hg kd_xk185 rfl rfl rfl rfl (kd_al_r kd_C185q2 ⟨kd_hold_le (kd_h188 hg) (by decide), kd_hold_le (kd_h186 hg) (by decide), trivial⟩) (by decide) (by decide +kernel) kd_e185q2 (kd_al_r kd_S185q2 trivial)
def kd_T185q3 : kd_Tc := ([(3, 190, 190), (0, 2147483648, 2147483657), (0, 2147483651, 2147483651), (0, 2147483648, 2147483649)], [], kd_P185)
def kd_C185q3 : List (Nat × kd_Tc) := [(188, kd_T188), (186, kd_T186)]
def kd_S185q3 : List kd_St := []
theorem kd_e185q3 : kd_run0 kd_ty kd_x185 4 (kd_call kd_ty kd_xt (kd_ctl kd_C185q3) 600 1) kd_T185q3 600 kd_S185q3 = true := by decide +kernel
theorem kd_h185q3 {g : kc_G} (hg : kc_ok g) : kd_hold g 4 kd_ty 185 kd_T185q3 := kd_mk (d0 := 2) (di := 1) hg kd_xk185 rfl rfl rfl rfl (kd_al_r kd_C185q3 ⟨kd_hold_le (kd_h188 hg) (by decide), kd_hold_le (kd_h186 hg) (by decide), trivial⟩) (by decide) (by decide +kernel) kd_e185q3 (kd_al_r kd_S185q3 trivial)
def kd_T185q4 : kd_Tc := ([(3, 190, 190), (0, 2147483648, 2147483657), (0, 2147483652, 2147483652), (0, 2147483648, 2147483649)], [], kd_P185)
def kd_C185q4 : List (Nat × kd_Tc) := [(188, kd_T188), (186, kd_T186)]
def kd_S185q4 : List kd_St := []
theorem kd_e185q4 : kd_run0 kd_ty kd_x185 4 (kd_call kd_ty kd_xt (kd_ctl kd_C185q4) 600 1) kd_T185q4 600 kd_S185q4 = true := by decide +kernel
theorem kd_h185q4 {g : kc_G} (hg : kc_ok g) : kd_hold g 4 kd_ty 185 kd_T185q4 := kd_mk (d0 := 2) (di := 1) hg kd_xk185 rfl rfl rfl rfl (kd_al_r kd_C185q4 ⟨kd_hold_le (kd_h188 hg) (by decide), kd_hold_le (kd_h186 hg) (by decide), trivial⟩) (by decide) (by decide +kernel) kd_e185q4 (kd_al_r kd_S185q4 trivial)
def kd_T185q5 : kd_Tc := ([(3, 190, 190), (0, 2147483648, 2147483657), (0, 2147483653, 2147483653), (0, 2147483648, 2147483649)], [], kd_P185)
def kd_C185q5 : List (Nat × kd_Tc) := [(188, kd_T188), (186, kd_T186)]
def kd_S185q5 : List kd_St := []
theorem kd_e185q5 : kd_run0 kd_ty kd_x185 4 (kd_call kd_ty kd_xt (kd_ctl kd_C185q5) 600 1) kd_T185q5 600 kd_S185q5 = true := by decide +kernel
theorem kd_h185q5 {g : kc_G} (hg : kc_ok g) : kd_hold g 4 kd_ty 185 kd_T185q5 := kd_mk (d0 := 2) (di := 1) hg kd_xk185 rfl rfl rfl rfl (kd_al_r kd_C185q5 ⟨kd_hold_le (kd_h188 hg) (by decide), kd_hold_le (kd_h186 hg) (by decide), trivial⟩) (by decide) (by decide +kernel) kd_e185q5 (kd_al_r kd_S185q5 trivial)
def kd_T185 : kd_Tc := ([(3, 190, 190), (0, 2147483648, 2147483657), (0, 2147483648, 2147483653), (0, 2147483648, 2147483649)], [], kd_P185)
theorem kd_h185 {g : kc_G} (hg : kc_ok g) : kd_hold g 4 kd_ty 185 kd_T185 := kd_hold_arg [(3, 190, 190), (0, 2147483648, 2147483657)] [(2147483648, 2147483648), (2147483649, 2147483649), (2147483650, 2147483650), (2147483651, 2147483651), (2147483652, 2147483652), (2147483653, 2147483653)] (by decide +kernel) (kd_al_r [(2147483648, 2147483648), (2147483649, 2147483649), (2147483650, 2147483650), (2147483651, 2147483651), (2147483652, 2147483652), (2147483653, 2147483653)] ⟨(kd_hold_le (kd_h185q0 hg) (by decide)), (kd_hold_le (kd_h185q1 hg) (by decide)), (kd_hold_le (kd_h185q2 hg) (by decide)), (kd_hold_le (kd_h185q3 hg) (by decide)), (kd_hold_le (kd_h185q4 hg) (by decide)), (kd_hold_le (kd_h185q5 hg) (by decide)), trivial⟩)
def kd_P190 : List kd_P := [(none, [], [(195, 200, 0, 2), (192, 192, 0, 5), (191, 191, 0, 9)])]
def kd_T190q0 : kd_Tc := ([(3, 190, 190), (0, 2147483648, 2147483657), (0, 2147483648, 2147483648)], [], kd_P190)
def kd_C190q0 : List (Nat × kd_Tc) := []
def kd_S190q0 : List kd_St := []
theorem kd_e190q0 : kd_run0 kd_ty kd_x190 3 (kd_call kd_ty kd_xt (kd_ctl kd_C190q0) 600 0) kd_T190q0 600 kd_S190q0 = true := by decide +kernel
theorem kd_h190q0 {g : kc_G} (hg : kc_ok g) : kd_hold g 1 kd_ty 190 kd_T190q0 := kd_mk (d0 := 0) (di := 0) hg kd_xk190 rfl rfl rfl rfl (kd_al_r kd_C190q0 trivial) (by decide) (by decide +kernel) kd_e190q0 (kd_al_r kd_S190q0 trivial)
def kd_T190q1 : kd_Tc := ([(3, 190, 190), (0, 2147483648, 2147483657), (0, 2147483649, 2147483649)], [], kd_P190)
def kd_C190q1 : List (Nat × kd_Tc) := []
def kd_S190q1 : List kd_St := []
theorem kd_e190q1 : kd_run0 kd_ty kd_x190 3 (kd_call kd_ty kd_xt (kd_ctl kd_C190q1) 600 0) kd_T190q1 600 kd_S190q1 = true := by decide +kernel
theorem kd_h190q1 {g : kc_G} (hg : kc_ok g) : kd_hold g 1 kd_ty 190 kd_T190q1 := kd_mk (d0 := 0) (di := 0) hg kd_xk190 rfl rfl rfl rfl (kd_al_r kd_C190q1 trivial) (by decide) (by decide +kernel) kd_e190q1 (kd_al_r kd_S190q1 trivial)
def kd_T190q2 : kd_Tc := ([(3, 190, 190), (0, 2147483648, 2147483657), (0, 2147483650, 2147483650)], [], kd_P190)
def kd_C190q2 : List (Nat × kd_Tc) := []
def kd_S190q2 : List kd_St := []
theorem kd_e190q2 : kd_run0 kd_ty kd_x190 3 (kd_call kd_ty kd_xt (kd_ctl kd_C190q2) 600 0) kd_T190q2 600 kd_S190q2 = true := by decide +kernel
theorem kd_h190q2 {g : kc_G} (hg : kc_ok g) : kd_hold g 1 kd_ty 190 kd_T190q2 := kd_mk (d0 := 0) (di := 0) hg kd_xk190 rfl rfl rfl rfl (kd_al_r kd_C190q2 trivial) (by decide) (by decide +kernel) kd_e190q2 (kd_al_r kd_S190q2 trivial)
def kd_T190q3 : kd_Tc := ([(3, 190, 190), (0, 2147483648, 2147483657), (0, 2147483651, 2147483651)], [], kd_P190)
def kd_C190q3 : List (Nat × kd_Tc) := []
def kd_S190q3 : List kd_St := []
theorem kd_e190q3 : kd_run0 kd_ty kd_x190 3 (kd_call kd_ty kd_xt (kd_ctl kd_C190q3) 600 0) kd_T190q3 600 kd_S190q3 = true := by decide +kernel
theorem kd_h190q3 {g : kc_G} (hg : kc_ok g) : kd_hold g 1 kd_ty 190 kd_T190q3 := kd_mk (d0 := 0) (di := 0) hg kd_xk190 rfl rfl rfl rfl (kd_al_r kd_C190q3 trivial) (by decide) (by decide +kernel) kd_e190q3 (kd_al_r kd_S190q3 trivial)
def kd_T190q4 : kd_Tc := ([(3, 190, 190), (0, 2147483648, 2147483657), (0, 2147483652, 2147483652)], [], kd_P190)
def kd_C190q4 : List (Nat × kd_Tc) := []
def kd_S190q4 : List kd_St := []
theorem kd_e190q4 : kd_run0 kd_ty kd_x190 3 (kd_call kd_ty kd_xt (kd_ctl kd_C190q4) 600 0) kd_T190q4 600 kd_S190q4 = true := by decide +kernel
theorem kd_h190q4 {g : kc_G} (hg : kc_ok g) : kd_hold g 1 kd_ty 190 kd_T190q4 := kd_mk (d0 := 0) (di := 0) hg kd_xk190 rfl rfl rfl rfl (kd_al_r kd_C190q4 trivial) (by decide) (by decide +kernel) kd_e190q4 (kd_al_r kd_S190q4 trivial)
def kd_T190q5 : kd_Tc := ([(3, 190, 190), (0, 2147483648, 2147483657), (0, 2147483653, 2147483653)], [], kd_P190)
def kd_C190q5 : List (Nat × kd_Tc) := []
def kd_S190q5 : List kd_St := []
theorem kd_e190q5 : kd_run0 kd_ty kd_x190 3 (kd_call kd_ty kd_xt (kd_ctl kd_C190q5) 600 0) kd_T190q5 600 kd_S190q5 = true := by decide +kernel
theorem kd_h190q5 {g : kc_G} (hg : kc_ok g) : kd_hold g 1 kd_ty 190 kd_T190q5 := kd_mk (d0 := 0) (di := 0) hg kd_xk190 rfl rfl rfl rfl (kd_al_r kd_C190q5 trivial) (by decide) (by decide +kernel) kd_e190q5 (kd_al_r kd_S190q5 trivial)
def kd_T190 : kd_Tc := ([(3, 190, 190), (0, 2147483648, 2147483657), (0, 2147483648, 2147483653)], [], kd_P190)
theorem kd_h190 {g : kc_G} (hg : kc_ok g) : kd_hold g 1 kd_ty 190 kd_T190 := kd_hold_arg [(3, 190, 190), (0, 2147483648, 2147483657)] [(2147483648, 2147483648), (2147483649, 2147483649), (2147483650, 2147483650), (2147483651, 2147483651), (2147483652, 2147483652), (2147483653, 2147483653)] (by decide +kernel) (kd_al_r [(2147483648, 2147483648), (2147483649, 2147483649), (2147483650, 2147483650), (2147483651, 2147483651), (2147483652, 2147483652), (2147483653, 2147483653)] ⟨(kd_hold_le (kd_h190q0 hg) (by decide)), (kd_hold_le (kd_h190q1 hg) (by decide)), (kd_hold_le (kd_h190q2 hg) (by decide)), (kd_hold_le (kd_h190q3 hg) (by decide)), (kd_hold_le (kd_h190q4 hg) (by decide)), (kd_hold_le (kd_h190q5 hg) (by decide)), trivial⟩)
def kd_P184 : List kd_P := [(some (0, 2147483648, 2147483653), [], [(195, 200, 0, 2), (192, 192, 0, 5), (191, 191, 0, 9)])]
def kd_T184 : kd_Tc := ([(3, 190, 190), (0, 2147483648, 2147484647), (0, 2147483648, 2147484647), (0, 2147483648, 2147484647)], [], kd_P184)
def kd_C184 : List (Nat × kd_Tc) := [(190, kd_T190), (185, kd_T185)]
def kd_S184 : List kd_St := []
theorem kd_e184 : kd_run0 kd_ty kd_x184 6 (kd_call kd_ty kd_xt (kd_ctl kd_C184) 600 3) kd_T184 600 kd_S184 = true := by decide +kernel
theorem kd_h184 {g : kc_G} (hg : kc_ok g) : kd_hold g 8 kd_ty 184 kd_T184 := kd_mk (d0 := 4) (di := 3) hg kd_xk184 rfl rfl rfl rfl (kd_al_r kd_C184 ⟨kd_hold_le (kd_h190 hg) (by decide), kd_hold_le (kd_h185 hg) (by decide), trivial⟩) (by decide) (by decide +kernel) kd_e184 (kd_al_r kd_S184 trivial)
def kd_P191 : List kd_P := [(some (0, 2147483648, 2147483650), [], [(192, 192, 0, 5), (191, 191, 0, 9)])]
def kd_T191q0 : kd_Tc := ([(3, 190, 190), (0, 2147483648, 2147483648), (0, 2147483648, 2147483648)], [], kd_P191)
def kd_C191q0 : List (Nat × kd_Tc) := []
def kd_S191q0 : List kd_St := []
theorem kd_e191q0 : kd_run0 kd_ty kd_x191 5 (kd_call kd_ty kd_xt (kd_ctl kd_C191q0) 600 3) kd_T191q0 600 kd_S191q0 = true := by decide +kernel
theorem kd_h191q0 {g : kc_G} (hg : kc_ok g) : kd_hold g 4 kd_ty 191 kd_T191q0 := kd_mk (d0 := 0) (di := 3) hg kd_xk191 rfl rfl rfl rfl (kd_al_r kd_C191q0 trivial) (by decide) (by decide +kernel) kd_e191q0 (kd_al_r kd_S191q0 trivial)
def kd_T191q1 : kd_Tc := ([(3, 190, 190), (0, 2147483648, 2147483648), (0, 2147483649, 2147483649)], [], kd_P191)
def kd_C191q1 : List (Nat × kd_Tc) := []
def kd_S191q1 : List kd_St := []
theorem kd_e191q1 : kd_run0 kd_ty kd_x191 5 (kd_call kd_ty kd_xt (kd_ctl kd_C191q1) 600 3) kd_T191q1 600 kd_S191q1 = true := by decide +kernel
theorem kd_h191q1 {g : kc_G} (hg : kc_ok g) : kd_hold g 4 kd_ty 191 kd_T191q1 := kd_mk (d0 := 0) (di := 3) hg kd_xk191 rfl rfl rfl rfl (kd_al_r kd_C191q1 trivial) (by decide) (by decide +kernel) kd_e191q1 (kd_al_r kd_S191q1 trivial)
def kd_T191q2 : kd_Tc := ([(3, 190, 190), (0, 2147483648, 2147483648), (0, 2147483650, 2147484647)], [], kd_P191)
def kd_C191q2 : List (Nat × kd_Tc) := []
def kd_S191q2 : List kd_St := []
theorem kd_e191q2 : kd_run0 kd_ty kd_x191 5 (kd_call kd_ty kd_xt (kd_ctl kd_C191q2) 600 3) kd_T191q2 600 kd_S191q2 = true := by decide +kernel
theorem kd_h191q2 {g : kc_G} (hg : kc_ok g) : kd_hold g 4 kd_ty 191 kd_T191q2 := kd_mk (d0 := 0) (di := 3) hg kd_xk191 rfl rfl rfl rfl (kd_al_r kd_C191q2 trivial) (by decide) (by decide +kernel) kd_e191q2 (kd_al_r kd_S191q2 trivial)
def kd_T191q3 : kd_Tc := ([(3, 190, 190), (0, 2147483649, 2147483649), (0, 2147483648, 2147483648)], [], kd_P191)
def kd_C191q3 : List (Nat × kd_Tc) := []
def kd_S191q3 : List kd_St := []
theorem kd_e191q3 : kd_run0 kd_ty kd_x191 5 (kd_call kd_ty kd_xt (kd_ctl kd_C191q3) 600 3) kd_T191q3 600 kd_S191q3 = true := by decide +kernel
theorem kd_h191q3 {g : kc_G} (hg : kc_ok g) : kd_hold g 4 kd_ty 191 kd_T191q3 := kd_mk (d0 := 0) (di := 3) hg kd_xk191 rfl rfl rfl rfl (kd_al_r kd_C191q3 trivial) (by decide) (by decide +kernel) kd_e191q3 (kd_al_r kd_S191q3 trivial)
def kd_T191q4 : kd_Tc := ([(3, 190, 190), (0, 2147483649, 2147483649), (0, 2147483649, 2147483649)], [], kd_P191)
def kd_C191q4 : List (Nat × kd_Tc) := []
def kd_S191q4 : List kd_St := []
theorem kd_e191q4 : kd_run0 kd_ty kd_x191 5 (kd_call kd_ty kd_xt (kd_ctl kd_C191q4) 600 3) kd_T191q4 600 kd_S191q4 = true := by decide +kernel
theorem kd_h191q4 {g : kc_G} (hg : kc_ok g) : kd_hold g 4 kd_ty 191 kd_T191q4 := kd_mk (d0 := 0) (di := 3) hg kd_xk191 rfl rfl rfl rfl (kd_al_r kd_C191q4 trivial) (by decide) (by decide +kernel) kd_e191q4 (kd_al_r kd_S191q4 trivial)
def kd_T191q5 : kd_Tc := ([(3, 190, 190), (0, 2147483649, 2147483649), (0, 2147483650, 2147484647)], [], kd_P191)
def kd_C191q5 : List (Nat × kd_Tc) := []
def kd_S191q5 : List kd_St := []
theorem kd_e191q5 : kd_run0 kd_ty kd_x191 5 (kd_call kd_ty kd_xt (kd_ctl kd_C191q5) 600 3) kd_T191q5 600 kd_S191q5 = true := by decide +kernel
theorem kd_h191q5 {g : kc_G} (hg : kc_ok g) : kd_hold g 4 kd_ty 191 kd_T191q5 := kd_mk (d0 := 0) (di := 3) hg kd_xk191 rfl rfl rfl rfl (kd_al_r kd_C191q5 trivial) (by decide) (by decide +kernel) kd_e191q5 (kd_al_r kd_S191q5 trivial)
def kd_T191q6 : kd_Tc := ([(3, 190, 190), (0, 2147483650, 2147483650), (0, 2147483648, 2147483648)], [], kd_P191)
def kd_C191q6 : List (Nat × kd_Tc) := []
def kd_S191q6 : List kd_St := []
theorem kd_e191q6 : kd_run0 kd_ty kd_x191 5 (kd_call kd_ty kd_xt (kd_ctl kd_C191q6) 600 3) kd_T191q6 600 kd_S191q6 = true := by decide +kernel
theorem kd_h191q6 {g : kc_G} (hg : kc_ok g) : kd_hold g 4 kd_ty 191 kd_T191q6 := kd_mk (d0 := 0) (di := 3) hg kd_xk191 rfl rfl rfl rfl (kd_al_r kd_C191q6 trivial) (by decide) (by decide +kernel) kd_e191q6 (kd_al_r kd_S191q6 trivial)
def kd_T191q7 : kd_Tc := ([(3, 190, 190), (0, 2147483650, 2147483650), (0, 2147483649, 2147483649)], [], kd_P191)
def kd_C191q7 : List (Nat × kd_Tc) := []
def kd_S191q7 : List kd_St := []
theorem kd_e191q7 : kd_run0 kd_ty kd_x191 5 (kd_call kd_ty kd_xt (kd_ctl kd_C191q7) 600 3) kd_T191q7 600 kd_S191q7 = true := by decide +kernel
theorem kd_h191q7 {g : kc_G} (hg : kc_ok g) : kd_hold g 4 kd_ty 191 kd_T191q7 := kd_mk (d0 := 0) (di := 3) hg kd_xk191 rfl rfl rfl rfl (kd_al_r kd_C191q7 trivial) (by decide) (by decide +kernel) kd_e191q7 (kd_al_r kd_S191q7 trivial)
def kd_T191q8 : kd_Tc := ([(3, 190, 190), (0, 2147483650, 2147483650), (0, 2147483650, 2147484647)], [], kd_P191)
def kd_C191q8 : List (Nat × kd_Tc) := []
def kd_S191q8 : List kd_St := []
theorem kd_e191q8 : kd_run0 kd_ty kd_x191 5 (kd_call kd_ty kd_xt (kd_ctl kd_C191q8) 600 3) kd_T191q8 600 kd_S191q8 = true := by decide +kernel
theorem kd_h191q8 {g : kc_G} (hg : kc_ok g) : kd_hold g 4 kd_ty 191 kd_T191q8 := kd_mk (d0 := 0) (di := 3) hg kd_xk191 rfl rfl rfl rfl (kd_al_r kd_C191q8 trivial) (by decide) (by decide +kernel) kd_e191q8 (kd_al_r kd_S191q8 trivial)
def kd_T191q9 : kd_Tc := ([(3, 190, 190), (0, 2147483651, 2147484647), (0, 2147483648, 2147483648)], [], kd_P191)
def kd_C191q9 : List (Nat × kd_Tc) := []
def kd_S191q9 : List kd_St := []
theorem kd_e191q9 : kd_run0 kd_ty kd_x191 5 (kd_call kd_ty kd_xt (kd_ctl kd_C191q9) 600 3) kd_T191q9 600 kd_S191q9 = true := by decide +kernel
theorem kd_h191q9 {g : kc_G} (hg : kc_ok g) : kd_hold g 4 kd_ty 191 kd_T191q9 := kd_mk (d0 := 0) (di := 3) hg kd_xk191 rfl rfl rfl rfl (kd_al_r kd_C191q9 trivial) (by decide) (by decide +kernel) kd_e191q9 (kd_al_r kd_S191q9 trivial)
def kd_T191q10 : kd_Tc := ([(3, 190, 190), (0, 2147483651, 2147484647), (0, 2147483649, 2147483649)], [], kd_P191)
def kd_C191q10 : List (Nat × kd_Tc) := []
def kd_S191q10 : List kd_St := []
theorem kd_e191q10 : kd_run0 kd_ty kd_x191 5 (kd_call kd_ty kd_xt (kd_ctl kd_C191q10) 600 3) kd_T191q10 600 kd_S191q10 = true := by decide +kernel
theorem kd_h191q10 {g : kc_G} (hg : kc_ok g) : kd_hold g 4 kd_ty 191 kd_T191q10 := kd_mk (d0 := 0) (di := 3) hg kd_xk191 rfl rfl rfl rfl (kd_al_r kd_C191q10 trivial) (by decide) (by decide +kernel) kd_e191q10 (kd_al_r kd_S191q10 trivial)
def kd_T191q11 : kd_Tc := ([(3, 190, 190), (0, 2147483651, 2147484647), (0, 2147483650, 2147484647)], [], kd_P191)
def kd_C191q11 : List (Nat × kd_Tc) := []
def kd_S191q11 : List kd_St := []
theorem kd_e191q11 : kd_run0 kd_ty kd_x191 5 (kd_call kd_ty kd_xt (kd_ctl kd_C191q11) 600 3) kd_T191q11 600 kd_S191q11 = true := by decide +kernel
theorem kd_h191q11 {g : kc_G} (hg : kc_ok g) : kd_hold g 4 kd_ty 191 kd_T191q11 := kd_mk (d0 := 0) (di := 3) hg kd_xk191 rfl rfl rfl rfl (kd_al_r kd_C191q11 trivial) (by decide) (by decide +kernel) kd_e191q11 (kd_al_r kd_S191q11 trivial)
def kd_T191 : kd_Tc := ([(3, 190, 190), (0, 2147483648, 2147484647), (0, 2147483648, 2147484647)], [], kd_P191)
theorem kd_h191 {g : kc_G} (hg : kc_ok g) : kd_hold g 4 kd_ty 191 kd_T191 := kd_hold_arg [(3, 190, 190)] [(2147483648, 2147483648), (2147483649, 2147483649), (2147483650, 2147483650), (2147483651, 2147484647)] (by decide +kernel) (kd_al_r [(2147483648, 2147483648), (2147483649, 2147483649), (2147483650, 2147483650), (2147483651, 2147484647)] ⟨(kd_hold_arg [(3, 190, 190), (0, 2147483648, 2147483648)] [(2147483648, 2147483648), (2147483649, 2147483649), (2147483650, 2147484647)] (by decide +kernel) (kd_al_r [(2147483648, 2147483648), (2147483649, 2147483649), (2147483650, 2147484647)] ⟨(kd_hold_le (kd_h191q0 hg) (by decide)), (kd_hold_le (kd_h191q1 hg) (by decide)), (kd_hold_le (kd_h191q2 hg) (by decide)), trivial⟩)), (kd_hold_arg [(3, 190, 190), (0, 2147483649, 2147483649)] [(2147483648, 2147483648), (2147483649, 2147483649), (2147483650, 2147484647)] (by decide +kernel) (kd_al_r [(2147483648, 2147483648), (2147483649, 2147483649), (2147483650, 2147484647)] ⟨(kd_hold_le (kd_h191q3 hg) (by decide)), (kd_hold_le (kd_h191q4 hg) (by decide)), (kd_hold_le (kd_h191q5 hg) (by decide)), trivial⟩)), (kd_hold_arg [(3, 190, 190), (0, 2147483650, 2147483650)] [(2147483648, 2147483648), (2147483649, 2147483649), (2147483650, 2147484647)] (by decide +kernel) (kd_al_r [(2147483648, 2147483648), (2147483649, 2147483649), (2147483650, 2147484647)] ⟨(kd_hold_le (kd_h191q6 hg) (by decide)), (kd_hold_le (kd_h191q7 hg) (by decide)), (kd_hold_le (kd_h191q8 hg) (by decide)), trivial⟩)), (kd_hold_arg [(3, 190, 190), (0, 2147483651, 2147484647)] [(2147483648, 2147483648), (2147483649, 2147483649), (2147483650, 2147484647)] (by decide +kernel) (kd_al_r [(2147483648, 2147483648), (2147483649, 2147483649), (2147483650, 2147484647)] ⟨(kd_hold_le (kd_h191q9 hg) (by decide)), (kd_hold_le (kd_h191q10 hg) (by decide)), (kd_hold_le (kd_h191q11 hg) (by decide)), trivial⟩)), trivial⟩)
def kd_P192 : List kd_P := [(some (0, 2147483648, 2147483653), [], [(195, 200, 0, 2), (192, 192, 0, 5), (191, 191, 0, 9)])]
def kd_T192q0 : kd_Tc := ([(3, 190, 190), (0, 2147483648, 2147483648), (0, 2147482650, 2147483647), (0, 2147483648, 2147484647), (0, 2147482650, 2147484647)], [], kd_P192)
def kd_C192q0 : List (Nat × kd_Tc) := []
def kd_S192q0 : List kd_St := []
theorem kd_e192q0 : kd_run0 kd_ty kd_x192 9 (kd_call kd_ty kd_xt (kd_ctl kd_C192q0) 600 3) kd_T192q0 600 kd_S192q0 = true := by decide +kernel
theorem kd_h192q0 {g : kc_G} (hg : kc_ok g) : kd_hold g 4 kd_ty 192 kd_T192q0 := kd_mk (d0 := 0) (di := 3) hg kd_xk192 rfl rfl rfl rfl (kd_al_r kd_C192q0 trivial) (by decide) (by decide +kernel) kd_e192q0 (kd_al_r kd_S192q0 trivial)
def kd_T192q1 : kd_Tc := ([(3, 190, 190), (0, 2147483648, 2147483648), (0, 2147483648, 2147483648), (0, 2147483648, 2147484647), (0, 2147482650, 2147484647)], [], kd_P192)
def kd_C192q1 : List (Nat × kd_Tc) := [(190, kd_T190), (185, kd_T185)]
def kd_S192q1 : List kd_St := []
theorem kd_e192q1 : kd_run0 kd_ty kd_x192 9 (kd_call kd_ty kd_xt (kd_ctl kd_C192q1) 600 3) kd_T192q1 600 kd_S192q1 = true := by decide +kernel
theorem kd_h192q1 {g : kc_G} (hg : kc_ok g) : kd_hold g 8 kd_ty 192 kd_T192q1 := kd_mk (d0 := 4) (di := 3) hg kd_xk192 rfl rfl rfl rfl (kd_al_r kd_C192q1 ⟨kd_hold_le (kd_h190 hg) (by decide), kd_hold_le (kd_h185 hg) (by decide), trivial⟩) (by decide) (by decide +kernel) kd_e192q1 (kd_al_r kd_S192q1 trivial)
def kd_T192q2 : kd_Tc := ([(3, 190, 190), (0, 2147483648, 2147483648), (0, 2147483649, 2147483649), (0, 2147483648, 2147484647), (0, 2147482650, 2147484647)], [], kd_P192)
def kd_C192q2 : List (Nat × kd_Tc) := [(190, kd_T190), (185, kd_T185)]
def kd_S192q2 : List kd_St := []
theorem kd_e192q2 : kd_run0 kd_ty kd_x192 9 (kd_call kd_ty kd_xt (kd_ctl kd_C192q2) 600 3) kd_T192q2 600 kd_S192q2 = true := by decide +kernel
theorem kd_h192q2 {g : kc_G} (hg : kc_ok g) : kd_hold g 8 kd_ty 192 kd_T192q2 := kd_mk (d0 := 4) (di := 3) hg kd_xk192 rfl rfl rfl rfl (kd_al_r kd_C192q2 ⟨kd_hold_le (kd_h190 hg) (by decide), kd_hold_le (kd_h185 hg) (by decide), trivial⟩) (by decide) (by decide +kernel) kd_e192q2 (kd_al_r kd_S192q2 trivial)
def kd_T192q3 : kd_Tc := ([(3, 190, 190), (0, 2147483648, 2147483648), (0, 2147483650, 2147484647), (0, 2147483648, 2147484647), (0, 2147482650, 2147484647)], [], kd_P192)
def kd_C192q3 : List (Nat × kd_Tc) := []
def kd_S192q3 : List kd_St := []
theorem kd_e192q3 : kd_run0 kd_ty kd_x192 9 (kd_call kd_ty kd_xt (kd_ctl kd_C192q3) 600 3) kd_T192q3 600 kd_S192q3 = true := by decide +kernel
theorem kd_h192q3 {g : kc_G} (hg : kc_ok g) : kd_hold g 4 kd_ty 192 kd_T192q3 := kd_mk (d0 := 0) (di := 3) hg kd_xk192 rfl rfl rfl rfl (kd_al_r kd_C192q3 trivial) (by decide) (by decide +kernel) kd_e192q3 (kd_al_r kd_S192q3 trivial)
def kd_T192q4 : kd_Tc := ([(3, 190, 190), (0, 2147483649, 2147483649), (0, 2147482650, 2147483647), (0, 2147483648, 2147484647), (0, 2147482650, 2147484647)], [], kd_P192)
def kd_C192q4 : List (Nat × kd_Tc) := []
def kd_S192q4 : List kd_St := []
theorem kd_e192q4 : kd_run0 kd_ty kd_x192 9 (kd_call kd_ty kd_xt (kd_ctl kd_C192q4) 600 3) kd_T192q4 600 kd_S192q4 = true := by decide +kernel
theorem kd_h192q4 {g : kc_G} (hg : kc_ok g) : kd_hold g 4 kd_ty 192 kd_T192q4 := kd_mk (d0 := 0) (di := 3) hg kd_xk192 rfl rfl rfl rfl (kd_al_r kd_C192q4 trivial) (by decide) (by decide +kernel) kd_e192q4 (kd_al_r kd_S192q4 trivial)
def kd_T192q5 : kd_Tc := ([(3, 190, 190), (0, 2147483649, 2147483649), (0, 2147483648, 2147483648), (0, 2147483648, 2147484647), (0, 2147482650, 2147484647)], [], kd_P192)
def kd_C192q5 : List (Nat × kd_Tc) := [(190, kd_T190), (185, kd_T185)]
def kd_S192q5 : List kd_St := []
theorem kd_e192q5 : kd_run0 kd_ty kd_x192 9 (kd_call kd_ty kd_xt (kd_ctl kd_C192q5) 600 3) kd_T192q5 600 kd_S192q5 = true := by decide +kernel
theorem kd_h192q5 {g : kc_G} (hg : kc_ok g) : kd_hold g 8 kd_ty 192 kd_T192q5 := kd_mk (d0 := 4) (di := 3) hg kd_xk192 rfl rfl rfl rfl (kd_al_r kd_C192q5 ⟨kd_hold_le (kd_h190 hg) (by decide), kd_hold_le (kd_h185 hg) (by decide), trivial⟩) (by decide) (by decide +kernel) kd_e192q5 (kd_al_r kd_S192q5 trivial)
def kd_T192q6 : kd_Tc := ([(3, 190, 190), (0, 2147483649, 2147483649), (0, 2147483649, 2147483649), (0, 2147483648, 2147484647), (0, 2147482650, 2147484647)], [], kd_P192)
def kd_C192q6 : List (Nat × kd_Tc) := [(190, kd_T190), (185, kd_T185)]
def kd_S192q6 : List kd_St := []
theorem kd_e192q6 : kd_run0 kd_ty kd_x192 9 (kd_call kd_ty kd_xt (kd_ctl kd_C192q6) 600 3) kd_T192q6 600 kd_S192q6 = true := by decide +kernel
theorem kd_h192q6 {g : kc_G} (hg : kc_ok g) : kd_hold g 8 kd_ty 192 kd_T192q6 := kd_mk (d0 := 4) (di := 3) hg kd_xk192 rfl rfl rfl rfl (kd_al_r kd_C192q6 ⟨kd_hold_le (kd_h190 hg) (by decide), kd_hold_le (kd_h185 hg) (by decide), trivial⟩) (by decide) (by decide +kernel) kd_e192q6 (kd_al_r kd_S192q6 trivial)
def kd_T192q7 : kd_Tc := ([(3, 190, 190), (0, 2147483649, 2147483649), (0, 2147483650, 2147484647), (0, 2147483648, 2147484647), (0, 2147482650, 2147484647)], [], kd_P192)
def kd_C192q7 : List (Nat × kd_Tc) := []
def kd_S192q7 : List kd_St := []
theorem kd_e192q7 : kd_run0 kd_ty kd_x192 9 (kd_call kd_ty kd_xt (kd_ctl kd_C192q7) 600 3) kd_T192q7 600 kd_S192q7 = true := by decide +kernel
theorem kd_h192q7 {g : kc_G} (hg : kc_ok g) : kd_hold g 4 kd_ty 192 kd_T192q7 := kd_mk (d0 := 0) (di := 3) hg kd_xk192 rfl rfl rfl rfl (kd_al_r kd_C192q7 trivial) (by decide) (by decide +kernel) kd_e192q7 (kd_al_r kd_S192q7 trivial)
def kd_T192q8 : kd_Tc := ([(3, 190, 190), (0, 2147483650, 2147483650), (0, 2147482650, 2147483647), (0, 2147483648, 2147484647), (0, 2147482650, 2147484647)], [], kd_P192)
def kd_C192q8 : List (Nat × kd_Tc) := []
def kd_S192q8 : List kd_St := []
theorem kd_e192q8 : kd_run0 kd_ty kd_x192 9 (kd_call kd_ty kd_xt (kd_ctl kd_C192q8) 600 3) kd_T192q8 600 kd_S192q8 = true := by decide +kernel
theorem kd_h192q8 {g : kc_G} (hg : kc_ok g) : kd_hold g 4 kd_ty 192 kd_T192q8 := kd_mk (d0 := 0) (di := 3) hg kd_xk192 rfl rfl rfl rfl (kd_al_r kd_C192q8 trivial) (by decide) (by decide +kernel) kd_e192q8 (kd_al_r kd_S192q8 trivial)
def kd_T192q9 : kd_Tc := ([(3, 190, 190), (0, 2147483650, 2147483650), (0, 2147483648, 2147483648), (0, 2147483648, 2147484647), (0, 2147482650, 2147484647)], [], kd_P192)
def kd_C192q9 : List (Nat × kd_Tc) := [(190, kd_T190), (185, kd_T185)]
def kd_S192q9 : List kd_St := []
theorem kd_e192q9 : kd_run0 kd_ty kd_x192 9 (kd_call kd_ty kd_xt (kd_ctl kd_C192q9) 600 3) kd_T192q9 600 kd_S192q9 = true := by decide +kernel
theorem kd_h192q9 {g : kc_G} (hg : kc_ok g) : kd_hold g 8 kd_ty 192 kd_T192q9 := kd_mk (d0 := 4) (di := 3) hg kd_xk192 rfl rfl rfl rfl (kd_al_r kd_C192q9 ⟨kd_hold_le (kd_h190 hg) (by decide), kd_hold_le (kd_h185 hg) (by decide), trivial⟩) (by decide) (by decide +kernel) kd_e192q9 (kd_al_r kd_S192q9 trivial)
def kd_T192q10 : kd_Tc := ([(3, 190, 190), (0, 2147483650, 2147483650), (0, 2147483649, 2147483649), (0, 2147483648, 2147484647), (0, 2147482650, 2147484647)], [], kd_P192)
def kd_C192q10 : List (Nat × kd_Tc) := [(190, kd_T190), (185, kd_T185)]
def kd_S192q10 : List kd_St := []
theorem kd_e192q10 : kd_run0 kd_ty kd_x192 9 (kd_call kd_ty kd_xt (kd_ctl kd_C192q10) 600 3) kd_T192q10 600 kd_S192q10 = true := by decide +kernel
theorem kd_h192q10 {g : kc_G} (hg : kc_ok g) : kd_hold g 8 kd_ty 192 kd_T192q10 := kd_mk (d0 := 4) (di := 3) hg kd_xk192 rfl rfl rfl rfl (kd_al_r kd_C192q10 ⟨kd_hold_le (kd_h190 hg) (by decide), kd_hold_le (kd_h185 hg) (by decide), trivial⟩) (by decide) (by decide +kernel) kd_e192q10 (kd_al_r kd_S192q10 trivial)
def kd_T192q11 : kd_Tc := ([(3, 190, 190), (0, 2147483650, 2147483650), (0, 2147483650, 2147484647), (0, 2147483648, 2147484647), (0, 2147482650, 2147484647)], [], kd_P192)
def kd_C192q11 : List (Nat × kd_Tc) := []
def kd_S192q11 : List kd_St := []
theorem kd_e192q11 : kd_run0 kd_ty kd_x192 9 (kd_call kd_ty kd_xt (kd_ctl kd_C192q11) 600 3) kd_T192q11 600 kd_S192q11 = true := by decide +kernel
theorem kd_h192q11 {g : kc_G} (hg : kc_ok g) : kd_hold g 4 kd_ty 192 kd_T192q11 := kd_mk (d0 := 0) (di := 3) hg kd_xk192 rfl rfl rfl rfl (kd_al_r kd_C192q11 trivial) (by decide) (by decide +kernel) kd_e192q11 (kd_al_r kd_S192q11 trivial)
def kd_T192q12 : kd_Tc := ([(3, 190, 190), (0, 2147483651, 2147484647), (0, 2147482650, 2147483647), (0, 2147483648, 2147484647), (0, 2147482650, 2147484647)], [], kd_P192)
def kd_C192q12 : List (Nat × kd_Tc) := []
def kd_S192q12 : List kd_St := []
theorem kd_e192q12 : kd_run0 kd_ty kd_x192 9 (kd_call kd_ty kd_xt (kd_ctl kd_C192q12) 600 3) kd_T192q12 600 kd_S192q12 = true := by decide +kernel
theorem kd_h192q12 {g : kc_G} (hg : kc_ok g) : kd_hold g 4 kd_ty 192 kd_T192q12 := kd_mk (d0 := 0) (di := 3) hg kd_xk192 rfl rfl rfl rfl (kd_al_r kd_C192q12 trivial) (by decide) (by decide +kernel) kd_e192q12 (kd_al_r kd_S192q12 trivial)
def kd_T192q13 : kd_Tc := ([(3, 190, 190), (0, 2147483651, 2147484647), (0, 2147483648, 2147483648), (0, 2147483648, 2147484647), (0, 2147482650, 2147484647)], [], kd_P192)
def kd_C192q13 : List (Nat × kd_Tc) := []
def kd_S192q13 : List kd_St := []
theorem kd_e192q13 : kd_run0 kd_ty kd_x192 9 (kd_call kd_ty kd_xt (kd_ctl kd_C192q13) 600 3) kd_T192q13 600 kd_S192q13 = true := by decide +kernel
theorem kd_h192q13 {g : kc_G} (hg : kc_ok g) : kd_hold g 4 kd_ty 192 kd_T192q13 := kd_mk (d0 := 0) (di := 3) hg kd_xk192 rfl rfl rfl rfl (kd_al_r kd_C192q13 trivial) (by decide) (by decide +kernel) kd_e192q13 (kd_al_r kd_S192q13 trivial)
def kd_T192q14 : kd_Tc := ([(3, 190, 190), (0, 2147483651, 2147484647), (0, 2147483649, 2147483649), (0, 2147483648, 2147484647), (0, 2147482650, 2147484647)], [], kd_P192)
def kd_C192q14 : List (Nat × kd_Tc) := []
def kd_S192q14 : List kd_St := []
theorem kd_e192q14 : kd_run0 kd_ty kd_x192 9 (kd_call kd_ty kd_xt (kd_ctl kd_C192q14) 600 3) kd_T192q14 600 kd_S192q14 = true := by decide +kernel
theorem kd_h192q14 {g : kc_G} (hg : kc_ok g) : kd_hold g 4 kd_ty 192 kd_T192q14 := kd_mk (d0 := 0) (di := 3) hg kd_xk192 rfl rfl rfl rfl (kd_al_r kd_C192q14 trivial) (by decide) (by decide +kernel) kd_e192q14 (kd_al_r kd_S192q14 trivial)
def kd_T192q15 : kd_Tc := ([(3, 190, 190), (0, 2147483651, 2147484647), (0, 2147483650, 2147484647), (0, 2147483648, 2147484647), (0, 2147482650, 2147484647)], [], kd_P192)
def kd_C192q15 : List (Nat × kd_Tc) := []
def kd_S192q15 : List kd_St := []
theorem kd_e192q15 : kd_run0 kd_ty kd_x192 9 (kd_call kd_ty kd_xt (kd_ctl kd_C192q15) 600 3) kd_T192q15 600 kd_S192q15 = true := by decide +kernel
theorem kd_h192q15 {g : kc_G} (hg : kc_ok g) : kd_hold g 4 kd_ty 192 kd_T192q15 := kd_mk (d0 := 0) (di := 3) hg kd_xk192 rfl rfl rfl rfl (kd_al_r kd_C192q15 trivial) (by decide) (by decide +kernel) kd_e192q15 (kd_al_r kd_S192q15 trivial)
def kd_T192 : kd_Tc := ([(3, 190, 190), (0, 2147483648, 2147484647), (0, 2147482650, 2147484647), (0, 2147483648, 2147484647), (0, 2147482650, 2147484647)], [], kd_P192)
theorem kd_h192 {g : kc_G} (hg : kc_ok g) : kd_hold g 8 kd_ty 192 kd_T192 := kd_hold_arg [(3, 190, 190)] [(2147483648, 2147483648), (2147483649, 2147483649), (2147483650, 2147483650), (2147483651, 2147484647)] (by decide +kernel) (kd_al_r [(2147483648, 2147483648), (2147483649, 2147483649), (2147483650, 2147483650), (2147483651, 2147484647)] ⟨(kd_hold_arg [(3, 190, 190), (0, 2147483648, 2147483648)] [(2147482650, 2147483647), (2147483648, 2147483648), (2147483649, 2147483649), (2147483650, 2147484647)] (by decide +kernel) (kd_al_r [(2147482650, 2147483647), (2147483648, 2147483648), (2147483649, 2147483649), (2147483650, 2147484647)] ⟨(kd_hold_le (kd_h192q0 hg) (by decide)), (kd_hold_le (kd_h192q1 hg) (by decide)), (kd_hold_le (kd_h192q2 hg) (by decide)), (kd_hold_le (kd_h192q3 hg) (by decide)), trivial⟩)), (kd_hold_arg [(3, 190, 190), (0, 2147483649, 2147483649)] [(2147482650, 2147483647), (2147483648, 2147483648), (2147483649, 2147483649), (2147483650, 2147484647)] (by decide +kernel) (kd_al_r [(2147482650, 2147483647), (2147483648, 2147483648), (2147483649, 2147483649), (2147483650, 2147484647)] ⟨(kd_hold_le (kd_h192q4 hg) (by decide)), (kd_hold_le (kd_h192q5 hg) (by decide)), (kd_hold_le (kd_h192q6 hg) (by decide)), (kd_hold_le (kd_h192q7 hg) (by decide)), trivial⟩)), (kd_hold_arg [(3, 190, 190), (0, 2147483650, 2147483650)] [(2147482650, 2147483647), (2147483648, 2147483648), (2147483649, 2147483649), (2147483650, 2147484647)] (by decide +kernel) (kd_al_r [(2147482650, 2147483647), (2147483648, 2147483648), (2147483649, 2147483649), (2147483650, 2147484647)] ⟨(kd_hold_le (kd_h192q8 hg) (by decide)), (kd_hold_le (kd_h192q9 hg) (by decide)), (kd_hold_le (kd_h192q10 hg) (by decide)), (kd_hold_le (kd_h192q11 hg) (by decide)), trivial⟩)), (kd_hold_arg [(3, 190, 190), (0, 2147483651, 2147484647)] [(2147482650, 2147483647), (2147483648, 2147483648), (2147483649, 2147483649), (2147483650, 2147484647)] (by decide +kernel) (kd_al_r [(2147482650, 2147483647), (2147483648, 2147483648), (2147483649, 2147483649), (2147483650, 2147484647)] ⟨(kd_hold_le (kd_h192q12 hg) (by decide)), (kd_hold_le (kd_h192q13 hg) (by decide)), (kd_hold_le (kd_h192q14 hg) (by decide)), (kd_hold_le (kd_h192q15 hg) (by decide)), trivial⟩)), trivial⟩)
