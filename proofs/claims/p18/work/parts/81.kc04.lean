/-! ===== contracts, kc 4 ===== -/
def kd_P157 : List kd_P := [(some (0, 2147483646, 2147483646), [], []), (some (0, 2147483649, 2147483649), [], [(89, 89, 0, 1), (94, 94, 0, 1), (120, 120, 0, 1), (125, 126, 0, 1), (64, 64, 0, 3), (95, 95, 0, 3), (75, 77, 0, 4), (90, 90, 0, 4), (106, 108, 0, 4), (121, 121, 0, 4), (66, 73, 0, 5), (97, 104, 0, 5), (79, 88, 0, 6), (110, 119, 0, 6), (92, 93, 0, 239), (123, 124, 0, 239)])]
def kd_T157q0 : kd_Tc := ([(3, 0, 0), (0, 0, 2147483647)], [], kd_P157)
def kd_C157q0 : List (Nat × kd_Tc) := []
def kd_S157q0 : List kd_St := []
theorem kd_e157q0 : kd_run0 kd_ty kd_x157 2 (kd_call kd_ty kd_xt (kd_ctl kd_C157q0) 600 1) kd_T157q0 600 kd_S157q0 = true := by decide +kernel
theorem kd_h157q0 {g : kc_G} (hg : kc_ok g) : kd_hold g 2 kd_ty 157 kd_T157q0 := kd_mk (d0 := 0) (di := 1) hg kd_xk157 rfl rfl rfl rfl (kd_al_r kd_C157q0 trivial) (by decide) (by decide +kernel) kd_e157q0 (kd_al_r kd_S157q0 trivial)
def kd_T157q1 : kd_Tc := ([(3, 0, 0), (0, 2147483648, 2147483648)], [], kd_P157)
def kd_C157q1 : List (Nat × kd_Tc) := []
def kd_S157q1 : List kd_St := []
theorem kd_e157q1 : kd_run0 kd_ty kd_x157 2 (kd_call kd_ty kd_xt (kd_ctl kd_C157q1) 600 3) kd_T157q1 600 kd_S157q1 = true := by decide +kernel
theorem kd_h157q1 {g : kc_G} (hg : kc_ok g) : kd_hold g 4 kd_ty 157 kd_T157q1 := kd_mk (d0 := 0) (di := 3) hg kd_xk157 rfl rfl rfl rfl (kd_al_r kd_C157q1 trivial) (by decide) (by decide +kernel) kd_e157q1 (kd_al_r kd_S157q1 trivial)
def kd_T157q2 : kd_Tc := ([(3, 0, 0), (0, 2147483649, 2147483649)], [], kd_P157)
def kd_C157q2 : List (Nat × kd_Tc) := []
def kd_S157q2 : List kd_St := []
theorem kd_e157q2 : kd_run0 kd_ty kd_x157 2 (kd_call kd_ty kd_xt (kd_ctl kd_C157q2) 600 3) kd_T157q2 600 kd_S157q2 = true := by decide +kernel
theorem kd_h157q2 {g : kc_G} (hg : kc_ok g) : kd_hold g 4 kd_ty 157 kd_T157q2 := kd_mk (d0 := 0) (di := 3) hg kd_xk157 rfl rfl rfl rfl (kd_al_r kd_C157q2 trivial) (by decide) (by decide +kernel) kd_e157q2 (kd_al_r kd_S157q2 trivial)
def kd_T157q3 : kd_Tc := ([(3, 0, 0), (0, 2147483650, 4294967295)], [], kd_P157)
def kd_C157q3 : List (Nat × kd_Tc) := []
def kd_S157q3 : List kd_St := []
theorem kd_e157q3 : kd_run0 kd_ty kd_x157 2 (kd_call kd_ty kd_xt (kd_ctl kd_C157q3) 600 1) kd_T157q3 600 kd_S157q3 = true := by decide +kernel
theorem kd_h157q3 {g : kc_G} (hg : kc_ok g) : kd_hold g 2 kd_ty 157 kd_T157q3 := kd_mk (d0 := 0) (di := 1) hg kd_xk157 rfl rfl rfl rfl (kd_al_r kd_C157q3 trivial) (by decide) (by decide +kernel) kd_e157q3 (kd_al_r kd_S157q3 trivial)
def kd_T157 : kd_Tc := ([(3, 0, 0), (0, 0, 4294967295)], [], kd_P157)
theorem kd_h157 {g : kc_G} (hg : kc_ok g) : kd_hold g 4 kd_ty 157 kd_T157 := kd_hold_arg [(3, 0, 0)] [(0, 2147483647), (2147483648, 2147483648), (2147483649, 2147483649), (2147483650, 4294967295)] (by decide +kernel) (kd_al_r [(0, 2147483647), (2147483648, 2147483648), (2147483649, 2147483649), (2147483650, 4294967295)] ⟨(kd_hold_le (kd_h157q0 hg) (by decide)), (kd_hold_le (kd_h157q1 hg) (by decide)), (kd_hold_le (kd_h157q2 hg) (by decide)), (kd_hold_le (kd_h157q3 hg) (by decide)), trivial⟩)
def kd_P159 : List kd_P := [(some (0, 2147483645, 2147483649), [], [(26, 26, 0, 1), (31, 31, 0, 1), (1, 1, 0, 3), (12, 14, 0, 4), (27, 27, 0, 4), (3, 10, 0, 5), (16, 25, 0, 6), (29, 30, 0, 239)])]
def kd_T159q0 : kd_Tc := ([(3, 0, 0), (0, 0, 2147483647)], [], kd_P159)
def kd_C159q0 : List (Nat × kd_Tc) := []
def kd_S159q0 : List kd_St := []
theorem kd_e159q0 : kd_run0 kd_ty kd_x159 2 (kd_call kd_ty kd_xt (kd_ctl kd_C159q0) 600 1) kd_T159q0 600 kd_S159q0 = true := by decide +kernel
theorem kd_h159q0 {g : kc_G} (hg : kc_ok g) : kd_hold g 2 kd_ty 159 kd_T159q0 := kd_mk (d0 := 0) (di := 1) hg kd_xk159 rfl rfl rfl rfl (kd_al_r kd_C159q0 trivial) (by decide) (by decide +kernel) kd_e159q0 (kd_al_r kd_S159q0 trivial)
def kd_T159q1 : kd_Tc := ([(3, 0, 0), (0, 2147483648, 2147483648)], [], kd_P159)
def kd_C159q1 : List (Nat × kd_Tc) := []
def kd_S159q1 : List kd_St := []
theorem kd_e159q1 : kd_run0 kd_ty kd_x159 2 (kd_call kd_ty kd_xt (kd_ctl kd_C159q1) 600 3) kd_T159q1 600 kd_S159q1 = true := by decide +kernel
theorem kd_h159q1 {g : kc_G} (hg : kc_ok g) : kd_hold g 4 kd_ty 159 kd_T159q1 := kd_mk (d0 := 0) (di := 3) hg kd_xk159 rfl rfl rfl rfl (kd_al_r kd_C159q1 trivial) (by decide) (by decide +kernel) kd_e159q1 (kd_al_r kd_S159q1 trivial)
def kd_T159q2 : kd_Tc := ([(3, 0, 0), (0, 2147483649, 2147483649)], [], kd_P159)
def kd_C159q2 : List (Nat × kd_Tc) := []
def kd_S159q2 : List kd_St := []
theorem kd_e159q2 : kd_run0 kd_ty kd_x159 2 (kd_call kd_ty kd_xt (kd_ctl kd_C159q2) 600 3) kd_T159q2 600 kd_S159q2 = true := by decide +kernel
theorem kd_h159q2 {g : kc_G} (hg : kc_ok g) : kd_hold g 4 kd_ty 159 kd_T159q2 := kd_mk (d0 := 0) (di := 3) hg kd_xk159 rfl rfl rfl rfl (kd_al_r kd_C159q2 trivial) (by decide) (by decide +kernel) kd_e159q2 (kd_al_r kd_S159q2 trivial)
def kd_T159q3 : kd_Tc := ([(3, 0, 0), (0, 2147483650, 4294967295)], [], kd_P159)
def kd_C159q3 : List (Nat × kd_Tc) := []
def kd_S159q3 : List kd_St := []
theorem kd_e159q3 : kd_run0 kd_ty kd_x159 2 (kd_call kd_ty kd_xt (kd_ctl kd_C159q3) 600 1) kd_T159q3 600 kd_S159q3 = true := by decide +kernel
theorem kd_h159q3 {g : kc_G} (hg : kc_ok g) : kd_hold g 2 kd_ty 159 kd_T159q3 := kd_mk (d0 := 0) (di := 1) hg kd_xk159 rfl rfl rfl rfl (kd_al_r kd_C159q3 trivial) (by decide) (by decide +kernel) kd_e159q3 (kd_al_r kd_S159q3 trivial)
def kd_T159 : kd_Tc := ([(3, 0, 0), (0, 0, 4294967295)], [], kd_P159)
theorem kd_h159 {g : kc_G} (hg : kc_ok g) : kd_hold g 4 kd_ty 159 kd_T159 := kd_hold_arg [(3, 0, 0)] [(0, 2147483647), (2147483648, 2147483648), (2147483649, 2147483649), (2147483650, 4294967295)] (by decide +kernel) (kd_al_r [(0, 2147483647), (2147483648, 2147483648), (2147483649, 2147483649), (2147483650, 4294967295)] ⟨(kd_hold_le (kd_h159q0 hg) (by decide)), (kd_hold_le (kd_h159q1 hg) (by decide)), (kd_hold_le (kd_h159q2 hg) (by decide)), (kd_hold_le (kd_h159q3 hg) (by decide)), trivial⟩)
def kd_P168c29 : List kd_P := [(some (2, 0, 18446744073709551615), [], [])]
def kd_T168c29 : kd_Tc := ([(2, 0, 18446744073709551615), (3, 29, 29), (0, 2147483648, 2147483888)], [], kd_P168c29)
def kd_C168c29 : List (Nat × kd_Tc) := []
def kd_S168c29_0 : kd_St := (3, [(2147483648, 4294967295), (2147483648, 2147483888)], 2, [(2, 0, 18446744073709551615), (9, 0, 0), (3, 29, 29), (1, 0, 2147483648), (1, 1, 2147483648)], [], [], [(0, (0, 4, 4)), (0, (1, 1, 2147483648))])
def kd_S168c29 : List kd_St := [kd_S168c29_0]
theorem kd_e168c29 : kd_run0 kd_ty kd_x168 5 (kd_call kd_ty kd_xt (kd_ctl kd_C168c29) 600 0) kd_T168c29 600 kd_S168c29 = true := by decide +kernel
theorem kd_r168c29_0 : kd_run1 kd_ty kd_x168 5 (kd_call kd_ty kd_xt (kd_ctl kd_C168c29) 600 0) kd_T168c29.2.2 600 kd_S168c29 kd_S168c29_0 = true := by decide +kernel
theorem kd_h168c29 {g : kc_G} (hg : kc_ok g) : kd_hold g 1 kd_ty 168 kd_T168c29 := kd_mk (d0 := 0) (di := 0) hg kd_xk168 rfl rfl rfl rfl (kd_al_r kd_C168c29 trivial) (by decide) (by decide +kernel) kd_e168c29 (kd_al_r kd_S168c29 ⟨kd_r168c29_0, trivial⟩)
def kd_P168c30 : List kd_P := [(some (2, 0, 18446744073709551615), [], [])]
def kd_T168c30 : kd_Tc := ([(2, 0, 18446744073709551615), (3, 30, 30), (0, 2147483648, 2147483888)], [], kd_P168c30)
def kd_C168c30 : List (Nat × kd_Tc) := []
def kd_S168c30_0 : kd_St := (3, [(2147483648, 4294967295), (2147483648, 2147483888)], 2, [(2, 0, 18446744073709551615), (9, 0, 0), (3, 30, 30), (1, 0, 2147483648), (1, 1, 2147483648)], [], [], [(0, (0, 4, 4)), (0, (1, 1, 2147483648))])
def kd_S168c30 : List kd_St := [kd_S168c30_0]
theorem kd_e168c30 : kd_run0 kd_ty kd_x168 5 (kd_call kd_ty kd_xt (kd_ctl kd_C168c30) 600 0) kd_T168c30 600 kd_S168c30 = true := by decide +kernel
theorem kd_r168c30_0 : kd_run1 kd_ty kd_x168 5 (kd_call kd_ty kd_xt (kd_ctl kd_C168c30) 600 0) kd_T168c30.2.2 600 kd_S168c30 kd_S168c30_0 = true := by decide +kernel
theorem kd_h168c30 {g : kc_G} (hg : kc_ok g) : kd_hold g 1 kd_ty 168 kd_T168c30 := kd_mk (d0 := 0) (di := 0) hg kd_xk168 rfl rfl rfl rfl (kd_al_r kd_C168c30 trivial) (by decide) (by decide +kernel) kd_e168c30 (kd_al_r kd_S168c30 ⟨kd_r168c30_0, trivial⟩)
def kd_P168c3 : List kd_P := [(some (2, 0, 18446744073709551615), [], [])]
def kd_T168c3 : kd_Tc := ([(2, 0, 18446744073709551615), (3, 3, 3), (0, 2147483648, 2147483653)], [], kd_P168c3)
def kd_C168c3 : List (Nat × kd_Tc) := []
def kd_S168c3_0 : kd_St := (3, [(2147483648, 2147483653)], 1, [(2, 0, 18446744073709551615), (9, 0, 0), (3, 3, 3), (1, 0, 2147483648), (0, 2147483648, 2147483648)], [], [], [(0, (0, 4, 4)), (0, (0, 2147483648, 2147483648))])
def kd_S168c3_1 : kd_St := (3, [(2147483649, 2147483653)], 1, [(2, 0, 18446744073709551615), (9, 0, 0), (3, 3, 3), (1, 0, 2147483648), (0, 2147483649, 2147483649)], [], [], [(0, (0, 4, 4)), (0, (0, 2147483649, 2147483649))])
def kd_S168c3_2 : kd_St := (3, [(2147483650, 2147483653)], 1, [(2, 0, 18446744073709551615), (9, 0, 0), (3, 3, 3), (1, 0, 2147483648), (0, 2147483650, 2147483650)], [], [], [(0, (0, 4, 4)), (0, (0, 2147483650, 2147483650))])
def kd_S168c3_3 : kd_St := (3, [(2147483651, 2147483653)], 1, [(2, 0, 18446744073709551615), (9, 0, 0), (3, 3, 3), (1, 0, 2147483648), (0, 2147483651, 2147483651)], [], [], [(0, (0, 4, 4)), (0, (0, 2147483651, 2147483651))])
def kd_S168c3_4 : kd_St := (3, [(2147483652, 2147483653)], 1, [(2, 0, 18446744073709551615), (9, 0, 0), (3, 3, 3), (1, 0, 2147483648), (0, 2147483652, 2147483652)], [], [], [(0, (0, 4, 4)), (0, (0, 2147483652, 2147483652))])
def kd_S168c3_5 : kd_St := (3, [], 0, [(2, 0, 18446744073709551615), (9, 0, 0), (3, 3, 3), (0, 2147483653, 2147483653), (0, 2147483653, 2147483653)], [], [], [(0, (0, 4, 4)), (0, (0, 2147483653, 2147483653))])
def kd_S168c3 : List kd_St := [kd_S168c3_0, kd_S168c3_1, kd_S168c3_2, kd_S168c3_3, kd_S168c3_4, kd_S168c3_5]
theorem kd_e168c3 : kd_run0 kd_ty kd_x168 5 (kd_call kd_ty kd_xt (kd_ctl kd_C168c3) 600 0) kd_T168c3 600 kd_S168c3 = true := by decide +kernel
theorem kd_r168c3_0 : kd_run1 kd_ty kd_x168 5 (kd_call kd_ty kd_xt (kd_ctl kd_C168c3) 600 0) kd_T168c3.2.2 600 kd_S168c3 kd_S168c3_0 = true := by decide +kernel
theorem kd_r168c3_1 : kd_run1 kd_ty kd_x168 5 (kd_call kd_ty kd_xt (kd_ctl kd_C168c3) 600 0) kd_T168c3.2.2 600 kd_S168c3 kd_S168c3_1 = true := by decide +kernel
theorem kd_r168c3_2 : kd_run1 kd_ty kd_x168 5 (kd_call kd_ty kd_xt (kd_ctl kd_C168c3) 600 0) kd_T168c3.2.2 600 kd_S168c3 kd_S168c3_2 = true := by decide +kernel
theorem kd_r168c3_3 : kd_run1 kd_ty kd_x168 5 (kd_call kd_ty kd_xt (kd_ctl kd_C168c3) 600 0) kd_T168c3.2.2 600 kd_S168c3 kd_S168c3_3 = true := by decide +kernel
theorem kd_r168c3_4 : kd_run1 kd_ty kd_x168 5 (kd_call kd_ty kd_xt (kd_ctl kd_C168c3) 600 0) kd_T168c3.2.2 600 kd_S168c3 kd_S168c3_4 = true := by decide +kernel
theorem kd_r168c3_5 : kd_run1 kd_ty kd_x168 5 (kd_call kd_ty kd_xt (kd_ctl kd_C168c3) 600 0) kd_T168c3.2.2 600 kd_S168c3 kd_S168c3_5 = true := by decide +kernel
theorem kd_h168c3 {g : kc_G} (hg : kc_ok g) : kd_hold g 1 kd_ty 168 kd_T168c3 := kd_mk (d0 := 0) (di := 0) hg kd_xk168 rfl rfl rfl rfl (kd_al_r kd_C168c3 trivial) (by decide) (by decide +kernel) kd_e168c3 (kd_al_r kd_S168c3 ⟨kd_r168c3_0, kd_r168c3_1, kd_r168c3_2, kd_r168c3_3, kd_r168c3_4, kd_r168c3_5, trivial⟩)
def kd_P168c4 : List kd_P := [(some (2, 0, 18446744073709551615), [], [])]
def kd_T168c4 : kd_Tc := ([(2, 0, 18446744073709551615), (3, 4, 4), (0, 2147483648, 2147483653)], [], kd_P168c4)
def kd_C168c4 : List (Nat × kd_Tc) := []
def kd_S168c4_0 : kd_St := (3, [(2147483648, 2147483653)], 1, [(2, 0, 18446744073709551615), (9, 0, 0), (3, 4, 4), (1, 0, 2147483648), (0, 2147483648, 2147483648)], [], [], [(0, (0, 4, 4)), (0, (0, 2147483648, 2147483648))])
def kd_S168c4_1 : kd_St := (3, [(2147483649, 2147483653)], 1, [(2, 0, 18446744073709551615), (9, 0, 0), (3, 4, 4), (1, 0, 2147483648), (0, 2147483649, 2147483649)], [], [], [(0, (0, 4, 4)), (0, (0, 2147483649, 2147483649))])
def kd_S168c4_2 : kd_St := (3, [(2147483650, 2147483653)], 1, [(2, 0, 18446744073709551615), (9, 0, 0), (3, 4, 4), (1, 0, 2147483648), (0, 2147483650, 2147483650)], [], [], [(0, (0, 4, 4)), (0, (0, 2147483650, 2147483650))])
def kd_S168c4_3 : kd_St := (3, [(2147483651, 2147483653)], 1, [(2, 0, 18446744073709551615), (9, 0, 0), (3, 4, 4), (1, 0, 2147483648), (0, 2147483651, 2147483651)], [], [], [(0, (0, 4, 4)), (0, (0, 2147483651, 2147483651))])
def kd_S168c4_4 : kd_St := (3, [(2147483652, 2147483653)], 1, [(2, 0, 18446744073709551615), (9, 0, 0), (3, 4, 4), (1, 0, 2147483648), (0, 2147483652, 2147483652)], [], [], [(0, (0, 4, 4)), (0, (0, 2147483652, 2147483652))])
def kd_S168c4_5 : kd_St := (3, [], 0, [(2, 0, 18446744073709551615), (9, 0, 0), (3, 4, 4), (0, 2147483653, 2147483653), (0, 2147483653, 2147483653)], [], [], [(0, (0, 4, 4)), (0, (0, 2147483653, 2147483653))])
def kd_S168c4 : List kd_St := [kd_S168c4_0, kd_S168c4_1, kd_S168c4_2, kd_S168c4_3, kd_S168c4_4, kd_S168c4_5]
theorem kd_e168c4 : kd_run0 kd_ty kd_x168 5 (kd_call kd_ty kd_xt (kd_ctl kd_C168c4) 600 0) kd_T168c4 600 kd_S168c4 = true := by decide +kernel
theorem kd_r168c4_0 : kd_run1 kd_ty kd_x168 5 (kd_call kd_ty kd_xt (kd_ctl kd_C168c4) 600 0) kd_T168c4.2.2 600 kd_S168c4 kd_S168c4_0 = true := by decide +kernel
theorem kd_r168c4_1 : kd_run1 kd_ty kd_x168 5 (kd_call kd_ty kd_xt (kd_ctl kd_C168c4) 600 0) kd_T168c4.2.2 600 kd_S168c4 kd_S168c4_1 = true := by decide +kernel
theorem kd_r168c4_2 : kd_run1 kd_ty kd_x168 5 (kd_call kd_ty kd_xt (kd_ctl kd_C168c4) 600 0) kd_T168c4.2.2 600 kd_S168c4 kd_S168c4_2 = true := by decide +kernel
theorem kd_r168c4_3 : kd_run1 kd_ty kd_x168 5 (kd_call kd_ty kd_xt (kd_ctl kd_C168c4) 600 0) kd_T168c4.2.2 600 kd_S168c4 kd_S168c4_3 = true := by decide +kernel
theorem kd_r168c4_4 : kd_run1 kd_ty kd_x168 5 (kd_call kd_ty kd_xt (kd_ctl kd_C168c4) 600 0) kd_T168c4.2.2 600 kd_S168c4 kd_S168c4_4 = true := by decide +kernel
theorem kd_r168c4_5 : kd_run1 kd_ty kd_x168 5 (kd_call kd_ty kd_xt (kd_ctl kd_C168c4) 600 0) kd_T168c4.2.2 600 kd_S168c4 kd_S168c4_5 = true := by decide +kernel
theorem kd_h168c4 {g : kc_G} (hg : kc_ok g) : kd_hold g 1 kd_ty 168 kd_T168c4 := kd_mk (d0 := 0) (di := 0) hg kd_xk168 rfl rfl rfl rfl (kd_al_r kd_C168c4 trivial) (by decide) (by decide +kernel) kd_e168c4 (kd_al_r kd_S168c4 ⟨kd_r168c4_0, kd_r168c4_1, kd_r168c4_2, kd_r168c4_3, kd_r168c4_4, kd_r168c4_5, trivial⟩)
def kd_P168c5 : List kd_P := [(some (2, 0, 18446744073709551615), [], [])]
def kd_T168c5 : kd_Tc := ([(2, 0, 18446744073709551615), (3, 5, 5), (0, 2147483648, 2147483653)], [], kd_P168c5)
def kd_C168c5 : List (Nat × kd_Tc) := []
def kd_S168c5_0 : kd_St := (3, [(2147483648, 2147483653)], 1, [(2, 0, 18446744073709551615), (9, 0, 0), (3, 5, 5), (1, 0, 2147483648), (0, 2147483648, 2147483648)], [], [], [(0, (0, 4, 4)), (0, (0, 2147483648, 2147483648))])
def kd_S168c5_1 : kd_St := (3, [(2147483649, 2147483653)], 1, [(2, 0, 18446744073709551615), (9, 0, 0), (3, 5, 5), (1, 0, 2147483648), (0, 2147483649, 2147483649)], [], [], [(0, (0, 4, 4)), (0, (0, 2147483649, 2147483649))])
def kd_S168c5_2 : kd_St := (3, [(2147483650, 2147483653)], 1, [(2, 0, 18446744073709551615), (9, 0, 0), (3, 5, 5), (1, 0, 2147483648), (0, 2147483650, 2147483650)], [], [], [(0, (0, 4, 4)), (0, (0, 2147483650, 2147483650))])
def kd_S168c5_3 : kd_St := (3, [(2147483651, 2147483653)], 1, [(2, 0, 18446744073709551615), (9, 0, 0), (3, 5, 5), (1, 0, 2147483648), (0, 2147483651, 2147483651)], [], [], [(0, (0, 4, 4)), (0, (0, 2147483651, 2147483651))])
def kd_S168c5_4 : kd_St := (3, [(2147483652, 2147483653)], 1, [(2, 0, 18446744073709551615), (9, 0, 0), (3, 5, 5), (1, 0, 2147483648), (0, 2147483652, 2147483652)], [], [], [(0, (0, 4, 4)), (0, (0, 2147483652, 2147483652))])
def kd_S168c5_5 : kd_St := (3, [], 0, [(2, 0, 18446744073709551615), (9, 0, 0), (3, 5, 5), (0, 2147483653, 2147483653), (0, 2147483653, 2147483653)], [], [], [(0, (0, 4, 4)), (0, (0, 2147483653, 2147483653))])
def kd_S168c5 : List kd_St := [kd_S168c5_0, kd_S168c5_1, kd_S168c5_2, kd_S168c5_3, kd_S168c5_4, kd_S168c5_5]
theorem kd_e168c5 : kd_run0 kd_ty kd_x168 5 (kd_call kd_ty kd_xt (kd_ctl kd_C168c5) 600 0) kd_T168c5 600 kd_S168c5 = true := by decide +kernel
theorem kd_r168c5_0 : kd_run1 kd_ty kd_x168 5 (kd_call kd_ty kd_xt (kd_ctl kd_C168c5) 600 0) kd_T168c5.2.2 600 kd_S168c5 kd_S168c5_0 = true := by decide +kernel
theorem kd_r168c5_1 : kd_run1 kd_ty kd_x168 5 (kd_call kd_ty kd_xt (kd_ctl kd_C168c5) 600 0) kd_T168c5.2.2 600 kd_S168c5 kd_S168c5_1 = true := by decide +kernel
theorem kd_r168c5_2 : kd_run1 kd_ty kd_x168 5 (kd_call kd_ty kd_xt (kd_ctl kd_C168c5) 600 0) kd_T168c5.2.2 600 kd_S168c5 kd_S168c5_2 = true := by decide +kernel
theorem kd_r168c5_3 : kd_run1 kd_ty kd_x168 5 (kd_call kd_ty kd_xt (kd_ctl kd_C168c5) 600 0) kd_T168c5.2.2 600 kd_S168c5 kd_S168c5_3 = true := by decide +kernel
theorem kd_r168c5_4 : kd_run1 kd_ty kd_x168 5 (kd_call kd_ty kd_xt (kd_ctl kd_C168c5) 600 0) kd_T168c5.2.2 600 kd_S168c5 kd_S168c5_4 = true := by decide +kernel
theorem kd_r168c5_5 : kd_run1 kd_ty kd_x168 5 (kd_call kd_ty kd_xt (kd_ctl kd_C168c5) 600 0) kd_T168c5.2.2 600 kd_S168c5 kd_S168c5_5 = true := by decide +kernel
theorem kd_h168c5 {g : kc_G} (hg : kc_ok g) : kd_hold g 1 kd_ty 168 kd_T168c5 := kd_mk (d0 := 0) (di := 0) hg kd_xk168 rfl rfl rfl rfl (kd_al_r kd_C168c5 trivial) (by decide) (by decide +kernel) kd_e168c5 (kd_al_r kd_S168c5 ⟨kd_r168c5_0, kd_r168c5_1, kd_r168c5_2, kd_r168c5_3, kd_r168c5_4, kd_r168c5_5, trivial⟩)
def kd_P168c6 : List kd_P := [(some (2, 0, 18446744073709551615), [], [])]
def kd_T168c6 : kd_Tc := ([(2, 0, 18446744073709551615), (3, 6, 6), (0, 2147483648, 2147483653)], [], kd_P168c6)
def kd_C168c6 : List (Nat × kd_Tc) := []
def kd_S168c6_0 : kd_St := (3, [(2147483648, 2147483653)], 1, [(2, 0, 18446744073709551615), (9, 0, 0), (3, 6, 6), (1, 0, 2147483648), (0, 2147483648, 2147483648)], [], [], [(0, (0, 4, 4)), (0, (0, 2147483648, 2147483648))])
def kd_S168c6_1 : kd_St := (3, [(2147483649, 2147483653)], 1, [(2, 0, 18446744073709551615), (9, 0, 0), (3, 6, 6), (1, 0, 2147483648), (0, 2147483649, 2147483649)], [], [], [(0, (0, 4, 4)), (0, (0, 2147483649, 2147483649))])
def kd_S168c6_2 : kd_St := (3, [(2147483650, 2147483653)], 1, [(2, 0, 18446744073709551615), (9, 0, 0), (3, 6, 6), (1, 0, 2147483648), (0, 2147483650, 2147483650)], [], [], [(0, (0, 4, 4)), (0, (0, 2147483650, 2147483650))])
def kd_S168c6_3 : kd_St := (3, [(2147483651, 2147483653)], 1, [(2, 0, 18446744073709551615), (9, 0, 0), (3, 6, 6), (1, 0, 2147483648), (0, 2147483651, 2147483651)], [], [], [(0, (0, 4, 4)), (0, (0, 2147483651, 2147483651))])
def kd_S168c6_4 : kd_St := (3, [(2147483652, 2147483653)], 1, [(2, 0, 18446744073709551615), (9, 0, 0), (3, 6, 6), (1, 0, 2147483648), (0, 2147483652, 2147483652)], [], [], [(0, (0, 4, 4)), (0, (0, 2147483652, 2147483652))])
def kd_S168c6_5 : kd_St := (3, [], 0, [(2, 0, 18446744073709551615), (9, 0, 0), (3, 6, 6), (0, 2147483653, 2147483653), (0, 2147483653, 2147483653)], [], [], [(0, (0, 4, 4)), (0, (0, 2147483653, 2147483653))])
def kd_S168c6 : List kd_St := [kd_S168c6_0, kd_S168c6_1, kd_S168c6_2, kd_S168c6_3, kd_S168c6_4, kd_S168c6_5]
theorem kd_e168c6 : kd_run0 kd_ty kd_x168 5 (kd_call kd_ty kd_xt (kd_ctl kd_C168c6) 600 0) kd_T168c6 600 kd_S168c6 = true := by decide +kernel
theorem kd_r168c6_0 : kd_run1 kd_ty kd_x168 5 (kd_call kd_ty kd_xt (kd_ctl kd_C168c6) 600 0) kd_T168c6.2.2 600 kd_S168c6 kd_S168c6_0 = true := by decide +kernel
theorem kd_r168c6_1 : kd_run1 kd_ty kd_x168 5 (kd_call kd_ty kd_xt (kd_ctl kd_C168c6) 600 0) kd_T168c6.2.2 600 kd_S168c6 kd_S168c6_1 = true := by decide +kernel
theorem kd_r168c6_2 : kd_run1 kd_ty kd_x168 5 (kd_call kd_ty kd_xt (kd_ctl kd_C168c6) 600 0) kd_T168c6.2.2 600 kd_S168c6 kd_S168c6_2 = true := by decide +kernel
theorem kd_r168c6_3 : kd_run1 kd_ty kd_x168 5 (kd_call kd_ty kd_xt (kd_ctl kd_C168c6) 600 0) kd_T168c6.2.2 600 kd_S168c6 kd_S168c6_3 = true := by decide +kernel
theorem kd_r168c6_4 : kd_run1 kd_ty kd_x168 5 (kd_call kd_ty kd_xt (kd_ctl kd_C168c6) 600 0) kd_T168c6.2.2 600 kd_S168c6 kd_S168c6_4 = true := by decide +kernel
theorem kd_r168c6_5 : kd_run1 kd_ty kd_x168 5 (kd_call kd_ty kd_xt (kd_ctl kd_C168c6) 600 0) kd_T168c6.2.2 600 kd_S168c6 kd_S168c6_5 = true := by decide +kernel
theorem kd_h168c6 {g : kc_G} (hg : kc_ok g) : kd_hold g 1 kd_ty 168 kd_T168c6 := kd_mk (d0 := 0) (di := 0) hg kd_xk168 rfl rfl rfl rfl (kd_al_r kd_C168c6 trivial) (by decide) (by decide +kernel) kd_e168c6 (kd_al_r kd_S168c6 ⟨kd_r168c6_0, kd_r168c6_1, kd_r168c6_2, kd_r168c6_3, kd_r168c6_4, kd_r168c6_5, trivial⟩)
def kd_P168c7 : List kd_P := [(some (2, 0, 18446744073709551615), [], [])]
def kd_T168c7 : kd_Tc := ([(2, 0, 18446744073709551615), (3, 7, 7), (0, 2147483648, 2147483653)], [], kd_P168c7)
def kd_C168c7 : List (Nat × kd_Tc) := []
def kd_S168c7_0 : kd_St := (3, [(2147483648, 2147483653)], 1, [(2, 0, 18446744073709551615), (9, 0, 0), (3, 7, 7), (1, 0, 2147483648), (0, 2147483648, 2147483648)], [], [], [(0, (0, 4, 4)), (0, (0, 2147483648, 2147483648))])
def kd_S168c7_1 : kd_St := (3, [(2147483649, 2147483653)], 1, [(2, 0, 18446744073709551615), (9, 0, 0), (3, 7, 7), (1, 0, 2147483648), (0, 2147483649, 2147483649)], [], [], [(0, (0, 4, 4)), (0, (0, 2147483649, 2147483649))])
def kd_S168c7_2 : kd_St := (3, [(2147483650, 2147483653)], 1, [(2, 0, 18446744073709551615), (9, 0, 0), (3, 7, 7), (1, 0, 2147483648), (0, 2147483650, 2147483650)], [], [], [(0, (0, 4, 4)), (0, (0, 2147483650, 2147483650))])
def kd_S168c7_3 : kd_St := (3, [(2147483651, 2147483653)], 1, [(2, 0, 18446744073709551615), (9, 0, 0), (3, 7, 7), (1, 0, 2147483648), (0, 2147483651, 2147483651)], [], [], [(0, (0, 4, 4)), (0, (0, 2147483651, 2147483651))])
def kd_S168c7_4 : kd_St := (3, [(2147483652, 2147483653)], 1, [(2, 0, 18446744073709551615), (9, 0, 0), (3, 7, 7), (1, 0, 2147483648), (0, 2147483652, 2147483652)], [], [], [(0, (0, 4, 4)), (0, (0, 2147483652, 2147483652))])
def kd_S168c7_5 : kd_St := (3, [], 0, [(2, 0, 18446744073709551615), (9, 0, 0), (3, 7, 7), (0, 2147483653, 2147483653), (0, 2147483653, 2147483653)], [], [], [(0, (0, 4, 4)), (0, (0, 2147483653, 2147483653))])
def kd_S168c7 : List kd_St := [kd_S168c7_0, kd_S168c7_1, kd_S168c7_2, kd_S168c7_3, kd_S168c7_4, kd_S168c7_5]
theorem kd_e168c7 : kd_run0 kd_ty kd_x168 5 (kd_call kd_ty kd_xt (kd_ctl kd_C168c7) 600 0) kd_T168c7 600 kd_S168c7 = true := by decide +kernel
theorem kd_r168c7_0 : kd_run1 kd_ty kd_x168 5 (kd_call kd_ty kd_xt (kd_ctl kd_C168c7) 600 0) kd_T168c7.2.2 600 kd_S168c7 kd_S168c7_0 = true := by decide +kernel
theorem kd_r168c7_1 : kd_run1 kd_ty kd_x168 5 (kd_call kd_ty kd_xt (kd_ctl kd_C168c7) 600 0) kd_T168c7.2.2 600 kd_S168c7 kd_S168c7_1 = true := by decide +kernel
theorem kd_r168c7_2 : kd_run1 kd_ty kd_x168 5 (kd_call kd_ty kd_xt (kd_ctl kd_C168c7) 600 0) kd_T168c7.2.2 600 kd_S168c7 kd_S168c7_2 = true := by decide +kernel
theorem kd_r168c7_3 : kd_run1 kd_ty kd_x168 5 (kd_call kd_ty kd_xt (kd_ctl kd_C168c7) 600 0) kd_T168c7.2.2 600 kd_S168c7 kd_S168c7_3 = true := by decide +kernel
theorem kd_r168c7_4 : kd_run1 kd_ty kd_x168 5 (kd_call kd_ty kd_xt (kd_ctl kd_C168c7) 600 0) kd_T168c7.2.2 600 kd_S168c7 kd_S168c7_4 = true := by decide +kernel
theorem kd_r168c7_5 : kd_run1 kd_ty kd_x168 5 (kd_call kd_ty kd_xt (kd_ctl kd_C168c7) 600 0) kd_T168c7.2.2 600 kd_S168c7 kd_S168c7_5 = true := by decide +kernel
theorem kd_h168c7 {g : kc_G} (hg : kc_ok g) : kd_hold g 1 kd_ty 168 kd_T168c7 := kd_mk (d0 := 0) (di := 0) hg kd_xk168 rfl rfl rfl rfl (kd_al_r kd_C168c7 trivial) (by decide) (by decide +kernel) kd_e168c7 (kd_al_r kd_S168c7 ⟨kd_r168c7_0, kd_r168c7_1, kd_r168c7_2, kd_r168c7_3, kd_r168c7_4, kd_r168c7_5, trivial⟩)
def kd_P168c8 : List kd_P := [(some (2, 0, 18446744073709551615), [], [])]
def kd_T168c8 : kd_Tc := ([(2, 0, 18446744073709551615), (3, 8, 8), (0, 2147483648, 2147483653)], [], kd_P168c8)
def kd_C168c8 : List (Nat × kd_Tc) := []
def kd_S168c8_0 : kd_St := (3, [(2147483648, 2147483653)], 1, [(2, 0, 18446744073709551615), (9, 0, 0), (3, 8, 8), (1, 0, 2147483648), (0, 2147483648, 2147483648)], [], [], [(0, (0, 4, 4)), (0, (0, 2147483648, 2147483648))])
def kd_S168c8_1 : kd_St := (3, [(2147483649, 2147483653)], 1, [(2, 0, 18446744073709551615), (9, 0, 0), (3, 8, 8), (1, 0, 2147483648), (0, 2147483649, 2147483649)], [], [], [(0, (0, 4, 4)), (0, (0, 2147483649, 2147483649))])
def kd_S168c8_2 : kd_St := (3, [(2147483650, 2147483653)], 1, [(2, 0, 18446744073709551615), (9, 0, 0), (3, 8, 8), (1, 0, 2147483648), (0, 2147483650, 2147483650)], [], [], [(0, (0, 4, 4)), (0, (0, 2147483650, 2147483650))])
def kd_S168c8_3 : kd_St := (3, [(2147483651, 2147483653)], 1, [(2, 0, 18446744073709551615), (9, 0, 0), (3, 8, 8), (1, 0, 2147483648), (0, 2147483651, 2147483651)], [], [], [(0, (0, 4, 4)), (0, (0, 2147483651, 2147483651))])
def kd_S168c8_4 : kd_St := (3, [(2147483652, 2147483653)], 1, [(2, 0, 18446744073709551615), (9, 0, 0), (3, 8, 8), (1, 0, 2147483648), (0, 2147483652, 2147483652)], [], [], [(0, (0, 4, 4)), (0, (0, 2147483652, 2147483652))])
def kd_S168c8_5 : kd_St := (3, [], 0, [(2, 0, 18446744073709551615), (9, 0, 0), (3, 8, 8), (0, 2147483653, 2147483653), (0, 2147483653, 2147483653)], [], [], [(0, (0, 4, 4)), (0, (0, 2147483653, 2147483653))])
def kd_S168c8 : List kd_St := [kd_S168c8_0, kd_S168c8_1, kd_S168c8_2, kd_S168c8_3, kd_S168c8_4, kd_S168c8_5]
theorem kd_e168c8 : kd_run0 kd_ty kd_x168 5 (kd_call kd_ty kd_xt (kd_ctl kd_C168c8) 600 0) kd_T168c8 600 kd_S168c8 = true := by decide +kernel
theorem kd_r168c8_0 : kd_run1 kd_ty kd_x168 5 (kd_call kd_ty kd_xt (kd_ctl kd_C168c8) 600 0) kd_T168c8.2.2 600 kd_S168c8 kd_S168c8_0 = true := by decide +kernel
theorem kd_r168c8_1 : kd_run1 kd_ty kd_x168 5 (kd_call kd_ty kd_xt (kd_ctl kd_C168c8) 600 0) kd_T168c8.2.2 600 kd_S168c8 kd_S168c8_1 = true := by decide +kernel
theorem kd_r168c8_2 : kd_run1 kd_ty kd_x168 5 (kd_call kd_ty kd_xt (kd_ctl kd_C168c8) 600 0) kd_T168c8.2.2 600 kd_S168c8 kd_S168c8_2 = true := by decide +kernel
theorem kd_r168c8_3 : kd_run1 kd_ty kd_x168 5 (kd_call kd_ty kd_xt (kd_ctl kd_C168c8) 600 0) kd_T168c8.2.2 600 kd_S168c8 kd_S168c8_3 = true := by decide +kernel
theorem kd_r168c8_4 : kd_run1 kd_ty kd_x168 5 (kd_call kd_ty kd_xt (kd_ctl kd_C168c8) 600 0) kd_T168c8.2.2 600 kd_S168c8 kd_S168c8_4 = true := by decide +kernel
theorem kd_r168c8_5 : kd_run1 kd_ty kd_x168 5 (kd_call kd_ty kd_xt (kd_ctl kd_C168c8) 600 0) kd_T168c8.2.2 600 kd_S168c8 kd_S168c8_5 = true := by decide +kernel
theorem kd_h168c8 {g : kc_G} (hg : kc_ok g) : kd_hold g 1 kd_ty 168 kd_T168c8 := kd_mk (d0 := 0) (di := 0) hg kd_xk168 rfl rfl rfl rfl (kd_al_r kd_C168c8 trivial) (by decide) (by decide +kernel) kd_e168c8 (kd_al_r kd_S168c8 ⟨kd_r168c8_0, kd_r168c8_1, kd_r168c8_2, kd_r168c8_3, kd_r168c8_4, kd_r168c8_5, trivial⟩)
def kd_P168c12 : List kd_P := [(some (2, 0, 18446744073709551615), [], [])]
def kd_T168c12 : kd_Tc := ([(2, 0, 18446744073709551615), (3, 12, 12), (0, 2147483648, 2147483653)], [], kd_P168c12)
def kd_C168c12 : List (Nat × kd_Tc) := []
def kd_S168c12_0 : kd_St := (3, [(2147483648, 2147483653)], 1, [(2, 0, 18446744073709551615), (9, 0, 0), (3, 12, 12), (1, 0, 2147483648), (0, 2147483648, 2147483648)], [], [], [(0, (0, 4, 4)), (0, (0, 2147483648, 2147483648))])
def kd_S168c12_1 : kd_St := (3, [(2147483649, 2147483653)], 1, [(2, 0, 18446744073709551615), (9, 0, 0), (3, 12, 12), (1, 0, 2147483648), (0, 2147483649, 2147483649)], [], [], [(0, (0, 4, 4)), (0, (0, 2147483649, 2147483649))])
def kd_S168c12_2 : kd_St := (3, [(2147483650, 2147483653)], 1, [(2, 0, 18446744073709551615), (9, 0, 0), (3, 12, 12), (1, 0, 2147483648), (0, 2147483650, 2147483650)], [], [], [(0, (0, 4, 4)), (0, (0, 2147483650, 2147483650))])
def kd_S168c12_3 : kd_St := (3, [(2147483651, 2147483653)], 1, [(2, 0, 18446744073709551615), (9, 0, 0), (3, 12, 12), (1, 0, 2147483648), (0, 2147483651, 2147483651)], [], [], [(0, (0, 4, 4)), (0, (0, 2147483651, 2147483651))])
def kd_S168c12_4 : kd_St := (3, [(2147483652, 2147483653)], 1, [(2, 0, 18446744073709551615), (9, 0, 0), (3, 12, 12), (1, 0, 2147483648), (0, 2147483652, 2147483652)], [], [], [(0, (0, 4, 4)), (0, (0, 2147483652, 2147483652))])
def kd_S168c12_5 : kd_St := (3, [], 0, [(2, 0, 18446744073709551615), (9, 0, 0), (3, 12, 12), (0, 2147483653, 2147483653), (0, 2147483653, 2147483653)], [], [], [(0, (0, 4, 4)), (0, (0, 2147483653, 2147483653))])
def kd_S168c12 : List kd_St := [kd_S168c12_0, kd_S168c12_1, kd_S168c12_2, kd_S168c12_3, kd_S168c12_4, kd_S168c12_5]
theorem kd_e168c12 : kd_run0 kd_ty kd_x168 5 (kd_call kd_ty kd_xt (kd_ctl kd_C168c12) 600 0) kd_T168c12 600 kd_S168c12 = true := by decide +kernel
theorem kd_r168c12_0 : kd_run1 kd_ty kd_x168 5 (kd_call kd_ty kd_xt (kd_ctl kd_C168c12) 600 0) kd_T168c12.2.2 600 kd_S168c12 kd_S168c12_0 = true := by decide +kernel
theorem kd_r168c12_1 : kd_run1 kd_ty kd_x168 5 (kd_call kd_ty kd_xt (kd_ctl kd_C168c12) 600 0) kd_T168c12.2.2 600 kd_S168c12 kd_S168c12_1 = true := by decide +kernel
theorem kd_r168c12_2 : kd_run1 kd_ty kd_x168 5 (kd_call kd_ty kd_xt (kd_ctl kd_C168c12) 600 0) kd_T168c12.2.2 600 kd_S168c12 kd_S168c12_2 = true := by decide +kernel
theorem kd_r168c12_3 : kd_run1 kd_ty kd_x168 5 (kd_call kd_ty kd_xt (kd_ctl kd_C168c12) 600 0) kd_T168c12.2.2 600 kd_S168c12 kd_S168c12_3 = true := by decide +kernel
theorem kd_r168c12_4 : kd_run1 kd_ty kd_x168 5 (kd_call kd_ty kd_xt (kd_ctl kd_C168c12) 600 0) kd_T168c12.2.2 600 kd_S168c12 kd_S168c12_4 = true := by decide +kernel
theorem kd_r168c12_5 : kd_run1 kd_ty kd_x168 5 (kd_call kd_ty kd_xt (kd_ctl kd_C168c12) 600 0) kd_T168c12.2.2 600 kd_S168c12 kd_S168c12_5 = true := by decide +kernel
theorem kd_h168c12 {g : kc_G} (hg : kc_ok g) : kd_hold g 1 kd_ty 168 kd_T168c12 := kd_mk (d0 := 0) (di := 0) hg kd_xk168 rfl rfl rfl rfl (kd_al_r kd_C168c12 trivial) (by decide) (by decide +kernel) kd_e168c12 (kd_al_r kd_S168c12 ⟨kd_r168c12_0, kd_r168c12_1, kd_r168c12_2, kd_r168c12_3, kd_r168c12_4, kd_r168c12_5, trivial⟩)
def kd_P168c13 : List kd_P := [(some (2, 0, 18446744073709551615), [], [])]
def kd_T168c13 : kd_Tc := ([(2, 0, 18446744073709551615), (3, 13, 13), (0, 2147483648, 2147483653)], [], kd_P168c13)
def kd_C168c13 : List (Nat × kd_Tc) := []
def kd_S168c13_0 : kd_St := (3, [(2147483648, 2147483653)], 1, [(2, 0, 18446744073709551615), (9, 0, 0), (3, 13, 13), (1, 0, 2147483648), (0, 2147483648, 2147483648)], [], [], [(0, (0, 4, 4)), (0, (0, 2147483648, 2147483648))])
def kd_S168c13_1 : kd_St := (3, [(2147483649, 2147483653)], 1, [(2, 0, 18446744073709551615), (9, 0, 0), (3, 13, 13), (1, 0, 2147483648), (0, 2147483649, 2147483649)], [], [], [(0, (0, 4, 4)), (0, (0, 2147483649, 2147483649))])
def kd_S168c13_2 : kd_St := (3, [(2147483650, 2147483653)], 1, [(2, 0, 18446744073709551615), (9, 0, 0), (3, 13, 13), (1, 0, 2147483648), (0, 2147483650, 2147483650)], [], [], [(0, (0, 4, 4)), (0, (0, 2147483650, 2147483650))])
def kd_S168c13_3 : kd_St := (3, [(2147483651, 2147483653)], 1, [(2, 0, 18446744073709551615), (9, 0, 0), (3, 13, 13), (1, 0, 2147483648), (0, 2147483651, 2147483651)], [], [], [(0, (0, 4, 4)), (0, (0, 2147483651, 2147483651))])
def kd_S168c13_4 : kd_St := (3, [(2147483652, 2147483653)], 1, [(2, 0, 18446744073709551615), (9, 0, 0), (3, 13, 13), (1, 0, 2147483648), (0, 2147483652, 2147483652)], [], [], [(0, (0, 4, 4)), (0, (0, 2147483652, 2147483652))])
def kd_S168c13_5 : kd_St := (3, [], 0, [(2, 0, 18446744073709551615), (9, 0, 0), (3, 13, 13), (0, 2147483653, 2147483653), (0, 2147483653, 2147483653)], [], [], [(0, (0, 4, 4)), (0, (0, 2147483653, 2147483653))])
def kd_S168c13 : List kd_St := [kd_S168c13_0, kd_S168c13_1, kd_S168c13_2, kd_S168c13_3, kd_S168c13_4, kd_S168c13_5]
theorem kd_e168c13 : kd_run0 kd_ty kd_x168 5 (kd_call kd_ty kd_xt (kd_ctl kd_C168c13) 600 0) kd_T168c13 600 kd_S168c13 = true := by decide +kernel
theorem kd_r168c13_0 : kd_run1 kd_ty kd_x168 5 (kd_call kd_ty kd_xt (kd_ctl kd_C168c13) 600 0) kd_T168c13.2.2 600 kd_S168c13 kd_S168c13_0 = true := by decide +kernel
theorem kd_r168c13_1 : kd_run1 kd_ty kd_x168 5 (kd_call kd_ty kd_xt (kd_ctl kd_C168c13) 600 0) kd_T168c13.2.2 600 kd_S168c13 kd_S168c13_1 = true := by decide +kernel
theorem kd_r168c13_2 : kd_run1 kd_ty kd_x168 5 (kd_call kd_ty kd_xt (kd_ctl kd_C168c13) 600 0) kd_T168c13.2.2 600 kd_S168c13 kd_S168c13_2 = true := by decide +kernel
theorem kd_r168c13_3 : kd_run1 kd_ty kd_x168 5 (kd_call kd_ty kd_xt (kd_ctl kd_C168c13) 600 0) kd_T168c13.2.2 600 kd_S168c13 kd_S168c13_3 = true := by decide +kernel
theorem kd_r168c13_4 : kd_run1 kd_ty kd_x168 5 (kd_call kd_ty kd_xt (kd_ctl kd_C168c13) 600 0) kd_T168c13.2.2 600 kd_S168c13 kd_S168c13_4 = true := by decide +kernel
theorem kd_r168c13_5 : kd_run1 kd_ty kd_x168 5 (kd_call kd_ty kd_xt (kd_ctl kd_C168c13) 600 0) kd_T168c13.2.2 600 kd_S168c13 kd_S168c13_5 = true := by decide +kernel
theorem kd_h168c13 {g : kc_G} (hg : kc_ok g) : kd_hold g 1 kd_ty 168 kd_T168c13 := kd_mk (d0 := 0) (di := 0) hg kd_xk168 rfl rfl rfl rfl (kd_al_r kd_C168c13 trivial) (by decide) (by decide +kernel) kd_e168c13 (kd_al_r kd_S168c13 ⟨kd_r168c13_0, kd_r168c13_1, kd_r168c13_2, kd_r168c13_3, kd_r168c13_4, kd_r168c13_5, trivial⟩)
def kd_P168c14 : List kd_P := [(some (2, 0, 18446744073709551615), [], [])]
def kd_T168c14 : kd_Tc := ([(2, 0, 18446744073709551615), (3, 14, 14), (0, 2147483648, 2147483653)], [], kd_P168c14)
def kd_C168c14 : List (Nat × kd_Tc) := []
def kd_S168c14_0 : kd_St := (3, [(2147483648, 2147483653)], 1, [(2, 0, 18446744073709551615), (9, 0, 0), (3, 14, 14), (1, 0, 2147483648), (0, 2147483648, 2147483648)], [], [], [(0, (0, 4, 4)), (0, (0, 2147483648, 2147483648))])
def kd_S168c14_1 : kd_St := (3, [(2147483649, 2147483653)], 1, [(2, 0, 18446744073709551615), (9, 0, 0), (3, 14, 14), (1, 0, 2147483648), (0, 2147483649, 2147483649)], [], [], [(0, (0, 4, 4)), (0, (0, 2147483649, 2147483649))])
def kd_S168c14_2 : kd_St := (3, [(2147483650, 2147483653)], 1, [(2, 0, 18446744073709551615), (9, 0, 0), (3, 14, 14), (1, 0, 2147483648), (0, 2147483650, 2147483650)], [], [], [(0, (0, 4, 4)), (0, (0, 2147483650, 2147483650))])
def kd_S168c14_3 : kd_St := (3, [(2147483651, 2147483653)], 1, [(2, 0, 18446744073709551615), (9, 0, 0), (3, 14, 14), (1, 0, 2147483648), (0, 2147483651, 2147483651)], [], [], [(0, (0, 4, 4)), (0, (0, 2147483651, 2147483651))])
def kd_S168c14_4 : kd_St := (3, [(2147483652, 2147483653)], 1, [(2, 0, 18446744073709551615), (9, 0, 0), (3, 14, 14), (1, 0, 2147483648), (0, 2147483652, 2147483652)], [], [], [(0, (0, 4, 4)), (0, (0, 2147483652, 2147483652))])
def kd_S168c14_5 : kd_St := (3, [], 0, [(2, 0, 18446744073709551615), (9, 0, 0), (3, 14, 14), (0, 2147483653, 2147483653), (0, 2147483653, 2147483653)], [], [], [(0, (0, 4, 4)), (0, (0, 2147483653, 2147483653))])
def kd_S168c14 : List kd_St := [kd_S168c14_0, kd_S168c14_1, kd_S168c14_2, kd_S168c14_3, kd_S168c14_4, kd_S168c14_5]
theorem kd_e168c14 : kd_run0 kd_ty kd_x168 5 (kd_call kd_ty kd_xt (kd_ctl kd_C168c14) 600 0) kd_T168c14 600 kd_S168c14 = true := by decide +kernel
theorem kd_r168c14_0 : kd_run1 kd_ty kd_x168 5 (kd_call kd_ty kd_xt (kd_ctl kd_C168c14) 600 0) kd_T168c14.2.2 600 kd_S168c14 kd_S168c14_0 = true := by decide +kernel
theorem kd_r168c14_1 : kd_run1 kd_ty kd_x168 5 (kd_call kd_ty kd_xt (kd_ctl kd_C168c14) 600 0) kd_T168c14.2.2 600 kd_S168c14 kd_S168c14_1 = true := by decide +kernel
theorem kd_r168c14_2 : kd_run1 kd_ty kd_x168 5 (kd_call kd_ty kd_xt (kd_ctl kd_C168c14) 600 0) kd_T168c14.2.2 600 kd_S168c14 kd_S168c14_2 = true := by decide +kernel
theorem kd_r168c14_3 : kd_run1 kd_ty kd_x168 5 (kd_call kd_ty kd_xt (kd_ctl kd_C168c14) 600 0) kd_T168c14.2.2 600 kd_S168c14 kd_S168c14_3 = true := by decide +kernel
theorem kd_r168c14_4 : kd_run1 kd_ty kd_x168 5 (kd_call kd_ty kd_xt (kd_ctl kd_C168c14) 600 0) kd_T168c14.2.2 600 kd_S168c14 kd_S168c14_4 = true := by decide +kernel
theorem kd_r168c14_5 : kd_run1 kd_ty kd_x168 5 (kd_call kd_ty kd_xt (kd_ctl kd_C168c14) 600 0) kd_T168c14.2.2 600 kd_S168c14 kd_S168c14_5 = true := by decide +kernel
theorem kd_h168c14 {g : kc_G} (hg : kc_ok g) : kd_hold g 1 kd_ty 168 kd_T168c14 := kd_mk (d0 := 0) (di := 0) hg kd_xk168 rfl rfl rfl rfl (kd_al_r kd_C168c14 trivial) (by decide) (by decide +kernel) kd_e168c14 (kd_al_r kd_S168c14 ⟨kd_r168c14_0, kd_r168c14_1, kd_r168c14_2, kd_r168c14_3, kd_r168c14_4, kd_r168c14_5, trivial⟩)
def kd_P168c16 : List kd_P := [(some (2, 0, 18446744073709551615), [], [])]
def kd_T168c16 : kd_Tc := ([(2, 0, 18446744073709551615), (3, 16, 16), (0, 2147483648, 2147483655)], [], kd_P168c16)
def kd_C168c16 : List (Nat × kd_Tc) := []
def kd_S168c16_0 : kd_St := (3, [(2147483648, 2147483655)], 1, [(2, 0, 18446744073709551615), (9, 0, 0), (3, 16, 16), (1, 0, 2147483648), (0, 2147483648, 2147483648)], [], [], [(0, (0, 4, 4)), (0, (0, 2147483648, 2147483648))])
def kd_S168c16_1 : kd_St := (3, [(2147483649, 2147483655)], 1, [(2, 0, 18446744073709551615), (9, 0, 0), (3, 16, 16), (1, 0, 2147483648), (0, 2147483649, 2147483649)], [], [], [(0, (0, 4, 4)), (0, (0, 2147483649, 2147483649))])
def kd_S168c16_2 : kd_St := (3, [(2147483650, 2147483655)], 1, [(2, 0, 18446744073709551615), (9, 0, 0), (3, 16, 16), (1, 0, 2147483648), (0, 2147483650, 2147483650)], [], [], [(0, (0, 4, 4)), (0, (0, 2147483650, 2147483650))])
def kd_S168c16_3 : kd_St := (3, [(2147483651, 2147483655)], 1, [(2, 0, 18446744073709551615), (9, 0, 0), (3, 16, 16), (1, 0, 2147483648), (0, 2147483651, 2147483651)], [], [], [(0, (0, 4, 4)), (0, (0, 2147483651, 2147483651))])
def kd_S168c16_4 : kd_St := (3, [(2147483652, 2147483655)], 1, [(2, 0, 18446744073709551615), (9, 0, 0), (3, 16, 16), (1, 0, 2147483648), (0, 2147483652, 2147483652)], [], [], [(0, (0, 4, 4)), (0, (0, 2147483652, 2147483652))])
def kd_S168c16_5 : kd_St := (3, [(2147483653, 2147483655)], 1, [(2, 0, 18446744073709551615), (9, 0, 0), (3, 16, 16), (1, 0, 2147483648), (0, 2147483653, 2147483653)], [], [], [(0, (0, 4, 4)), (0, (0, 2147483653, 2147483653))])
def kd_S168c16_6 : kd_St := (3, [(2147483654, 2147483655)], 1, [(2, 0, 18446744073709551615), (9, 0, 0), (3, 16, 16), (1, 0, 2147483648), (0, 2147483654, 2147483654)], [], [], [(0, (0, 4, 4)), (0, (0, 2147483654, 2147483654))])
def kd_S168c16_7 : kd_St := (3, [], 0, [(2, 0, 18446744073709551615), (9, 0, 0), (3, 16, 16), (0, 2147483655, 2147483655), (0, 2147483655, 2147483655)], [], [], [(0, (0, 4, 4)), (0, (0, 2147483655, 2147483655))])
def kd_S168c16 : List kd_St := [kd_S168c16_0, kd_S168c16_1, kd_S168c16_2, kd_S168c16_3, kd_S168c16_4, kd_S168c16_5, kd_S168c16_6, kd_S168c16_7]
theorem kd_e168c16 : kd_run0 kd_ty kd_x168 5 (kd_call kd_ty kd_xt (kd_ctl kd_C168c16) 600 0) kd_T168c16 600 kd_S168c16 = true := by decide +kernel
theorem kd_r168c16_0 : kd_run1 kd_ty kd_x168 5 (kd_call kd_ty kd_xt (kd_ctl kd_C168c16) 600 0) kd_T168c16.2.2 600 kd_S168c16 kd_S168c16_0 = true := by decide +kernel
theorem kd_r168c16_1 : kd_run1 kd_ty kd_x168 5 (kd_call kd_ty kd_xt (kd_ctl kd_C168c16) 600 0) kd_T168c16.2.2 600 kd_S168c16 kd_S168c16_1 = true := by decide +kernel
theorem kd_r168c16_2 : kd_run1 kd_ty kd_x168 5 (kd_call kd_ty kd_xt (kd_ctl kd_C168c16) 600 0) kd_T168c16.2.2 600 kd_S168c16 kd_S168c16_2 = true := by decide +kernel
theorem kd_r168c16_3 : kd_run1 kd_ty kd_x168 5 (kd_call kd_ty kd_xt (kd_ctl kd_C168c16) 600 0) kd_T168c16.2.2 600 kd_S168c16 kd_S168c16_3 = true := by decide +kernel
theorem kd_r168c16_4 : kd_run1 kd_ty kd_x168 5 (kd_call kd_ty kd_xt (kd_ctl kd_C168c16) 600 0) kd_T168c16.2.2 600 kd_S168c16 kd_S168c16_4 = true := by decide +kernel
theorem kd_r168c16_5 : kd_run1 kd_ty kd_x168 5 (kd_call kd_ty kd_xt (kd_ctl kd_C168c16) 600 0) kd_T168c16.2.2 600 kd_S168c16 kd_S168c16_5 = true := by decide +kernel
theorem kd_r168c16_6 : kd_run1 kd_ty kd_x168 5 (kd_call kd_ty kd_xt (kd_ctl kd_C168c16) 600 0) kd_T168c16.2.2 600 kd_S168c16 kd_S168c16_6 = true := by decide +kernel
theorem kd_r168c16_7 : kd_run1 kd_ty kd_x168 5 (kd_call kd_ty kd_xt (kd_ctl kd_C168c16) 600 0) kd_T168c16.2.2 600 kd_S168c16 kd_S168c16_7 = true := by decide +kernel
theorem kd_h168c16 {g : kc_G} (hg : kc_ok g) : kd_hold g 1 kd_ty 168 kd_T168c16 := kd_mk (d0 := 0) (di := 0) hg kd_xk168 rfl rfl rfl rfl (kd_al_r kd_C168c16 trivial) (by decide) (by decide +kernel) kd_e168c16 (kd_al_r kd_S168c16 ⟨kd_r168c16_0, kd_r168c16_1, kd_r168c16_2, kd_r168c16_3, kd_r168c16_4, kd_r168c16_5, kd_r168c16_6, kd_r168c16_7, trivial⟩)
def kd_P168c17 : List kd_P := [(some (2, 0, 18446744073709551615), [], [])]
def kd_T168c17 : kd_Tc := ([(2, 0, 18446744073709551615), (3, 17, 17), (0, 2147483648, 2147483655)], [], kd_P168c17)
def kd_C168c17 : List (Nat × kd_Tc) := []
def kd_S168c17_0 : kd_St := (3, [(2147483648, 2147483655)], 1, [(2, 0, 18446744073709551615), (9, 0, 0), (3, 17, 17), (1, 0, 2147483648), (0, 2147483648, 2147483648)], [], [], [(0, (0, 4, 4)), (0, (0, 2147483648, 2147483648))])
def kd_S168c17_1 : kd_St := (3, [(2147483649, 2147483655)], 1, [(2, 0, 18446744073709551615), (9, 0, 0), (3, 17, 17), (1, 0, 2147483648), (0, 2147483649, 2147483649)], [], [], [(0, (0, 4, 4)), (0, (0, 2147483649, 2147483649))])
def kd_S168c17_2 : kd_St := (3, [(2147483650, 2147483655)], 1, [(2, 0, 18446744073709551615), (9, 0, 0), (3, 17, 17), (1, 0, 2147483648), (0, 2147483650, 2147483650)], [], [], [(0, (0, 4, 4)), (0, (0, 2147483650, 2147483650))])
def kd_S168c17_3 : kd_St := (3, [(2147483651, 2147483655)], 1, [(2, 0, 18446744073709551615), (9, 0, 0), (3, 17, 17), (1, 0, 2147483648), (0, 2147483651, 2147483651)], [], [], [(0, (0, 4, 4)), (0, (0, 2147483651, 2147483651))])
def kd_S168c17_4 : kd_St := (3, [(2147483652, 2147483655)], 1, [(2, 0, 18446744073709551615), (9, 0, 0), (3, 17, 17), (1, 0, 2147483648), (0, 2147483652, 2147483652)], [], [], [(0, (0, 4, 4)), (0, (0, 2147483652, 2147483652))])
def kd_S168c17_5 : kd_St := (3, [(2147483653, 2147483655)], 1, [(2, 0, 18446744073709551615), (9, 0, 0), (3, 17, 17), (1, 0, 2147483648), (0, 2147483653, 2147483653)], [], [], [(0, (0, 4, 4)), (0, (0, 2147483653, 2147483653))])
def kd_S168c17_6 : kd_St := (3, [(2147483654, 2147483655)], 1, [(2, 0, 18446744073709551615), (9, 0, 0), (3, 17, 17), (1, 0, 2147483648), (0, 2147483654, 2147483654)], [], [], [(0, (0, 4, 4)), (0, (0, 2147483654, 2147483654))])
def kd_S168c17_7 : kd_St := (3, [], 0, [(2, 0, 18446744073709551615), (9, 0, 0), (3, 17, 17), (0, 2147483655, 2147483655), (0, 2147483655, 2147483655)], [], [], [(0, (0, 4, 4)), (0, (0, 2147483655, 2147483655))])
def kd_S168c17 : List kd_St := [kd_S168c17_0, kd_S168c17_1, kd_S168c17_2, kd_S168c17_3, kd_S168c17_4, kd_S168c17_5, kd_S168c17_6, kd_S168c17_7]
theorem kd_e168c17 : kd_run0 kd_ty kd_x168 5 (kd_call kd_ty kd_xt (kd_ctl kd_C168c17) 600 0) kd_T168c17 600 kd_S168c17 = true := by decide +kernel
theorem kd_r168c17_0 : kd_run1 kd_ty kd_x168 5 (kd_call kd_ty kd_xt (kd_ctl kd_C168c17) 600 0) kd_T168c17.2.2 600 kd_S168c17 kd_S168c17_0 = true := by decide +kernel
theorem kd_r168c17_1 : kd_run1 kd_ty kd_x168 5 (kd_call kd_ty kd_xt (kd_ctl kd_C168c17) 600 0) kd_T168c17.2.2 600 kd_S168c17 kd_S168c17_1 = true := by decide +kernel
theorem kd_r168c17_2 : kd_run1 kd_ty kd_x168 5 (kd_call kd_ty kd_xt (kd_ctl kd_C168c17) 600 0) kd_T168c17.2.2 600 kd_S168c17 kd_S168c17_2 = true := by decide +kernel
theorem kd_r168c17_3 : kd_run1 kd_ty kd_x168 5 (kd_call kd_ty kd_xt (kd_ctl kd_C168c17) 600 0) kd_T168c17.2.2 600 kd_S168c17 kd_S168c17_3 = true := by decide +kernel
theorem kd_r168c17_4 : kd_run1 kd_ty kd_x168 5 (kd_call kd_ty kd_xt (kd_ctl kd_C168c17) 600 0) kd_T168c17.2.2 600 kd_S168c17 kd_S168c17_4 = true := by decide +kernel
theorem kd_r168c17_5 : kd_run1 kd_ty kd_x168 5 (kd_call kd_ty kd_xt (kd_ctl kd_C168c17) 600 0) kd_T168c17.2.2 600 kd_S168c17 kd_S168c17_5 = true := by decide +kernel
theorem kd_r168c17_6 : kd_run1 kd_ty kd_x168 5 (kd_call kd_ty kd_xt (kd_ctl kd_C168c17) 600 0) kd_T168c17.2.2 600 kd_S168c17 kd_S168c17_6 = true := by decide +kernel
theorem kd_r168c17_7 : kd_run1 kd_ty kd_x168 5 (kd_call kd_ty kd_xt (kd_ctl kd_C168c17) 600 0) kd_T168c17.2.2 600 kd_S168c17 kd_S168c17_7 = true := by decide +kernel
theorem kd_h168c17 {g : kc_G} (hg : kc_ok g) : kd_hold g 1 kd_ty 168 kd_T168c17 := kd_mk (d0 := 0) (di := 0) hg kd_xk168 rfl rfl rfl rfl (kd_al_r kd_C168c17 trivial) (by decide) (by decide +kernel) kd_e168c17 (kd_al_r kd_S168c17 ⟨kd_r168c17_0, kd_r168c17_1, kd_r168c17_2, kd_r168c17_3, kd_r168c17_4, kd_r168c17_5, kd_r168c17_6, kd_r168c17_7, trivial⟩)
def kd_P168c18 : List kd_P := [(some (2, 0, 18446744073709551615), [], [])]
def kd_T168c18 : kd_Tc := ([(2, 0, 18446744073709551615), (3, 18, 18), (0, 2147483648, 2147483655)], [], kd_P168c18)
def kd_C168c18 : List (Nat × kd_Tc) := []
def kd_S168c18_0 : kd_St := (3, [(2147483648, 2147483655)], 1, [(2, 0, 18446744073709551615), (9, 0, 0), (3, 18, 18), (1, 0, 2147483648), (0, 2147483648, 2147483648)], [], [], [(0, (0, 4, 4)), (0, (0, 2147483648, 2147483648))])
def kd_S168c18_1 : kd_St := (3, [(2147483649, 2147483655)], 1, [(2, 0, 18446744073709551615), (9, 0, 0), (3, 18, 18), (1, 0, 2147483648), (0, 2147483649, 2147483649)], [], [], [(0, (0, 4, 4)), (0, (0, 2147483649, 2147483649))])
def kd_S168c18_2 : kd_St := (3, [(2147483650, 2147483655)], 1, [(2, 0, 18446744073709551615), (9, 0, 0), (3, 18, 18), (1, 0, 2147483648), (0, 2147483650, 2147483650)], [], [], [(0, (0, 4, 4)), (0, (0, 2147483650, 2147483650))])
def kd_S168c18_3 : kd_St := (3, [(2147483651, 2147483655)], 1, [(2, 0, 18446744073709551615), (9, 0, 0), (3, 18, 18), (1, 0, 2147483648), (0, 2147483651, 2147483651)], [], [], [(0, (0, 4, 4)), (0, (0, 2147483651, 2147483651))])
def kd_S168c18_4 : kd_St := (3, [(2147483652, 2147483655)], 1, [(2, 0, 18446744073709551615), (9, 0, 0), (3, 18, 18), (1, 0, 2147483648), (0, 2147483652, 2147483652)], [], [], [(0, (0, 4, 4)), (0, (0, 2147483652, 2147483652))])
def kd_S168c18_5 : kd_St := (3, [(2147483653, 2147483655)], 1, [(2, 0, 18446744073709551615), (9, 0, 0), (3, 18, 18), (1, 0, 2147483648), (0, 2147483653, 2147483653)], [], [], [(0, (0, 4, 4)), (0, (0, 2147483653, 2147483653))])
def kd_S168c18_6 : kd_St := (3, [(2147483654, 2147483655)], 1, [(2, 0, 18446744073709551615), (9, 0, 0), (3, 18, 18), (1, 0, 2147483648), (0, 2147483654, 2147483654)], [], [], [(0, (0, 4, 4)), (0, (0, 2147483654, 2147483654))])
def kd_S168c18_7 : kd_St := (3, [], 0, [(2, 0, 18446744073709551615), (9, 0, 0), (3, 18, 18), (0, 2147483655, 2147483655), (0, 2147483655, 2147483655)], [], [], [(0, (0, 4, 4)), (0, (0, 2147483655, 2147483655))])
def kd_S168c18 : List kd_St := [kd_S168c18_0, kd_S168c18_1, kd_S168c18_2, kd_S168c18_3, kd_S168c18_4, kd_S168c18_5, kd_S168c18_6, kd_S168c18_7]
theorem kd_e168c18 : kd_run0 kd_ty kd_x168 5 (kd_call kd_ty kd_xt (kd_ctl kd_C168c18) 600 0) kd_T168c18 600 kd_S168c18 = true := by decide +kernel
theorem kd_r168c18_0 : kd_run1 kd_ty kd_x168 5 (kd_call kd_ty kd_xt (kd_ctl kd_C168c18) 600 0) kd_T168c18.2.2 600 kd_S168c18 kd_S168c18_0 = true := by decide +kernel
theorem kd_r168c18_1 : kd_run1 kd_ty kd_x168 5 (kd_call kd_ty kd_xt (kd_ctl kd_C168c18) 600 0) kd_T168c18.2.2 600 kd_S168c18 kd_S168c18_1 = true := by decide +kernel
theorem kd_r168c18_2 : kd_run1 kd_ty kd_x168 5 (kd_call kd_ty kd_xt (kd_ctl kd_C168c18) 600 0) kd_T168c18.2.2 600 kd_S168c18 kd_S168c18_2 = true := by decide +kernel
theorem kd_r168c18_3 : kd_run1 kd_ty kd_x168 5 (kd_call kd_ty kd_xt (kd_ctl kd_C168c18) 600 0) kd_T168c18.2.2 600 kd_S168c18 kd_S168c18_3 = true := by decide +kernel
theorem kd_r168c18_4 : kd_run1 kd_ty kd_x168 5 (kd_call kd_ty kd_xt (kd_ctl kd_C168c18) 600 0) kd_T168c18.2.2 600 kd_S168c18 kd_S168c18_4 = true := by decide +kernel
theorem kd_r168c18_5 : kd_run1 kd_ty kd_x168 5 (kd_call kd_ty kd_xt (kd_ctl kd_C168c18) 600 0) kd_T168c18.2.2 600 kd_S168c18 kd_S168c18_5 = true := by decide +kernel
theorem kd_r168c18_6 : kd_run1 kd_ty kd_x168 5 (kd_call kd_ty kd_xt (kd_ctl kd_C168c18) 600 0) kd_T168c18.2.2 600 kd_S168c18 kd_S168c18_6 = true := by decide +kernel
theorem kd_r168c18_7 : kd_run1 kd_ty kd_x168 5 (kd_call kd_ty kd_xt (kd_ctl kd_C168c18) 600 0) kd_T168c18.2.2 600 kd_S168c18 kd_S168c18_7 = true := by decide +kernel
theorem kd_h168c18 {g : kc_G} (hg : kc_ok g) : kd_hold g 1 kd_ty 168 kd_T168c18 := kd_mk (d0 := 0) (di := 0) hg kd_xk168 rfl rfl rfl rfl (kd_al_r kd_C168c18 trivial) (by decide) (by decide +kernel) kd_e168c18 (kd_al_r kd_S168c18 ⟨kd_r168c18_0, kd_r168c18_1, kd_r168c18_2, kd_r168c18_3, kd_r168c18_4, kd_r168c18_5, kd_r168c18_6, kd_r168c18_7, trivial⟩)
def kd_P168c19 : List kd_P := [(some (2, 0, 18446744073709551615), [], [])]
def kd_T168c19 : kd_Tc := ([(2, 0, 18446744073709551615), (3, 19, 19), (0, 2147483648, 2147483655)], [], kd_P168c19)
def kd_C168c19 : List (Nat × kd_Tc) := []
def kd_S168c19_0 : kd_St := (3, [(2147483648, 2147483655)], 1, [(2, 0, 18446744073709551615), (9, 0, 0), (3, 19, 19), (1, 0, 2147483648), (0, 2147483648, 2147483648)], [], [], [(0, (0, 4, 4)), (0, (0, 2147483648, 2147483648))])
def kd_S168c19_1 : kd_St := (3, [(2147483649, 2147483655)], 1, [(2, 0, 18446744073709551615), (9, 0, 0), (3, 19, 19), (1, 0, 2147483648), (0, 2147483649, 2147483649)], [], [], [(0, (0, 4, 4)), (0, (0, 2147483649, 2147483649))])
def kd_S168c19_2 : kd_St := (3, [(2147483650, 2147483655)], 1, [(2, 0, 18446744073709551615), (9, 0, 0), (3, 19, 19), (1, 0, 2147483648), (0, 2147483650, 2147483650)], [], [], [(0, (0, 4, 4)), (0, (0, 2147483650, 2147483650))])
def kd_S168c19_3 : kd_St := (3, [(2147483651, 2147483655)], 1, [(2, 0, 18446744073709551615), (9, 0, 0), (3, 19, 19), (1, 0, 2147483648), (0, 2147483651, 2147483651)], [], [], [(0, (0, 4, 4)), (0, (0, 2147483651, 2147483651))])
def kd_S168c19_4 : kd_St := (3, [(2147483652, 2147483655)], 1, [(2, 0, 18446744073709551615), (9, 0, 0), (3, 19, 19), (1, 0, 2147483648), (0, 2147483652, 2147483652)], [], [], [(0, (0, 4, 4)), (0, (0, 2147483652, 2147483652))])
def kd_S168c19_5 : kd_St := (3, [(2147483653, 2147483655)], 1, [(2, 0, 18446744073709551615), (9, 0, 0), (3, 19, 19), (1, 0, 2147483648), (0, 2147483653, 2147483653)], [], [], [(0, (0, 4, 4)), (0, (0, 2147483653, 2147483653))])
def kd_S168c19_6 : kd_St := (3, [(2147483654, 2147483655)], 1, [(2, 0, 18446744073709551615), (9, 0, 0), (3, 19, 19), (1, 0, 2147483648), (0, 2147483654, 2147483654)], [], [], [(0, (0, 4, 4)), (0, (0, 2147483654, 2147483654))])
def kd_S168c19_7 : kd_St := (3, [], 0, [(2, 0, 18446744073709551615), (9, 0, 0), (3, 19, 19), (0, 2147483655, 2147483655), (0, 2147483655, 2147483655)], [], [], [(0, (0, 4, 4)), (0, (0, 2147483655, 2147483655))])
def kd_S168c19 : List kd_St := [kd_S168c19_0, kd_S168c19_1, kd_S168c19_2, kd_S168c19_3, kd_S168c19_4, kd_S168c19_5, kd_S168c19_6, kd_S168c19_7]
theorem kd_e168c19 : kd_run0 kd_ty kd_x168 5 (kd_call kd_ty kd_xt (kd_ctl kd_C168c19) 600 0) kd_T168c19 600 kd_S168c19 = true := by decide +kernel
theorem kd_r168c19_0 : kd_run1 kd_ty kd_x168 5 (kd_call kd_ty kd_xt (kd_ctl kd_C168c19) 600 0) kd_T168c19.2.2 600 kd_S168c19 kd_S168c19_0 = true := by decide +kernel
theorem kd_r168c19_1 : kd_run1 kd_ty kd_x168 5 (kd_call kd_ty kd_xt (kd_ctl kd_C168c19) 600 0) kd_T168c19.2.2 600 kd_S168c19 kd_S168c19_1 = true := by decide +kernel
theorem kd_r168c19_2 : kd_run1 kd_ty kd_x168 5 (kd_call kd_ty kd_xt (kd_ctl kd_C168c19) 600 0) kd_T168c19.2.2 600 kd_S168c19 kd_S168c19_2 = true := by decide +kernel
theorem kd_r168c19_3 : kd_run1 kd_ty kd_x168 5 (kd_call kd_ty kd_xt (kd_ctl kd_C168c19) 600 0) kd_T168c19.2.2 600 kd_S168c19 kd_S168c19_3 = true := by decide +kernel
theorem kd_r168c19_4 : kd_run1 kd_ty kd_x168 5 (kd_call kd_ty kd_xt (kd_ctl kd_C168c19) 600 0) kd_T168c19.2.2 600 kd_S168c19 kd_S168c19_4 = true := by decide +kernel
theorem kd_r168c19_5 : kd_run1 kd_ty kd_x168 5 (kd_call kd_ty kd_xt (kd_ctl kd_C168c19) 600 0) kd_T168c19.2.2 600 kd_S168c19 kd_S168c19_5 = true := by decide +kernel
theorem kd_r168c19_6 : kd_run1 kd_ty kd_x168 5 (kd_call kd_ty kd_xt (kd_ctl kd_C168c19) 600 0) kd_T168c19.2.2 600 kd_S168c19 kd_S168c19_6 = true := by decide +kernel
theorem kd_r168c19_7 : kd_run1 kd_ty kd_x168 5 (kd_call kd_ty kd_xt (kd_ctl kd_C168c19) 600 0) kd_T168c19.2.2 600 kd_S168c19 kd_S168c19_7 = true := by decide +kernel
theorem kd_h168c19 {g : kc_G} (hg : kc_ok g) : kd_hold g 1 kd_ty 168 kd_T168c19 := kd_mk (d0 := 0) (di := 0) hg kd_xk168 rfl rfl rfl rfl (kd_al_r kd_C168c19 trivial) (by decide) (by decide +kernel) kd_e168c19 (kd_al_r kd_S168c19 ⟨kd_r168c19_0, kd_r168c19_1, kd_r168c19_2, kd_r168c19_3, kd_r168c19_4, kd_r168c19_5, kd_r168c19_6, kd_r168c19_7, trivial⟩)
def kd_P168c20 : List kd_P := [(some (2, 0, 18446744073709551615), [], [])]
def kd_T168c20 : kd_Tc := ([(2, 0, 18446744073709551615), (3, 20, 20), (0, 2147483648, 2147483655)], [], kd_P168c20)
def kd_C168c20 : List (Nat × kd_Tc) := []
def kd_S168c20_0 : kd_St := (3, [(2147483648, 2147483655)], 1, [(2, 0, 18446744073709551615), (9, 0, 0), (3, 20, 20), (1, 0, 2147483648), (0, 2147483648, 2147483648)], [], [], [(0, (0, 4, 4)), (0, (0, 2147483648, 2147483648))])
def kd_S168c20_1 : kd_St := (3, [(2147483649, 2147483655)], 1, [(2, 0, 18446744073709551615), (9, 0, 0), (3, 20, 20), (1, 0, 2147483648), (0, 2147483649, 2147483649)], [], [], [(0, (0, 4, 4)), (0, (0, 2147483649, 2147483649))])
def kd_S168c20_2 : kd_St := (3, [(2147483650, 2147483655)], 1, [(2, 0, 18446744073709551615), (9, 0, 0), (3, 20, 20), (1, 0, 2147483648), (0, 2147483650, 2147483650)], [], [], [(0, (0, 4, 4)), (0, (0, 2147483650, 2147483650))])
def kd_S168c20_3 : kd_St := (3, [(2147483651, 2147483655)], 1, [(2, 0, 18446744073709551615), (9, 0, 0), (3, 20, 20), (1, 0, 2147483648), (0, 2147483651, 2147483651)], [], [], [(0, (0, 4, 4)), (0, (0, 2147483651, 2147483651))])
def kd_S168c20_4 : kd_St := (3, [(2147483652, 2147483655)], 1, [(2, 0, 18446744073709551615), (9, 0, 0), (3, 20, 20), (1, 0, 2147483648), (0, 2147483652, 2147483652)], [], [], [(0, (0, 4, 4)), (0, (0, 2147483652, 2147483652))])
def kd_S168c20_5 : kd_St := (3, [(2147483653, 2147483655)], 1, [(2, 0, 18446744073709551615), (9, 0, 0), (3, 20, 20), (1, 0, 2147483648), (0, 2147483653, 2147483653)], [], [], [(0, (0, 4, 4)), (0, (0, 2147483653, 2147483653))])
def kd_S168c20_6 : kd_St := (3, [(2147483654, 2147483655)], 1, [(2, 0, 18446744073709551615), (9, 0, 0), (3, 20, 20), (1, 0, 2147483648), (0, 2147483654, 2147483654)], [], [], [(0, (0, 4, 4)), (0, (0, 2147483654, 2147483654))])
def kd_S168c20_7 : kd_St := (3, [], 0, [(2, 0, 18446744073709551615), (9, 0, 0), (3, 20, 20), (0, 2147483655, 2147483655), (0, 2147483655, 2147483655)], [], [], [(0, (0, 4, 4)), (0, (0, 2147483655, 2147483655))])
def kd_S168c20 : List kd_St := [kd_S168c20_0, kd_S168c20_1, kd_S168c20_2, kd_S168c20_3, kd_S168c20_4, kd_S168c20_5, kd_S168c20_6, kd_S168c20_7]
theorem kd_e168c20 : kd_run0 kd_ty kd_x168 5 (kd_call kd_ty kd_xt (kd_ctl kd_C168c20) 600 0) kd_T168c20 600 kd_S168c20 = true := by decide +kernel
theorem kd_r168c20_0 : kd_run1 kd_ty kd_x168 5 (kd_call kd_ty kd_xt (kd_ctl kd_C168c20) 600 0) kd_T168c20.2.2 600 kd_S168c20 kd_S168c20_0 = true := by decide +kernel
theorem kd_r168c20_1 : kd_run1 kd_ty kd_x168 5 (kd_call kd_ty kd_xt (kd_ctl kd_C168c20) 600 0) kd_T168c20.2.2 600 kd_S168c20 kd_S168c20_1 = true := by decide +kernel
theorem kd_r168c20_2 : kd_run1 kd_ty kd_x168 5 (kd_call kd_ty kd_xt (kd_ctl kd_C168c20) 600 0) kd_T168c20.2.2 600 kd_S168c20 kd_S168c20_2 = true := by decide +kernel
theorem kd_r168c20_3 : kd_run1 kd_ty kd_x168 5 (kd_call kd_ty kd_xt (kd_ctl kd_C168c20) 600 0) kd_T168c20.2.2 600 kd_S168c20 kd_S168c20_3 = true := by decide +kernel
theorem kd_r168c20_4 : kd_run1 kd_ty kd_x168 5 (kd_call kd_ty kd_xt (kd_ctl kd_C168c20) 600 0) kd_T168c20.2.2 600 kd_S168c20 kd_S168c20_4 = true := by decide +kernel
theorem kd_r168c20_5 : kd_run1 kd_ty kd_x168 5 (kd_call kd_ty kd_xt (kd_ctl kd_C168c20) 600 0) kd_T168c20.2.2 600 kd_S168c20 kd_S168c20_5 = true := by decide +kernel
theorem kd_r168c20_6 : kd_run1 kd_ty kd_x168 5 (kd_call kd_ty kd_xt (kd_ctl kd_C168c20) 600 0) kd_T168c20.2.2 600 kd_S168c20 kd_S168c20_6 = true := by decide +kernel
theorem kd_r168c20_7 : kd_run1 kd_ty kd_x168 5 (kd_call kd_ty kd_xt (kd_ctl kd_C168c20) 600 0) kd_T168c20.2.2 600 kd_S168c20 kd_S168c20_7 = true := by decide +kernel
theorem kd_h168c20 {g : kc_G} (hg : kc_ok g) : kd_hold g 1 kd_ty 168 kd_T168c20 := kd_mk (d0 := 0) (di := 0) hg kd_xk168 rfl rfl rfl rfl (kd_al_r kd_C168c20 trivial) (by decide) (by decide +kernel) kd_e168c20 (kd_al_r kd_S168c20 ⟨kd_r168c20_0, kd_r168c20_1, kd_r168c20_2, kd_r168c20_3, kd_r168c20_4, kd_r168c20_5, kd_r168c20_6, kd_r168c20_7, trivial⟩)
def kd_P168c21 : List kd_P := [(some (2, 0, 18446744073709551615), [], [])]
def kd_T168c21 : kd_Tc := ([(2, 0, 18446744073709551615), (3, 21, 21), (0, 2147483648, 2147483655)], [], kd_P168c21)
def kd_C168c21 : List (Nat × kd_Tc) := []
def kd_S168c21_0 : kd_St := (3, [(2147483648, 2147483655)], 1, [(2, 0, 18446744073709551615), (9, 0, 0), (3, 21, 21), (1, 0, 2147483648), (0, 2147483648, 2147483648)], [], [], [(0, (0, 4, 4)), (0, (0, 2147483648, 2147483648))])
def kd_S168c21_1 : kd_St := (3, [(2147483649, 2147483655)], 1, [(2, 0, 18446744073709551615), (9, 0, 0), (3, 21, 21), (1, 0, 2147483648), (0, 2147483649, 2147483649)], [], [], [(0, (0, 4, 4)), (0, (0, 2147483649, 2147483649))])
def kd_S168c21_2 : kd_St := (3, [(2147483650, 2147483655)], 1, [(2, 0, 18446744073709551615), (9, 0, 0), (3, 21, 21), (1, 0, 2147483648), (0, 2147483650, 2147483650)], [], [], [(0, (0, 4, 4)), (0, (0, 2147483650, 2147483650))])
def kd_S168c21_3 : kd_St := (3, [(2147483651, 2147483655)], 1, [(2, 0, 18446744073709551615), (9, 0, 0), (3, 21, 21), (1, 0, 2147483648), (0, 2147483651, 2147483651)], [], [], [(0, (0, 4, 4)), (0, (0, 2147483651, 2147483651))])
def kd_S168c21_4 : kd_St := (3, [(2147483652, 2147483655)], 1, [(2, 0, 18446744073709551615), (9, 0, 0), (3, 21, 21), (1, 0, 2147483648), (0, 2147483652, 2147483652)], [], [], [(0, (0, 4, 4)), (0, (0, 2147483652, 2147483652))])
def kd_S168c21_5 : kd_St := (3, [(2147483653, 2147483655)], 1, [(2, 0, 18446744073709551615), (9, 0, 0), (3, 21, 21), (1, 0, 2147483648), (0, 2147483653, 2147483653)], [], [], [(0, (0, 4, 4)), (0, (0, 2147483653, 2147483653))])
def kd_S168c21_6 : kd_St := (3, [(2147483654, 2147483655)], 1, [(2, 0, 18446744073709551615), (9, 0, 0), (3, 21, 21), (1, 0, 2147483648), (0, 2147483654, 2147483654)], [], [], [(0, (0, 4, 4)), (0, (0, 2147483654, 2147483654))])
def kd_S168c21_7 : kd_St := (3, [], 0, [(2, 0, 18446744073709551615), (9, 0, 0), (3, 21, 21), (0, 2147483655, 2147483655), (0, 2147483655, 2147483655)], [], [], [(0, (0, 4, 4)), (0, (0, 2147483655, 2147483655))])
def kd_S168c21 : List kd_St := [kd_S168c21_0, kd_S168c21_1, kd_S168c21_2, kd_S168c21_3, kd_S168c21_4, kd_S168c21_5, kd_S168c21_6, kd_S168c21_7]
theorem kd_e168c21 : kd_run0 kd_ty kd_x168 5 (kd_call kd_ty kd_xt (kd_ctl kd_C168c21) 600 0) kd_T168c21 600 kd_S168c21 = true := by decide +kernel
theorem kd_r168c21_0 : kd_run1 kd_ty kd_x168 5 (kd_call kd_ty kd_xt (kd_ctl kd_C168c21) 600 0) kd_T168c21.2.2 600 kd_S168c21 kd_S168c21_0 = true := by decide +kernel
theorem kd_r168c21_1 : kd_run1 kd_ty kd_x168 5 (kd_call kd_ty kd_xt (kd_ctl kd_C168c21) 600 0) kd_T168c21.2.2 600 kd_S168c21 kd_S168c21_1 = true := by decide +kernel
theorem kd_r168c21_2 : kd_run1 kd_ty kd_x168 5 (kd_call kd_ty kd_xt (kd_ctl kd_C168c21) 600 0) kd_T168c21.2.2 600 kd_S168c21 kd_S168c21_2 = true := by decide +kernel
theorem kd_r168c21_3 : kd_run1 kd_ty kd_x168 5 (kd_call kd_ty kd_xt (kd_ctl kd_C168c21) 600 0) kd_T168c21.2.2 600 kd_S168c21 kd_S168c21_3 = true := by decide +kernel
theorem kd_r168c21_4 : kd_run1 kd_ty kd_x168 5 (kd_call kd_ty kd_xt (kd_ctl kd_C168c21) 600 0) kd_T168c21.2.2 600 kd_S168c21 kd_S168c21_4 = true := by decide +kernel
theorem kd_r168c21_5 : kd_run1 kd_ty kd_x168 5 (kd_call kd_ty kd_xt (kd_ctl kd_C168c21) 600 0) kd_T168c21.2.2 600 kd_S168c21 kd_S168c21_5 = true := by decide +kernel
theorem kd_r168c21_6 : kd_run1 kd_ty kd_x168 5 (kd_call kd_ty kd_xt (kd_ctl kd_C168c21) 600 0) kd_T168c21.2.2 600 kd_S168c21 kd_S168c21_6 = true := by decide +kernel
theorem kd_r168c21_7 : kd_run1 kd_ty kd_x168 5 (kd_call kd_ty kd_xt (kd_ctl kd_C168c21) 600 0) kd_T168c21.2.2 600 kd_S168c21 kd_S168c21_7 = true := by decide +kernel
theorem kd_h168c21 {g : kc_G} (hg : kc_ok g) : kd_hold g 1 kd_ty 168 kd_T168c21 := kd_mk (d0 := 0) (di := 0) hg kd_xk168 rfl rfl rfl rfl (kd_al_r kd_C168c21 trivial) (by decide) (by decide +kernel) kd_e168c21 (kd_al_r kd_S168c21 ⟨kd_r168c21_0, kd_r168c21_1, kd_r168c21_2, kd_r168c21_3, kd_r168c21_4, kd_r168c21_5, kd_r168c21_6, kd_r168c21_7, trivial⟩)
def kd_P168c22 : List kd_P := [(some (2, 0, 18446744073709551615), [], [])]
def kd_T168c22 : kd_Tc := ([(2, 0, 18446744073709551615), (3, 22, 22), (0, 2147483648, 2147483655)], [], kd_P168c22)
def kd_C168c22 : List (Nat × kd_Tc) := []
def kd_S168c22_0 : kd_St := (3, [(2147483648, 2147483655)], 1, [(2, 0, 18446744073709551615), (9, 0, 0), (3, 22, 22), (1, 0, 2147483648), (0, 2147483648, 2147483648)], [], [], [(0, (0, 4, 4)), (0, (0, 2147483648, 2147483648))])
def kd_S168c22_1 : kd_St := (3, [(2147483649, 2147483655)], 1, [(2, 0, 18446744073709551615), (9, 0, 0), (3, 22, 22), (1, 0, 2147483648), (0, 2147483649, 2147483649)], [], [], [(0, (0, 4, 4)), (0, (0, 2147483649, 2147483649))])
def kd_S168c22_2 : kd_St := (3, [(2147483650, 2147483655)], 1, [(2, 0, 18446744073709551615), (9, 0, 0), (3, 22, 22), (1, 0, 2147483648), (0, 2147483650, 2147483650)], [], [], [(0, (0, 4, 4)), (0, (0, 2147483650, 2147483650))])
def kd_S168c22_3 : kd_St := (3, [(2147483651, 2147483655)], 1, [(2, 0, 18446744073709551615), (9, 0, 0), (3, 22, 22), (1, 0, 2147483648), (0, 2147483651, 2147483651)], [], [], [(0, (0, 4, 4)), (0, (0, 2147483651, 2147483651))])
def kd_S168c22_4 : kd_St := (3, [(2147483652, 2147483655)], 1, [(2, 0, 18446744073709551615), (9, 0, 0), (3, 22, 22), (1, 0, 2147483648), (0, 2147483652, 2147483652)], [], [], [(0, (0, 4, 4)), (0, (0, 2147483652, 2147483652))])
def kd_S168c22_5 : kd_St := (3, [(2147483653, 2147483655)], 1, [(2, 0, 18446744073709551615), (9, 0, 0), (3, 22, 22), (1, 0, 2147483648), (0, 2147483653, 2147483653)], [], [], [(0, (0, 4, 4)), (0, (0, 2147483653, 2147483653))])
def kd_S168c22_6 : kd_St := (3, [(2147483654, 2147483655)], 1, [(2, 0, 18446744073709551615), (9, 0, 0), (3, 22, 22), (1, 0, 2147483648), (0, 2147483654, 2147483654)], [], [], [(0, (0, 4, 4)), (0, (0, 2147483654, 2147483654))])
def kd_S168c22_7 : kd_St := (3, [], 0, [(2, 0, 18446744073709551615), (9, 0, 0), (3, 22, 22), (0, 2147483655, 2147483655), (0, 2147483655, 2147483655)], [], [], [(0, (0, 4, 4)), (0, (0, 2147483655, 2147483655))])
def kd_S168c22 : List kd_St := [kd_S168c22_0, kd_S168c22_1, kd_S168c22_2, kd_S168c22_3, kd_S168c22_4, kd_S168c22_5, kd_S168c22_6, kd_S168c22_7]
theorem kd_e168c22 : kd_run0 kd_ty kd_x168 5 (kd_call kd_ty kd_xt (kd_ctl kd_C168c22) 600 0) kd_T168c22 600 kd_S168c22 = true := by decide +kernel
theorem kd_r168c22_0 : kd_run1 kd_ty kd_x168 5 (kd_call kd_ty kd_xt (kd_ctl kd_C168c22) 600 0) kd_T168c22.2.2 600 kd_S168c22 kd_S168c22_0 = true := by decide +kernel
theorem kd_r168c22_1 : kd_run1 kd_ty kd_x168 5 (kd_call kd_ty kd_xt (kd_ctl kd_C168c22) 600 0) kd_T168c22.2.2 600 kd_S168c22 kd_S168c22_1 = true := by decide +kernel
theorem kd_r168c22_2 : kd_run1 kd_ty kd_x168 5 (kd_call kd_ty kd_xt (kd_ctl kd_C168c22) 600 0) kd_T168c22.2.2 600 kd_S168c22 kd_S168c22_2 = true := by decide +kernel
theorem kd_r168c22_3 : kd_run1 kd_ty kd_x168 5 (kd_call kd_ty kd_xt (kd_ctl kd_C168c22) 600 0) kd_T168c22.2.2 600 kd_S168c22 kd_S168c22_3 = true := by decide +kernel
theorem kd_r168c22_4 : kd_run1 kd_ty kd_x168 5 (kd_call kd_ty kd_xt (kd_ctl kd_C168c22) 600 0) kd_T168c22.2.2 600 kd_S168c22 kd_S168c22_4 = true := by decide +kernel
theorem kd_r168c22_5 : kd_run1 kd_ty kd_x168 5 (kd_call kd_ty kd_xt (kd_ctl kd_C168c22) 600 0) kd_T168c22.2.2 600 kd_S168c22 kd_S168c22_5 = true := by decide +kernel
theorem kd_r168c22_6 : kd_run1 kd_ty kd_x168 5 (kd_call kd_ty kd_xt (kd_ctl kd_C168c22) 600 0) kd_T168c22.2.2 600 kd_S168c22 kd_S168c22_6 = true := by decide +kernel
theorem kd_r168c22_7 : kd_run1 kd_ty kd_x168 5 (kd_call kd_ty kd_xt (kd_ctl kd_C168c22) 600 0) kd_T168c22.2.2 600 kd_S168c22 kd_S168c22_7 = true := by decide +kernel
theorem kd_h168c22 {g : kc_G} (hg : kc_ok g) : kd_hold g 1 kd_ty 168 kd_T168c22 := kd_mk (d0 := 0) (di := 0) hg kd_xk168 rfl rfl rfl rfl (kd_al_r kd_C168c22 trivial) (by decide) (by decide +kernel) kd_e168c22 (kd_al_r kd_S168c22 ⟨kd_r168c22_0, kd_r168c22_1, kd_r168c22_2, kd_r168c22_3, kd_r168c22_4, kd_r168c22_5, kd_r168c22_6, kd_r168c22_7, trivial⟩)
def kd_P168c23 : List kd_P := [(some (2, 0, 18446744073709551615), [], [])]
def kd_T168c23 : kd_Tc := ([(2, 0, 18446744073709551615), (3, 23, 23), (0, 2147483648, 2147483655)], [], kd_P168c23)
def kd_C168c23 : List (Nat × kd_Tc) := []
def kd_S168c23_0 : kd_St := (3, [(2147483648, 2147483655)], 1, [(2, 0, 18446744073709551615), (9, 0, 0), (3, 23, 23), (1, 0, 2147483648), (0, 2147483648, 2147483648)], [], [], [(0, (0, 4, 4)), (0, (0, 2147483648, 2147483648))])
def kd_S168c23_1 : kd_St := (3, [(2147483649, 2147483655)], 1, [(2, 0, 18446744073709551615), (9, 0, 0), (3, 23, 23), (1, 0, 2147483648), (0, 2147483649, 2147483649)], [], [], [(0, (0, 4, 4)), (0, (0, 2147483649, 2147483649))])
def kd_S168c23_2 : kd_St := (3, [(2147483650, 2147483655)], 1, [(2, 0, 18446744073709551615), (9, 0, 0), (3, 23, 23), (1, 0, 2147483648), (0, 2147483650, 2147483650)], [], [], [(0, (0, 4, 4)), (0, (0, 2147483650, 2147483650))])
def kd_S168c23_3 : kd_St := (3, [(2147483651, 2147483655)], 1, [(2, 0, 18446744073709551615), (9, 0, 0), (3, 23, 23), (1, 0, 2147483648), (0, 2147483651, 2147483651)], [], [], [(0, (0, 4, 4)), (0, (0, 2147483651, 2147483651))])
def kd_S168c23_4 : kd_St := (3, [(2147483652, 2147483655)], 1, [(2, 0, 18446744073709551615), (9, 0, 0), (3, 23, 23), (1, 0, 2147483648), (0, 2147483652, 2147483652)], [], [], [(0, (0, 4, 4)), (0, (0, 2147483652, 2147483652))])
def kd_S168c23_5 : kd_St := (3, [(2147483653, 2147483655)], 1, [(2, 0, 18446744073709551615), (9, 0, 0), (3, 23, 23), (1, 0, 2147483648), (0, 2147483653, 2147483653)], [], [], [(0, (0, 4, 4)), (0, (0, 2147483653, 2147483653))])
def kd_S168c23_6 : kd_St := (3, [(2147483654, 2147483655)], 1, [(2, 0, 18446744073709551615), (9, 0, 0), (3, 23, 23), (1, 0, 2147483648), (0, 2147483654, 2147483654)], [], [], [(0, (0, 4, 4)), (0, (0, 2147483654, 2147483654))])
def kd_S168c23_7 : kd_St := (3, [], 0, [(2, 0, 18446744073709551615), (9, 0, 0), (3, 23, 23), (0, 2147483655, 2147483655), (0, 2147483655, 2147483655)], [], [], [(0, (0, 4, 4)), (0, (0, 2147483655, 2147483655))])
def kd_S168c23 : List kd_St := [kd_S168c23_0, kd_S168c23_1, kd_S168c23_2, kd_S168c23_3, kd_S168c23_4, kd_S168c23_5, kd_S168c23_6, kd_S168c23_7]
theorem kd_e168c23 : kd_run0 kd_ty kd_x168 5 (kd_call kd_ty kd_xt (kd_ctl kd_C168c23) 600 0) kd_T168c23 600 kd_S168c23 = true := by decide +kernel
theorem kd_r168c23_0 : kd_run1 kd_ty kd_x168 5 (kd_call kd_ty kd_xt (kd_ctl kd_C168c23) 600 0) kd_T168c23.2.2 600 kd_S168c23 kd_S168c23_0 = true := by decide +kernel
theorem kd_r168c23_1 : kd_run1 kd_ty kd_x168 5 (kd_call kd_ty kd_xt (kd_ctl kd_C168c23) 600 0) kd_T168c23.2.2 600 kd_S168c23 kd_S168c23_1 = true := by decide +kernel
theorem kd_r168c23_2 : kd_run1 kd_ty kd_x168 5 (kd_call kd_ty kd_xt (kd_ctl kd_C168c23) 600 0) kd_T168c23.2.2 600 kd_S168c23 kd_S168c23_2 = true := by decide +kernel
theorem kd_r168c23_3 : kd_run1 kd_ty kd_x168 5 (kd_call kd_ty kd_xt (kd_ctl kd_C168c23) 600 0) kd_T168c23.2.2 600 kd_S168c23 kd_S168c23_3 = true := by decide +kernel
theorem kd_r168c23_4 : kd_run1 kd_ty kd_x168 5 (kd_call kd_ty kd_xt (kd_ctl kd_C168c23) 600 0) kd_T168c23.2.2 600 kd_S168c23 kd_S168c23_4 = true := by decide +kernel
theorem kd_r168c23_5 : kd_run1 kd_ty kd_x168 5 (kd_call kd_ty kd_xt (kd_ctl kd_C168c23) 600 0) kd_T168c23.2.2 600 kd_S168c23 kd_S168c23_5 = true := by decide +kernel
theorem kd_r168c23_6 : kd_run1 kd_ty kd_x168 5 (kd_call kd_ty kd_xt (kd_ctl kd_C168c23) 600 0) kd_T168c23.2.2 600 kd_S168c23 kd_S168c23_6 = true := by decide +kernel
theorem kd_r168c23_7 : kd_run1 kd_ty kd_x168 5 (kd_call kd_ty kd_xt (kd_ctl kd_C168c23) 600 0) kd_T168c23.2.2 600 kd_S168c23 kd_S168c23_7 = true := by decide +kernel
theorem kd_h168c23 {g : kc_G} (hg : kc_ok g) : kd_hold g 1 kd_ty 168 kd_T168c23 := kd_mk (d0 := 0) (di := 0) hg kd_xk168 rfl rfl rfl rfl (kd_al_r kd_C168c23 trivial) (by decide) (by decide +kernel) kd_e168c23 (kd_al_r kd_S168c23 ⟨kd_r168c23_0, kd_r168c23_1, kd_r168c23_2, kd_r168c23_3, kd_r168c23_4, kd_r168c23_5, kd_r168c23_6, kd_r168c23_7, trivial⟩)
def kd_P168c24 : List kd_P := [(some (2, 0, 18446744073709551615), [], [])]
def kd_T168c24 : kd_Tc := ([(2, 0, 18446744073709551615), (3, 24, 24), (0, 2147483648, 2147483655)], [], kd_P168c24)
def kd_C168c24 : List (Nat × kd_Tc) := []
def kd_S168c24_0 : kd_St := (3, [(2147483648, 2147483655)], 1, [(2, 0, 18446744073709551615), (9, 0, 0), (3, 24, 24), (1, 0, 2147483648), (0, 2147483648, 2147483648)], [], [], [(0, (0, 4, 4)), (0, (0, 2147483648, 2147483648))])
def kd_S168c24_1 : kd_St := (3, [(2147483649, 2147483655)], 1, [(2, 0, 18446744073709551615), (9, 0, 0), (3, 24, 24), (1, 0, 2147483648), (0, 2147483649, 2147483649)], [], [], [(0, (0, 4, 4)), (0, (0, 2147483649, 2147483649))])
def kd_S168c24_2 : kd_St := (3, [(2147483650, 2147483655)], 1, [(2, 0, 18446744073709551615), (9, 0, 0), (3, 24, 24), (1, 0, 2147483648), (0, 2147483650, 2147483650)], [], [], [(0, (0, 4, 4)), (0, (0, 2147483650, 2147483650))])
def kd_S168c24_3 : kd_St := (3, [(2147483651, 2147483655)], 1, [(2, 0, 18446744073709551615), (9, 0, 0), (3, 24, 24), (1, 0, 2147483648), (0, 2147483651, 2147483651)], [], [], [(0, (0, 4, 4)), (0, (0, 2147483651, 2147483651))])
def kd_S168c24_4 : kd_St := (3, [(2147483652, 2147483655)], 1, [(2, 0, 18446744073709551615), (9, 0, 0), (3, 24, 24), (1, 0, 2147483648), (0, 2147483652, 2147483652)], [], [], [(0, (0, 4, 4)), (0, (0, 2147483652, 2147483652))])
def kd_S168c24_5 : kd_St := (3, [(2147483653, 2147483655)], 1, [(2, 0, 18446744073709551615), (9, 0, 0), (3, 24, 24), (1, 0, 2147483648), (0, 2147483653, 2147483653)], [], [], [(0, (0, 4, 4)), (0, (0, 2147483653, 2147483653))])
def kd_S168c24_6 : kd_St := (3, [(2147483654, 2147483655)], 1, [(2, 0, 18446744073709551615), (9, 0, 0), (3, 24, 24), (1, 0, 2147483648), (0, 2147483654, 2147483654)], [], [], [(0, (0, 4, 4)), (0, (0, 2147483654, 2147483654))])
def kd_S168c24_7 : kd_St := (3, [], 0, [(2, 0, 18446744073709551615), (9, 0, 0), (3, 24, 24), (0, 2147483655, 2147483655), (0, 2147483655, 2147483655)], [], [], [(0, (0, 4, 4)), (0, (0, 2147483655, 2147483655))])
def kd_S168c24 : List kd_St := [kd_S168c24_0, kd_S168c24_1, kd_S168c24_2, kd_S168c24_3, kd_S168c24_4, kd_S168c24_5, kd_S168c24_6, kd_S168c24_7]
theorem kd_e168c24 : kd_run0 kd_ty kd_x168 5 (kd_call kd_ty kd_xt (kd_ctl kd_C168c24) 600 0) kd_T168c24 600 kd_S168c24 = true := by decide +kernel
theorem kd_r168c24_0 : kd_run1 kd_ty kd_x168 5 (kd_call kd_ty kd_xt (kd_ctl kd_C168c24) 600 0) kd_T168c24.2.2 600 kd_S168c24 kd_S168c24_0 = true := by decide +kernel
theorem kd_r168c24_1 : kd_run1 kd_ty kd_x168 5 (kd_call kd_ty kd_xt (kd_ctl kd_C168c24) 600 0) kd_T168c24.2.2 600 kd_S168c24 kd_S168c24_1 = true := by decide +kernel
theorem kd_r168c24_2 : kd_run1 kd_ty kd_x168 5 (kd_call kd_ty kd_xt (kd_ctl kd_C168c24) 600 0) kd_T168c24.2.2 600 kd_S168c24 kd_S168c24_2 = true := by decide +kernel
theorem kd_r168c24_3 : kd_run1 kd_ty kd_x168 5 (kd_call kd_ty kd_xt (kd_ctl kd_C168c24) 600 0) kd_T168c24.2.2 600 kd_S168c24 kd_S168c24_3 = true := by decide +kernel
theorem kd_r168c24_4 : kd_run1 kd_ty kd_x168 5 (kd_call kd_ty kd_xt (kd_ctl kd_C168c24) 600 0) kd_T168c24.2.2 600 kd_S168c24 kd_S168c24_4 = true := by decide +kernel
theorem kd_r168c24_5 : kd_run1 kd_ty kd_x168 5 (kd_call kd_ty kd_xt (kd_ctl kd_C168c24) 600 0) kd_T168c24.2.2 600 kd_S168c24 kd_S168c24_5 = true := by decide +kernel
theorem kd_r168c24_6 : kd_run1 kd_ty kd_x168 5 (kd_call kd_ty kd_xt (kd_ctl kd_C168c24) 600 0) kd_T168c24.2.2 600 kd_S168c24 kd_S168c24_6 = true := by decide +kernel
theorem kd_r168c24_7 : kd_run1 kd_ty kd_x168 5 (kd_call kd_ty kd_xt (kd_ctl kd_C168c24) 600 0) kd_T168c24.2.2 600 kd_S168c24 kd_S168c24_7 = true := by decide +kernel
theorem kd_h168c24 {g : kc_G} (hg : kc_ok g) : kd_hold g 1 kd_ty 168 kd_T168c24 := kd_mk (d0 := 0) (di := 0) hg kd_xk168 rfl rfl rfl rfl (kd_al_r kd_C168c24 trivial) (by decide) (by decide +kernel) kd_e168c24 (kd_al_r kd_S168c24 ⟨kd_r168c24_0, kd_r168c24_1, kd_r168c24_2, kd_r168c24_3, kd_r168c24_4, kd_r168c24_5, kd_r168c24_6, kd_r168c24_7, trivial⟩)
def kd_P168c25 : List kd_P := [(some (2, 0, 18446744073709551615), [], [])]
def kd_T168c25 : kd_Tc := ([(2, 0, 18446744073709551615), (3, 25, 25), (0, 2147483648, 2147483655)], [], kd_P168c25)
def kd_C168c25 : List (Nat × kd_Tc) := []
def kd_S168c25_0 : kd_St := (3, [(2147483648, 2147483655)], 1, [(2, 0, 18446744073709551615), (9, 0, 0), (3, 25, 25), (1, 0, 2147483648), (0, 2147483648, 2147483648)], [], [], [(0, (0, 4, 4)), (0, (0, 2147483648, 2147483648))])
def kd_S168c25_1 : kd_St := (3, [(2147483649, 2147483655)], 1, [(2, 0, 18446744073709551615), (9, 0, 0), (3, 25, 25), (1, 0, 2147483648), (0, 2147483649, 2147483649)], [], [], [(0, (0, 4, 4)), (0, (0, 2147483649, 2147483649))])
def kd_S168c25_2 : kd_St := (3, [(2147483650, 2147483655)], 1, [(2, 0, 18446744073709551615), (9, 0, 0), (3, 25, 25), (1, 0, 2147483648), (0, 2147483650, 2147483650)], [], [], [(0, (0, 4, 4)), (0, (0, 2147483650, 2147483650))])
def kd_S168c25_3 : kd_St := (3, [(2147483651, 2147483655)], 1, [(2, 0, 18446744073709551615), (9, 0, 0), (3, 25, 25), (1, 0, 2147483648), (0, 2147483651, 2147483651)], [], [], [(0, (0, 4, 4)), (0, (0, 2147483651, 2147483651))])
def kd_S168c25_4 : kd_St := (3, [(2147483652, 2147483655)], 1, [(2, 0, 18446744073709551615), (9, 0, 0), (3, 25, 25), (1, 0, 2147483648), (0, 2147483652, 2147483652)], [], [], [(0, (0, 4, 4)), (0, (0, 2147483652, 2147483652))])
def kd_S168c25_5 : kd_St := (3, [(2147483653, 2147483655)], 1, [(2, 0, 18446744073709551615), (9, 0, 0), (3, 25, 25), (1, 0, 2147483648), (0, 2147483653, 2147483653)], [], [], [(0, (0, 4, 4)), (0, (0, 2147483653, 2147483653))])
def kd_S168c25_6 : kd_St := (3, [(2147483654, 2147483655)], 1, [(2, 0, 18446744073709551615), (9, 0, 0), (3, 25, 25), (1, 0, 2147483648), (0, 2147483654, 2147483654)], [], [], [(0, (0, 4, 4)), (0, (0, 2147483654, 2147483654))])
def kd_S168c25_7 : kd_St := (3, [], 0, [(2, 0, 18446744073709551615), (9, 0, 0), (3, 25, 25), (0, 2147483655, 2147483655), (0, 2147483655, 2147483655)], [], [], [(0, (0, 4, 4)), (0, (0, 2147483655, 2147483655))])
def kd_S168c25 : List kd_St := [kd_S168c25_0, kd_S168c25_1, kd_S168c25_2, kd_S168c25_3, kd_S168c25_4, kd_S168c25_5, kd_S168c25_6, kd_S168c25_7]
theorem kd_e168c25 : kd_run0 kd_ty kd_x168 5 (kd_call kd_ty kd_xt (kd_ctl kd_C168c25) 600 0) kd_T168c25 600 kd_S168c25 = true := by decide +kernel
theorem kd_r168c25_0 : kd_run1 kd_ty kd_x168 5 (kd_call kd_ty kd_xt (kd_ctl kd_C168c25) 600 0) kd_T168c25.2.2 600 kd_S168c25 kd_S168c25_0 = true := by decide +kernel
theorem kd_r168c25_1 : kd_run1 kd_ty kd_x168 5 (kd_call kd_ty kd_xt (kd_ctl kd_C168c25) 600 0) kd_T168c25.2.2 600 kd_S168c25 kd_S168c25_1 = true := by decide +kernel
theorem kd_r168c25_2 : kd_run1 kd_ty kd_x168 5 (kd_call kd_ty kd_xt (kd_ctl kd_C168c25) 600 0) kd_T168c25.2.2 600 kd_S168c25 kd_S168c25_2 = true := by decide +kernel
theorem kd_r168c25_3 : kd_run1 kd_ty kd_x168 5 (kd_call kd_ty kd_xt (kd_ctl kd_C168c25) 600 0) kd_T168c25.2.2 600 kd_S168c25 kd_S168c25_3 = true := by decide +kernel
theorem kd_r168c25_4 : kd_run1 kd_ty kd_x168 5 (kd_call kd_ty kd_xt (kd_ctl kd_C168c25) 600 0) kd_T168c25.2.2 600 kd_S168c25 kd_S168c25_4 = true := by decide +kernel
theorem kd_r168c25_5 : kd_run1 kd_ty kd_x168 5 (kd_call kd_ty kd_xt (kd_ctl kd_C168c25) 600 0) kd_T168c25.2.2 600 kd_S168c25 kd_S168c25_5 = true := by decide +kernel
theorem kd_r168c25_6 : kd_run1 kd_ty kd_x168 5 (kd_call kd_ty kd_xt (kd_ctl kd_C168c25) 600 0) kd_T168c25.2.2 600 kd_S168c25 kd_S168c25_6 = true := by decide +kernel
theorem kd_r168c25_7 : kd_run1 kd_ty kd_x168 5 (kd_call kd_ty kd_xt (kd_ctl kd_C168c25) 600 0) kd_T168c25.2.2 600 kd_S168c25 kd_S168c25_7 = true := by decide +kernel
theorem kd_h168c25 {g : kc_G} (hg : kc_ok g) : kd_hold g 1 kd_ty 168 kd_T168c25 := kd_mk (d0 := 0) (di := 0) hg kd_xk168 rfl rfl rfl rfl (kd_al_r kd_C168c25 trivial) (by decide) (by decide +kernel) kd_e168c25 (kd_al_r kd_S168c25 ⟨kd_r168c25_0, kd_r168c25_1, kd_r168c25_2, kd_r168c25_3, kd_r168c25_4, kd_r168c25_5, kd_r168c25_6, kd_r168c25_7, trivial⟩)
def kd_P168c26 : List kd_P := [(some (2, 0, 18446744073709551615), [], [])]
def kd_T168c26 : kd_Tc := ([(2, 0, 18446744073709551615), (3, 26, 26), (0, 2147483648, 2147483650)], [], kd_P168c26)
def kd_C168c26 : List (Nat × kd_Tc) := []
def kd_S168c26_0 : kd_St := (3, [(2147483648, 2147483650)], 1, [(2, 0, 18446744073709551615), (9, 0, 0), (3, 26, 26), (1, 0, 2147483648), (0, 2147483648, 2147483648)], [], [], [(0, (0, 4, 4)), (0, (0, 2147483648, 2147483648))])
def kd_S168c26_1 : kd_St := (3, [(2147483649, 2147483650)], 1, [(2, 0, 18446744073709551615), (9, 0, 0), (3, 26, 26), (1, 0, 2147483648), (0, 2147483649, 2147483649)], [], [], [(0, (0, 4, 4)), (0, (0, 2147483649, 2147483649))])
def kd_S168c26_2 : kd_St := (3, [], 0, [(2, 0, 18446744073709551615), (9, 0, 0), (3, 26, 26), (0, 2147483650, 2147483650), (0, 2147483650, 2147483650)], [], [], [(0, (0, 4, 4)), (0, (0, 2147483650, 2147483650))])
def kd_S168c26 : List kd_St := [kd_S168c26_0, kd_S168c26_1, kd_S168c26_2]
theorem kd_e168c26 : kd_run0 kd_ty kd_x168 5 (kd_call kd_ty kd_xt (kd_ctl kd_C168c26) 600 0) kd_T168c26 600 kd_S168c26 = true := by decide +kernel
theorem kd_r168c26_0 : kd_run1 kd_ty kd_x168 5 (kd_call kd_ty kd_xt (kd_ctl kd_C168c26) 600 0) kd_T168c26.2.2 600 kd_S168c26 kd_S168c26_0 = true := by decide +kernel
theorem kd_r168c26_1 : kd_run1 kd_ty kd_x168 5 (kd_call kd_ty kd_xt (kd_ctl kd_C168c26) 600 0) kd_T168c26.2.2 600 kd_S168c26 kd_S168c26_1 = true := by decide +kernel
theorem kd_r168c26_2 : kd_run1 kd_ty kd_x168 5 (kd_call kd_ty kd_xt (kd_ctl kd_C168c26) 600 0) kd_T168c26.2.2 600 kd_S168c26 kd_S168c26_2 = true := by decide +kernel
theorem kd_h168c26 {g : kc_G} (hg : kc_ok g) : kd_hold g 1 kd_ty 168 kd_T168c26 := kd_mk (d0 := 0) (di := 0) hg kd_xk168 rfl rfl rfl rfl (kd_al_r kd_C168c26 trivial) (by decide) (by decide +kernel) kd_e168c26 (kd_al_r kd_S168c26 ⟨kd_r168c26_0, kd_r168c26_1, kd_r168c26_2, trivial⟩)
def kd_P168c27 : List kd_P := [(some (2, 0, 18446744073709551615), [], [])]
def kd_T168c27 : kd_Tc := ([(2, 0, 18446744073709551615), (3, 27, 27), (0, 2147483648, 2147483653)], [], kd_P168c27)
def kd_C168c27 : List (Nat × kd_Tc) := []
def kd_S168c27_0 : kd_St := (3, [(2147483648, 2147483653)], 1, [(2, 0, 18446744073709551615), (9, 0, 0), (3, 27, 27), (1, 0, 2147483648), (0, 2147483648, 2147483648)], [], [], [(0, (0, 4, 4)), (0, (0, 2147483648, 2147483648))])
def kd_S168c27_1 : kd_St := (3, [(2147483649, 2147483653)], 1, [(2, 0, 18446744073709551615), (9, 0, 0), (3, 27, 27), (1, 0, 2147483648), (0, 2147483649, 2147483649)], [], [], [(0, (0, 4, 4)), (0, (0, 2147483649, 2147483649))])
def kd_S168c27_2 : kd_St := (3, [(2147483650, 2147483653)], 1, [(2, 0, 18446744073709551615), (9, 0, 0), (3, 27, 27), (1, 0, 2147483648), (0, 2147483650, 2147483650)], [], [], [(0, (0, 4, 4)), (0, (0, 2147483650, 2147483650))])
def kd_S168c27_3 : kd_St := (3, [(2147483651, 2147483653)], 1, [(2, 0, 18446744073709551615), (9, 0, 0), (3, 27, 27), (1, 0, 2147483648), (0, 2147483651, 2147483651)], [], [], [(0, (0, 4, 4)), (0, (0, 2147483651, 2147483651))])
def kd_S168c27_4 : kd_St := (3, [(2147483652, 2147483653)], 1, [(2, 0, 18446744073709551615), (9, 0, 0), (3, 27, 27), (1, 0, 2147483648), (0, 2147483652, 2147483652)], [], [], [(0, (0, 4, 4)), (0, (0, 2147483652, 2147483652))])
def kd_S168c27_5 : kd_St := (3, [], 0, [(2, 0, 18446744073709551615), (9, 0, 0), (3, 27, 27), (0, 2147483653, 2147483653), (0, 2147483653, 2147483653)], [], [], [(0, (0, 4, 4)), (0, (0, 2147483653, 2147483653))])
def kd_S168c27 : List kd_St := [kd_S168c27_0, kd_S168c27_1, kd_S168c27_2, kd_S168c27_3, kd_S168c27_4, kd_S168c27_5]
theorem kd_e168c27 : kd_run0 kd_ty kd_x168 5 (kd_call kd_ty kd_xt (kd_ctl kd_C168c27) 600 0) kd_T168c27 600 kd_S168c27 = true := by decide +kernel
theorem kd_r168c27_0 : kd_run1 kd_ty kd_x168 5 (kd_call kd_ty kd_xt (kd_ctl kd_C168c27) 600 0) kd_T168c27.2.2 600 kd_S168c27 kd_S168c27_0 = true := by decide +kernel
theorem kd_r168c27_1 : kd_run1 kd_ty kd_x168 5 (kd_call kd_ty kd_xt (kd_ctl kd_C168c27) 600 0) kd_T168c27.2.2 600 kd_S168c27 kd_S168c27_1 = true := by decide +kernel
theorem kd_r168c27_2 : kd_run1 kd_ty kd_x168 5 (kd_call kd_ty kd_xt (kd_ctl kd_C168c27) 600 0) kd_T168c27.2.2 600 kd_S168c27 kd_S168c27_2 = true := by decide +kernel
theorem kd_r168c27_3 : kd_run1 kd_ty kd_x168 5 (kd_call kd_ty kd_xt (kd_ctl kd_C168c27) 600 0) kd_T168c27.2.2 600 kd_S168c27 kd_S168c27_3 = true := by decide +kernel
theorem kd_r168c27_4 : kd_run1 kd_ty kd_x168 5 (kd_call kd_ty kd_xt (kd_ctl kd_C168c27) 600 0) kd_T168c27.2.2 600 kd_S168c27 kd_S168c27_4 = true := by decide +kernel
theorem kd_r168c27_5 : kd_run1 kd_ty kd_x168 5 (kd_call kd_ty kd_xt (kd_ctl kd_C168c27) 600 0) kd_T168c27.2.2 600 kd_S168c27 kd_S168c27_5 = true := by decide +kernel
theorem kd_h168c27 {g : kc_G} (hg : kc_ok g) : kd_hold g 1 kd_ty 168 kd_T168c27 := kd_mk (d0 := 0) (di := 0) hg kd_xk168 rfl rfl rfl rfl (kd_al_r kd_C168c27 trivial) (by decide) (by decide +kernel) kd_e168c27 (kd_al_r kd_S168c27 ⟨kd_r168c27_0, kd_r168c27_1, kd_r168c27_2, kd_r168c27_3, kd_r168c27_4, kd_r168c27_5, trivial⟩)
def kd_P166 : List kd_P := [(some (2, 0, 18446744073709551615), [], [])]
def kd_T166 : kd_Tc := ([(3, 1, 1), (2, 0, 18446744073709551615)], [], kd_P166)
def kd_C166 : List (Nat × kd_Tc) := []
def kd_S166_0 : kd_St := (2, [], 0, [(3, 1, 1), (2, 0, 18446744073709551615), (9, 0, 0), (0, 2147483648, 2147483648)], [], [], [(0, (0, 3, 3)), (0, (0, 2147483648, 2147483648))])
def kd_S166_1 : kd_St := (2, [], 0, [(3, 1, 1), (2, 0, 18446744073709551615), (9, 0, 0), (0, 2147483649, 2147483649)], [], [], [(0, (0, 3, 3)), (0, (0, 2147483649, 2147483649))])
def kd_S166_2 : kd_St := (2, [], 0, [(3, 1, 1), (2, 0, 18446744073709551615), (9, 0, 0), (0, 2147483650, 2147483650)], [], [], [(0, (0, 3, 3)), (0, (0, 2147483650, 2147483650))])
def kd_S166_3 : kd_St := (2, [], 0, [(3, 1, 1), (2, 0, 18446744073709551615), (9, 0, 0), (0, 2147483651, 2147483651)], [], [], [(0, (0, 3, 3)), (0, (0, 2147483651, 2147483651))])
def kd_S166_4 : kd_St := (2, [], 0, [(3, 1, 1), (2, 0, 18446744073709551615), (9, 0, 0), (0, 2147483652, 2147483652)], [], [], [(0, (0, 3, 3)), (0, (0, 2147483652, 2147483652))])
def kd_S166_5 : kd_St := (2, [], 0, [(3, 1, 1), (2, 0, 18446744073709551615), (9, 0, 0), (0, 2147483653, 2147483653)], [], [], [(0, (0, 3, 3)), (0, (0, 2147483653, 2147483653))])
def kd_S166_6 : kd_St := (2, [], 0, [(3, 1, 1), (2, 0, 18446744073709551615), (9, 0, 0), (0, 2147483654, 2147483654)], [], [], [(0, (0, 3, 3)), (0, (0, 2147483654, 2147483654))])
def kd_S166 : List kd_St := [kd_S166_0, kd_S166_1, kd_S166_2, kd_S166_3, kd_S166_4, kd_S166_5, kd_S166_6]
theorem kd_e166 : kd_run0 kd_ty kd_x166 4 (kd_call kd_ty kd_xt (kd_ctl kd_C166) 600 1) kd_T166 600 kd_S166 = true := by decide +kernel
theorem kd_r166_0 : kd_run1 kd_ty kd_x166 4 (kd_call kd_ty kd_xt (kd_ctl kd_C166) 600 1) kd_T166.2.2 600 kd_S166 kd_S166_0 = true := by decide +kernel
theorem kd_r166_1 : kd_run1 kd_ty kd_x166 4 (kd_call kd_ty kd_xt (kd_ctl kd_C166) 600 1) kd_T166.2.2 600 kd_S166 kd_S166_1 = true := by decide +kernel
theorem kd_r166_2 : kd_run1 kd_ty kd_x166 4 (kd_call kd_ty kd_xt (kd_ctl kd_C166) 600 1) kd_T166.2.2 600 kd_S166 kd_S166_2 = true := by decide +kernel
theorem kd_r166_3 : kd_run1 kd_ty kd_x166 4 (kd_call kd_ty kd_xt (kd_ctl kd_C166) 600 1) kd_T166.2.2 600 kd_S166 kd_S166_3 = true := by decide +kernel
theorem kd_r166_4 : kd_run1 kd_ty kd_x166 4 (kd_call kd_ty kd_xt (kd_ctl kd_C166) 600 1) kd_T166.2.2 600 kd_S166 kd_S166_4 = true := by decide +kernel
theorem kd_r166_5 : kd_run1 kd_ty kd_x166 4 (kd_call kd_ty kd_xt (kd_ctl kd_C166) 600 1) kd_T166.2.2 600 kd_S166 kd_S166_5 = true := by decide +kernel
theorem kd_r166_6 : kd_run1 kd_ty kd_x166 4 (kd_call kd_ty kd_xt (kd_ctl kd_C166) 600 1) kd_T166.2.2 600 kd_S166 kd_S166_6 = true := by decide +kernel
theorem kd_h166 {g : kc_G} (hg : kc_ok g) : kd_hold g 2 kd_ty 166 kd_T166 := kd_mk (d0 := 0) (di := 1) hg kd_xk166 rfl rfl rfl rfl (kd_al_r kd_C166 trivial) (by decide) (by decide +kernel) kd_e166 (kd_al_r kd_S166 ⟨kd_r166_0, kd_r166_1, kd_r166_2, kd_r166_3, kd_r166_4, kd_r166_5, kd_r166_6, trivial⟩)
def kd_P167 : List kd_P := [(some (2, 0, 18446744073709551615), [], [])]
def kd_T167 : kd_Tc := ([(3, 1, 1), (2, 0, 18446744073709551615)], [], kd_P167)
def kd_C167 : List (Nat × kd_Tc) := [(168, kd_T168c8), (168, kd_T168c7), (168, kd_T168c6), (168, kd_T168c5), (168, kd_T168c4), (168, kd_T168c3)]
def kd_S167_0 : kd_St := (2, [], 0, [(3, 1, 1), (2, 0, 18446744073709551615), (9, 0, 0), (0, 2147483648, 2147483648)], [], [], [(0, (0, 3, 3)), (0, (0, 2147483648, 2147483648))])
def kd_S167_1 : kd_St := (2, [], 0, [(3, 1, 1), (2, 0, 18446744073709551615), (9, 0, 0), (0, 2147483649, 2147483649)], [], [], [(0, (0, 3, 3)), (0, (0, 2147483649, 2147483649))])
def kd_S167_2 : kd_St := (2, [(2147483649, 2147483653)], 1, [(3, 1, 1), (2, 0, 18446744073709551615), (9, 0, 0), (0, 2147483650, 2147483650)], [(1, 0, (1, 0, 2147483648))], [], [(0, (0, 3, 3)), (0, (0, 2147483650, 2147483650))])
def kd_S167_3 : kd_St := (2, [(2147483650, 2147483653)], 1, [(3, 1, 1), (2, 0, 18446744073709551615), (9, 0, 0), (0, 2147483651, 2147483651)], [(1, 0, (1, 0, 2147483648))], [], [(0, (0, 3, 3)), (0, (0, 2147483651, 2147483651))])
def kd_S167_4 : kd_St := (2, [(2147483651, 2147483653)], 1, [(3, 1, 1), (2, 0, 18446744073709551615), (9, 0, 0), (0, 2147483652, 2147483652)], [(1, 0, (1, 0, 2147483648))], [], [(0, (0, 3, 3)), (0, (0, 2147483652, 2147483652))])
def kd_S167_5 : kd_St := (2, [(2147483652, 2147483653)], 1, [(3, 1, 1), (2, 0, 18446744073709551615), (9, 0, 0), (0, 2147483653, 2147483653)], [(1, 0, (1, 0, 2147483648))], [], [(0, (0, 3, 3)), (0, (0, 2147483653, 2147483653))])
def kd_S167_6 : kd_St := (2, [], 0, [(3, 1, 1), (2, 0, 18446744073709551615), (9, 0, 0), (0, 2147483654, 2147483654)], [(1, 0, (0, 2147483653, 2147483653))], [], [(0, (0, 3, 3)), (0, (0, 2147483654, 2147483654))])
def kd_S167 : List kd_St := [kd_S167_0, kd_S167_1, kd_S167_2, kd_S167_3, kd_S167_4, kd_S167_5, kd_S167_6]
theorem kd_e167 : kd_run0 kd_ty kd_x167 4 (kd_call kd_ty kd_xt (kd_ctl kd_C167) 600 0) kd_T167 600 kd_S167 = true := by decide +kernel
theorem kd_r167_0 : kd_run1 kd_ty kd_x167 4 (kd_call kd_ty kd_xt (kd_ctl kd_C167) 600 0) kd_T167.2.2 600 kd_S167 kd_S167_0 = true := by decide +kernel
theorem kd_r167_1 : kd_run1 kd_ty kd_x167 4 (kd_call kd_ty kd_xt (kd_ctl kd_C167) 600 0) kd_T167.2.2 600 kd_S167 kd_S167_1 = true := by decide +kernel
theorem kd_r167_2 : kd_run1 kd_ty kd_x167 4 (kd_call kd_ty kd_xt (kd_ctl kd_C167) 600 0) kd_T167.2.2 600 kd_S167 kd_S167_2 = true := by decide +kernel
theorem kd_r167_3 : kd_run1 kd_ty kd_x167 4 (kd_call kd_ty kd_xt (kd_ctl kd_C167) 600 0) kd_T167.2.2 600 kd_S167 kd_S167_3 = true := by decide +kernel
theorem kd_r167_4 : kd_run1 kd_ty kd_x167 4 (kd_call kd_ty kd_xt (kd_ctl kd_C167) 600 0) kd_T167.2.2 600 kd_S167 kd_S167_4 = true := by decide +kernel
theorem kd_r167_5 : kd_run1 kd_ty kd_x167 4 (kd_call kd_ty kd_xt (kd_ctl kd_C167) 600 0) kd_T167.2.2 600 kd_S167 kd_S167_5 = true := by decide +kernel
theorem kd_r167_6 : kd_run1 kd_ty kd_x167 4 (kd_call kd_ty kd_xt (kd_ctl kd_C167) 600 0) kd_T167.2.2 600 kd_S167 kd_S167_6 = true := by decide +kernel
theorem kd_h167 {g : kc_G} (hg : kc_ok g) : kd_hold g 2 kd_ty 167 kd_T167 := kd_mk (d0 := 1) (di := 0) hg kd_xk167 rfl rfl rfl rfl (kd_al_r kd_C167 ⟨kd_hold_le (kd_h168c8 hg) (by decide), kd_hold_le (kd_h168c7 hg) (by decide), kd_hold_le (kd_h168c6 hg) (by decide), kd_hold_le (kd_h168c5 hg) (by decide), kd_hold_le (kd_h168c4 hg) (by decide), kd_hold_le (kd_h168c3 hg) (by decide), trivial⟩) (by decide) (by decide +kernel) kd_e167 (kd_al_r kd_S167 ⟨kd_r167_0, kd_r167_1, kd_r167_2, kd_r167_3, kd_r167_4, kd_r167_5, kd_r167_6, trivial⟩)
def kd_P165 : List kd_P := [(some (2, 0, 18446744073709551615), [], [])]
def kd_T165 : kd_Tc := ([(3, 0, 0)], [], kd_P165)
def kd_C165 : List (Nat × kd_Tc) := [(167, kd_T167), (166, kd_T166), (168, kd_T168c27), (168, kd_T168c26), (168, kd_T168c25), (168, kd_T168c24), (168, kd_T168c23), (168, kd_T168c22), (168, kd_T168c21), (168, kd_T168c20), (168, kd_T168c19), (168, kd_T168c18), (168, kd_T168c17), (168, kd_T168c16), (168, kd_T168c14), (168, kd_T168c13), (168, kd_T168c12), (168, kd_T168c30), (168, kd_T168c29)]
def kd_S165_0 : kd_St := (97, [], 0, [(3, 0, 0), (2, 0, 18446744073709551615), (9, 0, 0), (0, 2147483648, 2147483648)], [], [], [(0, (0, 98, 98)), (0, (0, 2147483648, 2147483648))])
def kd_S165_1 : kd_St := (97, [], 0, [(3, 0, 0), (2, 0, 18446744073709551615), (9, 0, 0), (0, 2147483649, 2147483649)], [], [], [(0, (0, 98, 98)), (0, (0, 2147483649, 2147483649))])
def kd_S165_2 : kd_St := (97, [], 0, [(3, 0, 0), (2, 0, 18446744073709551615), (9, 0, 0), (0, 2147483650, 2147483650)], [], [], [(0, (0, 98, 98)), (0, (0, 2147483650, 2147483650))])
def kd_S165 : List kd_St := [kd_S165_0, kd_S165_1, kd_S165_2]
theorem kd_e165 : kd_run0 kd_ty kd_x165 4 (kd_call kd_ty kd_xt (kd_ctl kd_C165) 600 1) kd_T165 600 kd_S165 = true := by decide +kernel
theorem kd_r165_0 : kd_run1 kd_ty kd_x165 4 (kd_call kd_ty kd_xt (kd_ctl kd_C165) 600 1) kd_T165.2.2 600 kd_S165 kd_S165_0 = true := by decide +kernel
theorem kd_r165_1 : kd_run1 kd_ty kd_x165 4 (kd_call kd_ty kd_xt (kd_ctl kd_C165) 600 1) kd_T165.2.2 600 kd_S165 kd_S165_1 = true := by decide +kernel
theorem kd_r165_2 : kd_run1 kd_ty kd_x165 4 (kd_call kd_ty kd_xt (kd_ctl kd_C165) 600 1) kd_T165.2.2 600 kd_S165 kd_S165_2 = true := by decide +kernel
theorem kd_h165 {g : kc_G} (hg : kc_ok g) : kd_hold g 4 kd_ty 165 kd_T165 := kd_mk (d0 := 2) (di := 1) hg kd_xk165 rfl rfl rfl rfl (kd_al_r kd_C165 ⟨kd_hold_le (kd_h167 hg) (by decide), kd_hold_le (kd_h166 hg) (by decide), kd_hold_le (kd_h168c27 hg) (by decide), kd_hold_le (kd_h168c26 hg) (by decide), kd_hold_le (kd_h168c25 hg) (by decide), kd_hold_le (kd_h168c24 hg) (by decide), kd_hold_le (kd_h168c23 hg) (by decide), kd_hold_le (kd_h168c22 hg) (by decide), kd_hold_le (kd_h168c21 hg) (by decide), kd_hold_le (kd_h168c20 hg) (by decide), kd_hold_le (kd_h168c19 hg) (by decide), kd_hold_le (kd_h168c18 hg) (by decide), kd_hold_le (kd_h168c17 hg) (by decide), kd_hold_le (kd_h168c16 hg) (by decide), kd_hold_le (kd_h168c14 hg) (by decide), kd_hold_le (kd_h168c13 hg) (by decide), kd_hold_le (kd_h168c12 hg) (by decide), kd_hold_le (kd_h168c30 hg) (by decide), kd_hold_le (kd_h168c29 hg) (by decide), trivial⟩) (by decide) (by decide +kernel) kd_e165 (kd_al_r kd_S165 ⟨kd_r165_0, kd_r165_1, kd_r165_2, trivial⟩)
