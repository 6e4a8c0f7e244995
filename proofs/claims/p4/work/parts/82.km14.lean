/-! ===== contracts, km 14 ===== -/
def kd_P170 : List kd_P := [(some (2, 0, 18446744073709551615), [], [])]
def kd_T170 : kd_Tc := ([(3, 259, 259)], [], kd_P170)
def kd_C170 : List (Nat × kd_Tc) := [(171, kd_T171f60), (171, kd_T171f80), (171, kd_T171f150), (171, kd_T171f410), (171, kd_T171f170), (164, kd_T164)]
def kd_S170_0 : kd_St := (6, [], 0, [(3, 259, 259), (2, 9223372036854776311, 9223372036854776311), (9, 0, 0), (0, 2147483648, 2147483648)], [], [], [(0, (0, 7, 7)), (0, (0, 2147483648, 2147483648))])
def kd_S170_1 : kd_St := (6, [], 0, [(3, 259, 259), (2, 0, 18446744073709551615), (9, 0, 0), (0, 2147483649, 2147483649)], [], [], [(0, (0, 7, 7)), (0, (0, 2147483649, 2147483649))])
def kd_S170_2 : kd_St := (6, [], 0, [(3, 259, 259), (2, 0, 18446744073709551615), (9, 0, 0), (0, 2147483650, 2147483650)], [], [], [(0, (0, 7, 7)), (0, (0, 2147483650, 2147483650))])
def kd_S170_3 : kd_St := (6, [], 0, [(3, 259, 259), (2, 0, 18446744073709551615), (9, 0, 0), (0, 2147483651, 2147483651)], [], [], [(0, (0, 7, 7)), (0, (0, 2147483651, 2147483651))])
def kd_S170_4 : kd_St := (6, [], 0, [(3, 259, 259), (2, 0, 18446744073709551615), (9, 0, 0), (0, 2147483652, 2147483652)], [], [], [(0, (0, 7, 7)), (0, (0, 2147483652, 2147483652))])
def kd_S170_5 : kd_St := (6, [], 0, [(3, 259, 259), (2, 0, 18446744073709551615), (9, 0, 0), (0, 2147483653, 2147483653)], [], [], [(0, (0, 7, 7)), (0, (0, 2147483653, 2147483653))])
def kd_S170_6 : kd_St := (6, [], 0, [(3, 259, 259), (2, 0, 18446744073709551615), (9, 0, 0), (0, 2147483654, 2147483654)], [], [], [(0, (0, 7, 7)), (0, (0, 2147483654, 2147483654))])
def kd_S170_7 : kd_St := (33, [], 0, [(3, 259, 259), (2, 0, 18446744073709551615), (9, 0, 0), (0, 2147483648, 2147483648)], [], [], [(0, (0, 34, 34)), (0, (0, 2147483648, 2147483648))])
def kd_S170_8 : kd_St := (33, [], 0, [(3, 259, 259), (2, 0, 18446744073709551615), (9, 0, 0), (0, 2147483649, 2147483649)], [], [], [(0, (0, 34, 34)), (0, (0, 2147483649, 2147483649))])
def kd_S170_9 : kd_St := (33, [(2147483649, 2147483653)], 1, [(3, 259, 259), (2, 0, 18446744073709551615), (9, 0, 0), (0, 2147483650, 2147483650)], [(260, 0, (1, 0, 2147483648))], [], [(0, (0, 34, 34)), (0, (0, 2147483650, 2147483650))])
def kd_S170_10 : kd_St := (153, [], 0, [(3, 259, 259), (2, 0, 18446744073709551615), (9, 0, 0), (0, 2147483648, 2147483648)], [], [], [(0, (0, 154, 154)), (0, (0, 2147483648, 2147483648))])
def kd_S170_11 : kd_St := (153, [], 0, [(3, 259, 259), (2, 0, 18446744073709551615), (9, 0, 0), (0, 2147483649, 2147483649)], [], [], [(0, (0, 154, 154)), (0, (0, 2147483649, 2147483649))])
def kd_S170_12 : kd_St := (153, [], 0, [(3, 259, 259), (2, 0, 18446744073709551615), (9, 0, 0), (0, 2147483650, 2147483650)], [], [], [(0, (0, 154, 154)), (0, (0, 2147483650, 2147483650))])
def kd_S170_13 : kd_St := (33, [(2147483650, 2147483653)], 1, [(3, 259, 259), (2, 0, 18446744073709551615), (9, 0, 0), (0, 2147483651, 2147483651)], [(260, 0, (1, 0, 2147483648))], [], [(0, (0, 34, 34)), (0, (0, 2147483651, 2147483651))])
def kd_S170_14 : kd_St := (33, [(2147483651, 2147483653)], 1, [(3, 259, 259), (2, 0, 18446744073709551615), (9, 0, 0), (0, 2147483652, 2147483652)], [(260, 0, (1, 0, 2147483648))], [], [(0, (0, 34, 34)), (0, (0, 2147483652, 2147483652))])
def kd_S170_15 : kd_St := (33, [(2147483652, 2147483653)], 1, [(3, 259, 259), (2, 0, 18446744073709551615), (9, 0, 0), (0, 2147483653, 2147483653)], [(260, 0, (1, 0, 2147483648))], [], [(0, (0, 34, 34)), (0, (0, 2147483653, 2147483653))])
def kd_S170_16 : kd_St := (33, [], 0, [(3, 259, 259), (2, 0, 18446744073709551615), (9, 0, 0), (0, 2147483654, 2147483654)], [(260, 0, (0, 2147483653, 2147483653))], [], [(0, (0, 34, 34)), (0, (0, 2147483654, 2147483654))])
def kd_S170 : List kd_St := [kd_S170_0, kd_S170_1, kd_S170_2, kd_S170_3, kd_S170_4, kd_S170_5, kd_S170_6, kd_S170_7, kd_S170_8, kd_S170_9, kd_S170_10, kd_S170_11, kd_S170_12, kd_S170_13, kd_S170_14, kd_S170_15, kd_S170_16]
theorem kd_e170 : kd_run0 kd_ty kd_x170 4 (kd_call kd_ty kd_xt (kd_ctl kd_C170) 600 1) kd_T170 600 kd_S170 = true := by decide +kernel
theorem kd_r170_0 : kd_run1 kd_ty kd_x170 4 (kd_call kd_ty kd_xt (kd_ctl kd_C170) 600 1) kd_T170.2.2 600 kd_S170 kd_S170_0 = true := by decide +kernel
theorem kd_r170_1 : kd_run1 kd_ty kd_x170 4 (kd_call kd_ty kd_xt (kd_ctl kd_C170) 600 1) kd_T170.2.2 600 kd_S170 kd_S170_1 = true := by decide +kernel
theorem kd_r170_2 : kd_run1 kd_ty kd_x170 4 (kd_call kd_ty kd_xt (kd_ctl kd_C170) 600 1) kd_T170.2.2 600 kd_S170 kd_S170_2 = true := by decide +kernel
theorem kd_r170_3 : kd_run1 kd_ty kd_x170 4 (kd_call kd_ty kd_xt (kd_ctl kd_C170) 600 1) kd_T170.2.2 600 kd_S170 kd_S170_3 = true := by decide +kernel
theorem kd_r170_4 : kd_run1 kd_ty kd_x170 4 (kd_call kd_ty kd_xt (kd_ctl kd_C170) 600 1) kd_T170.2.2 600 kd_S170 kd_S170_4 = true := by decide +kernel
theorem kd_r170_5 : kd_run1 kd_ty kd_x170 4 (kd_call kd_ty kd_xt (kd_ctl kd_C170) 600 1) kd_T170.2.2 600 kd_S170 kd_S170_5 = true := by decide +kernel
theorem kd_r170_6 : kd_run1 kd_ty kd_x170 4 (kd_call kd_ty kd_xt (kd_ctl kd_C170) 600 1) kd_T170.2.2 600 kd_S170 kd_S170_6 = true := by decide +kernel
theorem kd_r170_7 : kd_run1 kd_ty kd_x170 4 (kd_call kd_ty kd_xt (kd_ctl kd_C170) 600 1) kd_T170.2.2 600 kd_S170 kd_S170_7 = true := by decide +kernel
theorem kd_r170_8 : kd_run1 kd_ty kd_x170 4 (kd_call kd_ty kd_xt (kd_ctl kd_C170) 600 1) kd_T170.2.2 600 kd_S170 kd_S170_8 = true := by decide +kernel
theorem kd_r170_9 : kd_run1 kd_ty kd_x170 4 (kd_call kd_ty kd_xt (kd_ctl kd_C170) 600 1) kd_T170.2.2 600 kd_S170 kd_S170_9 = true := by decide +kernel
theorem kd_r170_10 : kd_run1 kd_ty kd_x170 4 (kd_call kd_ty kd_xt (kd_ctl kd_C170) 600 1) kd_T170.2.2 600 kd_S170 kd_S170_10 = true := by decide +kernel
theorem kd_r170_11 : kd_run1 kd_ty kd_x170 4 (kd_call kd_ty kd_xt (kd_ctl kd_C170) 600 1) kd_T170.2.2 600 kd_S170 kd_S170_11 = true := by decide +kernel
theorem kd_r170_12 : kd_run1 kd_ty kd_x170 4 (kd_call kd_ty kd_xt (kd_ctl kd_C170) 600 1) kd_T170.2.2 600 kd_S170 kd_S170_12 = true := by decide +kernel
theorem kd_r170_13 : kd_run1 kd_ty kd_x170 4 (kd_call kd_ty kd_xt (kd_ctl kd_C170) 600 1) kd_T170.2.2 600 kd_S170 kd_S170_13 = true := by decide +kernel
theorem kd_r170_14 : kd_run1 kd_ty kd_x170 4 (kd_call kd_ty kd_xt (kd_ctl kd_C170) 600 1) kd_T170.2.2 600 kd_S170 kd_S170_14 = true := by decide +kernel
theorem kd_r170_15 : kd_run1 kd_ty kd_x170 4 (kd_call kd_ty kd_xt (kd_ctl kd_C170) 600 1) kd_T170.2.2 600 kd_S170 kd_S170_15 = true := by decide +kernel
theorem kd_r170_16 : kd_run1 kd_ty kd_x170 4 (kd_call kd_ty kd_xt (kd_ctl kd_C170) 600 1) kd_T170.2.2 600 kd_S170 kd_S170_16 = true := by decide +kernel
theorem kd_h170 {g : kc_G} (hg : kc_ok g) : kd_hold g 3 kd_ty 170 kd_T170 := kd_mk (d0 := 1) (di := 1) hg kd_xk170 rfl rfl rfl rfl (kd_al_r kd_C170 ⟨kd_hold_le (kd_h171f60 hg) (by decide), kd_hold_le (kd_h171f80 hg) (by decide), kd_hold_le (kd_h171f150 hg) (by decide), kd_hold_le (kd_h171f410 hg) (by decide), kd_hold_le (kd_h171f170 hg) (by decide), kd_hold_le (kd_h164 hg) (by decide), trivial⟩) (by decide) (by decide +kernel) kd_e170 (kd_al_r kd_S170 ⟨kd_r170_0, kd_r170_1, kd_r170_2, kd_r170_3, kd_r170_4, kd_r170_5, kd_r170_6, kd_r170_7, kd_r170_8, kd_r170_9, kd_r170_10, kd_r170_11, kd_r170_12, kd_r170_13, kd_r170_14, kd_r170_15, kd_r170_16, trivial⟩)
