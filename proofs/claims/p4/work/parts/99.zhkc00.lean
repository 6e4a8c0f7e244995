/-! ===== contracts, zhkc 0 ===== -/
def kd_P54t1 : List kd_P := [(some (0, 2147483644, 2147483888), [], [(31, 31, 0, 1), (29, 30, 0, 239)])]
def kd_T54t1 : kd_Tc := ([(3, 0, 0), (0, 2147483649, 2147483649), (2, 0, 18446744073709551615), (0, 0, 4294967295)], [], kd_P54t1)
def kd_C54t1 : List (Nat × kd_Tc) := [(55, kd_T55)]
def kd_S54t1 : List kd_St := []
theorem kd_e54t1 : kd_run0 kd_ty kd_x54 5 (kd_call kd_ty kd_xt (kd_ctl kd_C54t1) 600 0) kd_T54t1 600 kd_S54t1 = true := by decide +kernel
theorem kd_h54t1 {g : kc_G} (hg : kc_ok g) : kd_hold g 3 kd_ty 54 kd_T54t1 := kd_mk (d0 := 2) (di := 0) hg kd_xk54 rfl rfl rfl rfl (kd_al_r kd_C54t1 ⟨kd_hold_le (kd_h55 hg) (by decide), trivial⟩) (by decide) (by decide +kernel) kd_e54t1 (kd_al_r kd_S54t1 trivial)
def kd_P55th : List kd_P := [(some (0, 2147483646, 2147483646), [], [])]
def kd_T55th : kd_Tc := ([(3, 1, 1), (0, 2147483650, 4294967295), (2, 0, 18446744073709551615), (0, 0, 4294967295)], [], kd_P55th)
def kd_C55th : List (Nat × kd_Tc) := []
def kd_S55th : List kd_St := []
theorem kd_e55th : kd_run0 kd_ty kd_x55 6 (kd_call kd_ty kd_xt (kd_ctl kd_C55th) 600 1) kd_T55th 600 kd_S55th = true := by decide +kernel
theorem kd_h55th {g : kc_G} (hg : kc_ok g) : kd_hold g 2 kd_ty 55 kd_T55th := kd_mk (d0 := 0) (di := 1) hg kd_xk55 rfl rfl rfl rfl (kd_al_r kd_C55th trivial) (by decide) (by decide +kernel) kd_e55th (kd_al_r kd_S55th trivial)
def kd_P54th : List kd_P := [(some (0, 2147483646, 2147483646), [], [])]
def kd_T54th : kd_Tc := ([(3, 0, 0), (0, 2147483650, 4294967295), (2, 0, 18446744073709551615), (0, 0, 4294967295)], [], kd_P54th)
def kd_C54th : List (Nat × kd_Tc) := [(55, kd_T55th)]
def kd_S54th : List kd_St := []
theorem kd_e54th : kd_run0 kd_ty kd_x54 5 (kd_call kd_ty kd_xt (kd_ctl kd_C54th) 600 0) kd_T54th 600 kd_S54th = true := by decide +kernel
theorem kd_h54th {g : kc_G} (hg : kc_ok g) : kd_hold g 3 kd_ty 54 kd_T54th := kd_mk (d0 := 2) (di := 0) hg kd_xk54 rfl rfl rfl rfl (kd_al_r kd_C54th ⟨kd_hold_le (kd_h55th hg) (by decide), trivial⟩) (by decide) (by decide +kernel) kd_e54th (kd_al_r kd_S54th trivial)
def kd_P55tl : List kd_P := [(some (0, 2147483646, 2147483646), [], [])]
def kd_T55tl : kd_Tc := ([(3, 1, 1), (0, 0, 2147483647), (2, 0, 18446744073709551615), (0, 0, 4294967295)], [], kd_P55tl)
def kd_C55tl : List (Nat × kd_Tc) := []
def kd_S55tl : List kd_St := []
theorem kd_e55tl : kd_run0 kd_ty kd_x55 6 (kd_call kd_ty kd_xt (kd_ctl kd_C55tl) 600 1) kd_T55tl 600 kd_S55tl = true := by decide +kernel
theorem kd_h55tl {g : kc_G} (hg : kc_ok g) : kd_hold g 2 kd_ty 55 kd_T55tl := kd_mk (d0 := 0) (di := 1) hg kd_xk55 rfl rfl rfl rfl (kd_al_r kd_C55tl trivial) (by decide) (by decide +kernel) kd_e55tl (kd_al_r kd_S55tl trivial)
def kd_P54tl : List kd_P := [(some (0, 2147483646, 2147483646), [], [])]
def kd_T54tl : kd_Tc := ([(3, 0, 0), (0, 0, 2147483647), (2, 0, 18446744073709551615), (0, 0, 4294967295)], [], kd_P54tl)
def kd_C54tl : List (Nat × kd_Tc) := [(55, kd_T55tl)]
def kd_S54tl : List kd_St := []
theorem kd_e54tl : kd_run0 kd_ty kd_x54 5 (kd_call kd_ty kd_xt (kd_ctl kd_C54tl) 600 0) kd_T54tl 600 kd_S54tl = true := by decide +kernel
theorem kd_h54tl {g : kc_G} (hg : kc_ok g) : kd_hold g 3 kd_ty 54 kd_T54tl := kd_mk (d0 := 2) (di := 0) hg kd_xk54 rfl rfl rfl rfl (kd_al_r kd_C54tl ⟨kd_hold_le (kd_h55tl hg) (by decide), trivial⟩) (by decide) (by decide +kernel) kd_e54tl (kd_al_r kd_S54tl trivial)
def kd_P55nl : List kd_P := [(some (0, 2147483646, 2147483646), [], [])]
def kd_T55nl : kd_Tc := ([(3, 1, 1), (0, 2147483648, 2147483648), (2, 0, 18446744073709551615), (0, 0, 2147483648)], [], kd_P55nl)
def kd_C55nl : List (Nat × kd_Tc) := []
def kd_S55nl : List kd_St := []
theorem kd_e55nl : kd_run0 kd_ty kd_x55 6 (kd_call kd_ty kd_xt (kd_ctl kd_C55nl) 600 1) kd_T55nl 600 kd_S55nl = true := by decide +kernel
theorem kd_h55nl {g : kc_G} (hg : kc_ok g) : kd_hold g 2 kd_ty 55 kd_T55nl := kd_mk (d0 := 0) (di := 1) hg kd_xk55 rfl rfl rfl rfl (kd_al_r kd_C55nl trivial) (by decide) (by decide +kernel) kd_e55nl (kd_al_r kd_S55nl trivial)
def kd_P54nl : List kd_P := [(some (0, 2147483646, 2147483646), [], [])]
def kd_T54nl : kd_Tc := ([(3, 0, 0), (0, 2147483648, 2147483648), (2, 0, 18446744073709551615), (0, 0, 2147483648)], [], kd_P54nl)
def kd_C54nl : List (Nat × kd_Tc) := [(55, kd_T55nl)]
def kd_S54nl : List kd_St := []
theorem kd_e54nl : kd_run0 kd_ty kd_x54 5 (kd_call kd_ty kd_xt (kd_ctl kd_C54nl) 600 0) kd_T54nl 600 kd_S54nl = true := by decide +kernel
theorem kd_h54nl {g : kc_G} (hg : kc_ok g) : kd_hold g 3 kd_ty 54 kd_T54nl := kd_mk (d0 := 2) (di := 0) hg kd_xk54 rfl rfl rfl rfl (kd_al_r kd_C54nl ⟨kd_hold_le (kd_h55nl hg) (by decide), trivial⟩) (by decide) (by decide +kernel) kd_e54nl (kd_al_r kd_S54nl trivial)
def kd_P55nh : List kd_P := [(some (0, 2147483646, 2147483646), [], [])]
def kd_T55nh : kd_Tc := ([(3, 1, 1), (0, 2147483648, 2147483648), (2, 0, 18446744073709551615), (0, 2147483657, 4294967295)], [], kd_P55nh)
def kd_C55nh : List (Nat × kd_Tc) := []
def kd_S55nh : List kd_St := []
theorem kd_e55nh : kd_run0 kd_ty kd_x55 6 (kd_call kd_ty kd_xt (kd_ctl kd_C55nh) 600 1) kd_T55nh 600 kd_S55nh = true := by decide +kernel
theorem kd_h55nh {g : kc_G} (hg : kc_ok g) : kd_hold g 2 kd_ty 55 kd_T55nh := kd_mk (d0 := 0) (di := 1) hg kd_xk55 rfl rfl rfl rfl (kd_al_r kd_C55nh trivial) (by decide) (by decide +kernel) kd_e55nh (kd_al_r kd_S55nh trivial)
def kd_P54nh : List kd_P := [(some (0, 2147483646, 2147483646), [], [])]
def kd_T54nh : kd_Tc := ([(3, 0, 0), (0, 2147483648, 2147483648), (2, 0, 18446744073709551615), (0, 2147483657, 4294967295)], [], kd_P54nh)
def kd_C54nh : List (Nat × kd_Tc) := [(55, kd_T55nh)]
def kd_S54nh : List kd_St := []
theorem kd_e54nh : kd_run0 kd_ty kd_x54 5 (kd_call kd_ty kd_xt (kd_ctl kd_C54nh) 600 0) kd_T54nh 600 kd_S54nh = true := by decide +kernel
theorem kd_h54nh {g : kc_G} (hg : kc_ok g) : kd_hold g 3 kd_ty 54 kd_T54nh := kd_mk (d0 := 2) (di := 0) hg kd_xk54 rfl rfl rfl rfl (kd_al_r kd_C54nh ⟨kd_hold_le (kd_h55nh hg) (by decide), trivial⟩) (by decide) (by decide +kernel) kd_e54nh (kd_al_r kd_S54nh trivial)
def kd_P58t0 : List kd_P := [(some (0, 2147483648, 2147483888), [(31, 0, (0, 2147483648, 2147483648))], [(31, 31, 0, 0)])]
def kd_T58t0 : kd_Tc := ([(3, 0, 0), (0, 2147483648, 2147483648)], [], kd_P58t0)
def kd_C58t0 : List (Nat × kd_Tc) := []
def kd_S58t0 : List kd_St := []
theorem kd_e58t0 : kd_run0 kd_ty kd_x58 3 (kd_call kd_ty kd_xt (kd_ctl kd_C58t0) 600 1) kd_T58t0 600 kd_S58t0 = true := by decide +kernel
theorem kd_h58t0 {g : kc_G} (hg : kc_ok g) : kd_hold g 2 kd_ty 58 kd_T58t0 := kd_mk (d0 := 0) (di := 1) hg kd_xk58 rfl rfl rfl rfl (kd_al_r kd_C58t0 trivial) (by decide) (by decide +kernel) kd_e58t0 (kd_al_r kd_S58t0 trivial)
def kd_P58t1 : List kd_P := [(some (0, 2147483648, 2147483888), [], [(31, 31, 1, 1)])]
def kd_T58t1 : kd_Tc := ([(3, 0, 0), (0, 2147483649, 2147483649)], [], kd_P58t1)
def kd_C58t1 : List (Nat × kd_Tc) := []
def kd_S58t1 : List kd_St := []
theorem kd_e58t1 : kd_run0 kd_ty kd_x58 3 (kd_call kd_ty kd_xt (kd_ctl kd_C58t1) 600 1) kd_T58t1 600 kd_S58t1 = true := by decide +kernel
theorem kd_h58t1 {g : kc_G} (hg : kc_ok g) : kd_hold g 2 kd_ty 58 kd_T58t1 := kd_mk (d0 := 0) (di := 1) hg kd_xk58 rfl rfl rfl rfl (kd_al_r kd_C58t1 trivial) (by decide) (by decide +kernel) kd_e58t1 (kd_al_r kd_S58t1 trivial)
def kd_P58th : List kd_P := [(some (0, 2147483646, 2147483646), [], [])]
def kd_T58th : kd_Tc := ([(3, 0, 0), (0, 2147483650, 4294967295)], [], kd_P58th)
def kd_C58th : List (Nat × kd_Tc) := []
def kd_S58th : List kd_St := []
theorem kd_e58th : kd_run0 kd_ty kd_x58 3 (kd_call kd_ty kd_xt (kd_ctl kd_C58th) 600 1) kd_T58th 600 kd_S58th = true := by decide +kernel
theorem kd_h58th {g : kc_G} (hg : kc_ok g) : kd_hold g 2 kd_ty 58 kd_T58th := kd_mk (d0 := 0) (di := 1) hg kd_xk58 rfl rfl rfl rfl (kd_al_r kd_C58th trivial) (by decide) (by decide +kernel) kd_e58th (kd_al_r kd_S58th trivial)
def kd_P58tl : List kd_P := [(some (0, 2147483646, 2147483646), [], [])]
def kd_T58tl : kd_Tc := ([(3, 0, 0), (0, 0, 2147483647)], [], kd_P58tl)
def kd_C58tl : List (Nat × kd_Tc) := []
def kd_S58tl : List kd_St := []
theorem kd_e58tl : kd_run0 kd_ty kd_x58 3 (kd_call kd_ty kd_xt (kd_ctl kd_C58tl) 600 1) kd_T58tl 600 kd_S58tl = true := by decide +kernel
theorem kd_h58tl {g : kc_G} (hg : kc_ok g) : kd_hold g 2 kd_ty 58 kd_T58tl := kd_mk (d0 := 0) (di := 1) hg kd_xk58 rfl rfl rfl rfl (kd_al_r kd_C58tl trivial) (by decide) (by decide +kernel) kd_e58tl (kd_al_r kd_S58tl trivial)
def kd_P157th : List kd_P := [(some (0, 2147483646, 2147483646), [], [])]
def kd_T157th : kd_Tc := ([(3, 0, 0), (0, 2147483650, 4294967295)], [], kd_P157th)
def kd_C157th : List (Nat × kd_Tc) := []
def kd_S157th : List kd_St := []
theorem kd_e157th : kd_run0 kd_ty kd_x157 2 (kd_call kd_ty kd_xt (kd_ctl kd_C157th) 600 1) kd_T157th 600 kd_S157th = true := by decide +kernel
theorem kd_h157th {g : kc_G} (hg : kc_ok g) : kd_hold g 2 kd_ty 157 kd_T157th := kd_mk (d0 := 0) (di := 1) hg kd_xk157 rfl rfl rfl rfl (kd_al_r kd_C157th trivial) (by decide) (by decide +kernel) kd_e157th (kd_al_r kd_S157th trivial)
def kd_P159th : List kd_P := [(some (0, 2147483646, 2147483646), [], [])]
def kd_T159th : kd_Tc := ([(3, 0, 0), (0, 2147483650, 4294967295)], [], kd_P159th)
def kd_C159th : List (Nat × kd_Tc) := []
def kd_S159th : List kd_St := []
theorem kd_e159th : kd_run0 kd_ty kd_x159 2 (kd_call kd_ty kd_xt (kd_ctl kd_C159th) 600 1) kd_T159th 600 kd_S159th = true := by decide +kernel
theorem kd_h159th {g : kc_G} (hg : kc_ok g) : kd_hold g 2 kd_ty 159 kd_T159th := kd_mk (d0 := 0) (di := 1) hg kd_xk159 rfl rfl rfl rfl (kd_al_r kd_C159th trivial) (by decide) (by decide +kernel) kd_e159th (kd_al_r kd_S159th trivial)
def kd_P157tl : List kd_P := [(some (0, 2147483646, 2147483646), [], [])]
def kd_T157tl : kd_Tc := ([(3, 0, 0), (0, 0, 2147483647)], [], kd_P157tl)
def kd_C157tl : List (Nat × kd_Tc) := []
def kd_S157tl : List kd_St := []
theorem kd_e157tl : kd_run0 kd_ty kd_x157 2 (kd_call kd_ty kd_xt (kd_ctl kd_C157tl) 600 1) kd_T157tl 600 kd_S157tl = true := by decide +kernel
theorem kd_h157tl {g : kc_G} (hg : kc_ok g) : kd_hold g 2 kd_ty 157 kd_T157tl := kd_mk (d0 := 0) (di := 1) hg kd_xk157 rfl rfl rfl rfl (kd_al_r kd_C157tl trivial) (by decide) (by decide +kernel) kd_e157tl (kd_al_r kd_S157tl trivial)
def kd_P159tl : List kd_P := [(some (0, 2147483646, 2147483646), [], [])]
def kd_T159tl : kd_Tc := ([(3, 0, 0), (0, 0, 2147483647)], [], kd_P159tl)
def kd_C159tl : List (Nat × kd_Tc) := []
def kd_S159tl : List kd_St := []
theorem kd_e159tl : kd_run0 kd_ty kd_x159 2 (kd_call kd_ty kd_xt (kd_ctl kd_C159tl) 600 1) kd_T159tl 600 kd_S159tl = true := by decide +kernel
theorem kd_h159tl {g : kc_G} (hg : kc_ok g) : kd_hold g 2 kd_ty 159 kd_T159tl := kd_mk (d0 := 0) (di := 1) hg kd_xk159 rfl rfl rfl rfl (kd_al_r kd_C159tl trivial) (by decide) (by decide +kernel) kd_e159tl (kd_al_r kd_S159tl trivial)
