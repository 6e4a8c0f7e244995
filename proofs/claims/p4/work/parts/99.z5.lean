/-! ===== the verbs of a day, run by the engine 4 ===== -/
def kv_TrloadB (x : Nat) : kd_Tc := ([(3, 259, 259), (0, 2147483649, 2147483747), (0, 2147483648, 2147483649), (0, 2147483648, 2147483648 + x), (0, 2147483648 + x+1, 2147483648 + x+1)], [(260, 0, (0, 2147483648 + x+1, 2147483653)), (260, 2, (1, 0, 2147483648))], [(some (0, 2147483648, 4294967295), [(260, 2, (1, 0, 2147483649))], [(260, 260, 2, 2), (260, 260, 80, 149)])])
theorem kv_rrloadB : ∀ x, x < 5 → kd_runv kd_ty kd_x43 6 (kd_call kd_ty kd_xt (kd_ctl []) 600 2) [(2147483648, 2147483657)] 1 (kv_TrloadB x) 600 = true := by decide +kernel
theorem kv_hrloadB {g : kc_G} (hg : kc_ok g) {x : Nat} (hx : x < 5) : kd_holdv g 3 kd_ty 43 [(2147483648, 2147483657)] 1 (kv_TrloadB x) := kd_newv hg kd_xk43 rfl rfl rfl rfl (fun h0 => kd_call_r (d0 := 0) hg kd_xt_ok (kd_ctl_r [] (fun q hq => by cases hq)) 2) (kv_rrloadB x hx)
def kv_TrloadfB (x : Nat) : kd_Tc := ([(3, 259, 259), (0, 2147483649, 2147483747), (0, 2147483648, 2147483649), (0, 2147483648, 2147483648 + x), (0, 2147483648 + x+1, 2147483648 + x+1)], [(260, 0, (0, 2147483648 + x+1, 2147483653)), (260, 2, (0, 2147483658, 2147483658))], [(some (0, 0, 2147483647), [], [])])
theorem kv_rrloadfB : ∀ x, x < 5 → kd_runv kd_ty kd_x43 6 (kd_call kd_ty kd_xt (kd_ctl []) 600 2) [] 0 (kv_TrloadfB x) 600 = true := by decide +kernel
theorem kv_hrloadfB {g : kc_G} (hg : kc_ok g) {x : Nat} (hx : x < 5) : kd_holdv g 3 kd_ty 43 [] 0 (kv_TrloadfB x) := kd_newv hg kd_xk43 rfl rfl rfl rfl (fun h0 => kd_call_r (d0 := 0) hg kd_xt_ok (kd_ctl_r [] (fun q hq => by cases hq)) 2) (kv_rrloadfB x hx)
def kv_Trload0 : kd_Tc := ([(3, 259, 259), (0, 0, 2147483648), (0, 0, 4294967295), (0, 0, 4294967295), (0, 0, 4294967295)], [], [(some (0, 0, 2147483647), [], [])])
theorem kv_rrload0 : kd_runv kd_ty kd_x43 6 (kd_call kd_ty kd_xt (kd_ctl []) 600 1) [] 0 kv_Trload0 600 = true := by decide +kernel
theorem kv_hrload0 {g : kc_G} (hg : kc_ok g) : kd_holdv g 2 kd_ty 43 [] 0 kv_Trload0 := kd_newv hg kd_xk43 rfl rfl rfl rfl (fun h0 => kd_call_r (d0 := 0) hg kd_xt_ok (kd_ctl_r [] (fun q hq => by cases hq)) 1) (kv_rrload0 )
def kv_Trload1 : kd_Tc := ([(3, 259, 259), (0, 2147483748, 4294967295), (0, 0, 4294967295), (0, 0, 4294967295), (0, 0, 4294967295)], [], [(some (0, 0, 2147483647), [], [])])
theorem kv_rrload1 : kd_runv kd_ty kd_x43 6 (kd_call kd_ty kd_xt (kd_ctl []) 600 1) [] 0 kv_Trload1 600 = true := by decide +kernel
theorem kv_hrload1 {g : kc_G} (hg : kc_ok g) : kd_holdv g 2 kd_ty 43 [] 0 kv_Trload1 := kd_newv hg kd_xk43 rfl rfl rfl rfl (fun h0 => kd_call_r (d0 := 0) hg kd_xt_ok (kd_ctl_r [] (fun q hq => by cases hq)) 1) (kv_rrload1 )
def kv_Trload2 : kd_Tc := ([(3, 259, 259), (0, 0, 4294967295), (0, 0, 2147483647), (0, 0, 4294967295), (0, 0, 4294967295)], [], [(some (0, 0, 2147483647), [], [])])
theorem kv_rrload2 : kd_runv kd_ty kd_x43 6 (kd_call kd_ty kd_xt (kd_ctl []) 600 1) [] 0 kv_Trload2 600 = true := by decide +kernel
theorem kv_hrload2 {g : kc_G} (hg : kc_ok g) : kd_holdv g 2 kd_ty 43 [] 0 kv_Trload2 := kd_newv hg kd_xk43 rfl rfl rfl rfl (fun h0 => kd_call_r (d0 := 0) hg kd_xt_ok (kd_ctl_r [] (fun q hq => by cases hq)) 1) (kv_rrload2 )
def kv_Trload3 : kd_Tc := ([(3, 259, 259), (0, 0, 4294967295), (0, 2147483650, 4294967295), (0, 0, 4294967295), (0, 0, 4294967295)], [], [(some (0, 0, 2147483647), [], [])])
theorem kv_rrload3 : kd_runv kd_ty kd_x43 6 (kd_call kd_ty kd_xt (kd_ctl []) 600 1) [] 0 kv_Trload3 600 = true := by decide +kernel
theorem kv_hrload3 {g : kc_G} (hg : kc_ok g) : kd_holdv g 2 kd_ty 43 [] 0 kv_Trload3 := kd_newv hg kd_xk43 rfl rfl rfl rfl (fun h0 => kd_call_r (d0 := 0) hg kd_xt_ok (kd_ctl_r [] (fun q hq => by cases hq)) 1) (kv_rrload3 )
def kv_Trload4 : kd_Tc := ([(3, 259, 259), (0, 0, 4294967295), (0, 0, 4294967295), (0, 0, 2147483647), (0, 0, 4294967295)], [], [(some (0, 0, 2147483647), [], [])])
theorem kv_rrload4 : kd_runv kd_ty kd_x43 6 (kd_call kd_ty kd_xt (kd_ctl []) 600 2) [] 0 kv_Trload4 600 = true := by decide +kernel
theorem kv_hrload4 {g : kc_G} (hg : kc_ok g) : kd_holdv g 3 kd_ty 43 [] 0 kv_Trload4 := kd_newv hg kd_xk43 rfl rfl rfl rfl (fun h0 => kd_call_r (d0 := 0) hg kd_xt_ok (kd_ctl_r [] (fun q hq => by cases hq)) 2) (kv_rrload4 )
def kv_Trload5 : kd_Tc := ([(3, 259, 259), (0, 0, 4294967295), (0, 0, 4294967295), (0, 2147483654, 4294967295), (0, 0, 4294967295)], [], [(some (0, 0, 2147483647), [], [])])
theorem kv_rrload5 : kd_runv kd_ty kd_x43 6 (kd_call kd_ty kd_xt (kd_ctl []) 600 2) [] 0 kv_Trload5 600 = true := by decide +kernel
theorem kv_hrload5 {g : kc_G} (hg : kc_ok g) : kd_holdv g 3 kd_ty 43 [] 0 kv_Trload5 := kd_newv hg kd_xk43 rfl rfl rfl rfl (fun h0 => kd_call_r (d0 := 0) hg kd_xt_ok (kd_ctl_r [] (fun q hq => by cases hq)) 2) (kv_rrload5 )
def kv_Trload6 : kd_Tc := ([(3, 259, 259), (0, 0, 4294967295), (0, 0, 4294967295), (0, 0, 4294967295), (0, 0, 2147483647)], [], [(some (0, 0, 2147483647), [], [])])
theorem kv_rrload6 : kd_runv kd_ty kd_x43 6 (kd_call kd_ty kd_xt (kd_ctl []) 600 2) [] 0 kv_Trload6 600 = true := by decide +kernel
theorem kv_hrload6 {g : kc_G} (hg : kc_ok g) : kd_holdv g 3 kd_ty 43 [] 0 kv_Trload6 := kd_newv hg kd_xk43 rfl rfl rfl rfl (fun h0 => kd_call_r (d0 := 0) hg kd_xt_ok (kd_ctl_r [] (fun q hq => by cases hq)) 2) (kv_rrload6 )
def kv_Trload7 : kd_Tc := ([(3, 259, 259), (0, 0, 4294967295), (0, 0, 4294967295), (0, 0, 4294967295), (0, 2147483654, 4294967295)], [], [(some (0, 0, 2147483647), [], [])])
theorem kv_rrload7 : kd_runv kd_ty kd_x43 6 (kd_call kd_ty kd_xt (kd_ctl []) 600 2) [] 0 kv_Trload7 600 = true := by decide +kernel
theorem kv_hrload7 {g : kc_G} (hg : kc_ok g) : kd_holdv g 3 kd_ty 43 [] 0 kv_Trload7 := kd_newv hg kd_xk43 rfl rfl rfl rfl (fun h0 => kd_call_r (d0 := 0) hg kd_xt_ok (kd_ctl_r [] (fun q hq => by cases hq)) 2) (kv_rrload7 )
def kv_Trloadp (x : Nat) : kd_Tc := ([(3, 259, 259), (0, 0, 4294967295), (0, 0, 4294967295), (0, 2147483648 + x+1, 2147483648 + x+1), (0, 0, 4294967295)], [(260, 0, (0, 2147483648, 2147483648 + x))], [(some (0, 0, 2147483647), [], [])])
theorem kv_rrloadp : ∀ x, x < 5 → kd_runv kd_ty kd_x43 6 (kd_call kd_ty kd_xt (kd_ctl []) 600 2) [] 0 (kv_Trloadp x) 600 = true := by decide +kernel
theorem kv_hrloadp {g : kc_G} (hg : kc_ok g) {x : Nat} (hx : x < 5) : kd_holdv g 3 kd_ty 43 [] 0 (kv_Trloadp x) := kd_newv hg kd_xk43 rfl rfl rfl rfl (fun h0 => kd_call_r (d0 := 0) hg kd_xt_ok (kd_ctl_r [] (fun q hq => by cases hq)) 2) (kv_rrloadp x hx)
def kv_Trloadq (x : Nat) : kd_Tc := ([(3, 259, 259), (0, 0, 4294967295), (0, 0, 4294967295), (0, 0, 4294967295), (0, 2147483648 + x+1, 2147483648 + x+1)], [(260, 0, (0, 2147483648, 2147483648 + x))], [(some (0, 0, 2147483647), [], [])])
theorem kv_rrloadq : ∀ x, x < 5 → kd_runv kd_ty kd_x43 6 (kd_call kd_ty kd_xt (kd_ctl []) 600 2) [] 0 (kv_Trloadq x) 600 = true := by decide +kernel
theorem kv_hrloadq {g : kc_G} (hg : kc_ok g) {x : Nat} (hx : x < 5) : kd_holdv g 3 kd_ty 43 [] 0 (kv_Trloadq x) := kd_newv hg kd_xk43 rfl rfl rfl rfl (fun h0 => kd_call_r (d0 := 0) hg kd_xt_ok (kd_ctl_r [] (fun q hq => by cases hq)) 2) (kv_rrloadq x hx)
