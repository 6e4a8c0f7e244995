/-! ===== the verbs of a day, run by the engine 2 ===== -/
def kv_Ttload3 : kd_Tc := ([(3, 0, 0), (0, 0, 4294967295), (0, 2147483650, 4294967295), (0, 0, 4294967295), (0, 0, 4294967295)], [], [(some (0, 0, 2147483647), [], [])])
theorem kv_rtload3 : kd_runv kd_ty kd_x41 5 (kd_call kd_ty kd_xt (kd_ctl []) 600 2) [] 0 kv_Ttload3 600 = true := by decide +kernel
theorem kv_htload3 {g : kc_G} (hg : kc_ok g) : kd_holdv g 3 kd_ty 41 [] 0 kv_Ttload3 := kd_newv hg kd_xk41 rfl rfl rfl rfl (fun h0 => kd_call_r (d0 := 0) hg kd_xt_ok (kd_ctl_r [] (fun q hq => by cases hq)) 2) (kv_rtload3 )
def kv_Ttload4 : kd_Tc := ([(3, 0, 0), (0, 0, 4294967295), (0, 0, 4294967295), (0, 0, 2147483647), (0, 0, 4294967295)], [], [(some (0, 0, 2147483647), [], [])])
theorem kv_rtload4 : kd_runv kd_ty kd_x41 5 (kd_call kd_ty kd_xt (kd_ctl []) 600 3) [] 0 kv_Ttload4 600 = true := by decide +kernel
theorem kv_htload4 {g : kc_G} (hg : kc_ok g) : kd_holdv g 4 kd_ty 41 [] 0 kv_Ttload4 := kd_newv hg kd_xk41 rfl rfl rfl rfl (fun h0 => kd_call_r (d0 := 0) hg kd_xt_ok (kd_ctl_r [] (fun q hq => by cases hq)) 3) (kv_rtload4 )
def kv_Ttload5 : kd_Tc := ([(3, 0, 0), (0, 0, 4294967295), (0, 0, 4294967295), (0, 2147483654, 4294967295), (0, 0, 4294967295)], [], [(some (0, 0, 2147483647), [], [])])
theorem kv_rtload5 : kd_runv kd_ty kd_x41 5 (kd_call kd_ty kd_xt (kd_ctl []) 600 3) [] 0 kv_Ttload5 600 = true := by decide +kernel
theorem kv_htload5 {g : kc_G} (hg : kc_ok g) : kd_holdv g 4 kd_ty 41 [] 0 kv_Ttload5 := kd_newv hg kd_xk41 rfl rfl rfl rfl (fun h0 => kd_call_r (d0 := 0) hg kd_xt_ok (kd_ctl_r [] (fun q hq => by cases hq)) 3) (kv_rtload5 )
def kv_Ttload6 : kd_Tc := ([(3, 0, 0), (0, 0, 4294967295), (0, 0, 4294967295), (0, 0, 4294967295), (0, 0, 2147483647)], [], [(some (0, 0, 2147483647), [], [])])
theorem kv_rtload6 : kd_runv kd_ty kd_x41 5 (kd_call kd_ty kd_xt (kd_ctl []) 600 3) [] 0 kv_Ttload6 600 = true := by decide +kernel
theorem kv_htload6 {g : kc_G} (hg : kc_ok g) : kd_holdv g 4 kd_ty 41 [] 0 kv_Ttload6 := kd_newv hg kd_xk41 rfl rfl rfl rfl (fun h0 => kd_call_r (d0 := 0) hg kd_xt_ok (kd_ctl_r [] (fun q hq => by cases hq)) 3) (kv_rtload6 )
def kv_Ttload7 : kd_Tc := ([(3, 0, 0), (0, 0, 4294967295), (0, 0, 4294967295), (0, 0, 4294967295), (0, 2147483654, 4294967295)], [], [(some (0, 0, 2147483647), [], [])])
theorem kv_rtload7 : kd_runv kd_ty kd_x41 5 (kd_call kd_ty kd_xt (kd_ctl []) 600 3) [] 0 kv_Ttload7 600 = true := by decide +kernel
theorem kv_htload7 {g : kc_G} (hg : kc_ok g) : kd_holdv g 4 kd_ty 41 [] 0 kv_Ttload7 := kd_newv hg kd_xk41 rfl rfl rfl rfl (fun h0 => kd_call_r (d0 := 0) hg kd_xt_ok (kd_ctl_r [] (fun q hq => by cases hq)) 3) (kv_rtload7 )
def kv_Ttloadp (x : Nat) : kd_Tc := ([(3, 0, 0), (0, 0, 4294967295), (0, 0, 4294967295), (0, 2147483648 + x+1, 2147483648 + x+1), (0, 0, 4294967295)], [(1, 0, (0, 2147483648, 2147483648 + x))], [(some (0, 0, 2147483647), [], [])])
theorem kv_rtloadp : ∀ x, x < 5 → kd_runv kd_ty kd_x41 5 (kd_call kd_ty kd_xt (kd_ctl []) 600 3) [] 0 (kv_Ttloadp x) 600 = true := by decide +kernel
theorem kv_htloadp {g : kc_G} (hg : kc_ok g) {x : Nat} (hx : x < 5) : kd_holdv g 4 kd_ty 41 [] 0 (kv_Ttloadp x) := kd_newv hg kd_xk41 rfl rfl rfl rfl (fun h0 => kd_call_r (d0 := 0) hg kd_xt_ok (kd_ctl_r [] (fun q hq => by cases hq)) 3) (kv_rtloadp x hx)
def kv_Ttloadq (x : Nat) : kd_Tc := ([(3, 0, 0), (0, 0, 4294967295), (0, 0, 4294967295), (0, 0, 4294967295), (0, 2147483648 + x+1, 2147483648 + x+1)], [(1, 0, (0, 2147483648, 2147483648 + x))], [(some (0, 0, 2147483647), [], [])])
theorem kv_rtloadq : ∀ x, x < 5 → kd_runv kd_ty kd_x41 5 (kd_call kd_ty kd_xt (kd_ctl []) 600 3) [] 0 (kv_Ttloadq x) 600 = true := by decide +kernel
theorem kv_htloadq {g : kc_G} (hg : kc_ok g) {x : Nat} (hx : x < 5) : kd_holdv g 4 kd_ty 41 [] 0 (kv_Ttloadq x) := kd_newv hg kd_xk41 rfl rfl rfl rfl (fun h0 => kd_call_r (d0 := 0) hg kd_xt_ok (kd_ctl_r [] (fun q hq => by cases hq)) 3) (kv_rtloadq x hx)
def kv_Ttloade (x : Nat) : kd_Tc := ([(3, 0, 0), (0, 0, 4294967295), (0, 0, 4294967295), (0, 2147483648 + x, 2147483648 + x), (0, 2147483648 + x, 2147483648 + x)], [], [(some (0, 0, 2147483647), [], [])])
theorem kv_rtloade : ∀ x, x < 6 → kd_runv kd_ty kd_x41 5 (kd_call kd_ty kd_xt (kd_ctl []) 600 3) [] 0 (kv_Ttloade x) 600 = true := by decide +kernel
theorem kv_htloade {g : kc_G} (hg : kc_ok g) {x : Nat} (hx : x < 6) : kd_holdv g 4 kd_ty 41 [] 0 (kv_Ttloade x) := kd_newv hg kd_xk41 rfl rfl rfl rfl (fun h0 => kd_call_r (d0 := 0) hg kd_xt_ok (kd_ctl_r [] (fun q hq => by cases hq)) 3) (kv_rtloade x hx)
def kv_Trmule : kd_Tc := ([(3, 259, 259), (0, 2147483649, 2147484647), (0, 2147483648, 2147483747), (0, 2147483648, 2147483747)], [(260, 1, (1, 0, 2147483648))], [(some (0, 2147483648, 4294967295), [(260, 1, (1, 0, 2147483649))], [(260, 260, 1, 1), (260, 260, 60, 74)])])
theorem kv_rrmule : kd_runv kd_ty kd_x34 5 (kd_call kd_ty kd_xt (kd_ctl []) 600 1) [(2147483648, 2147483650)] 1 kv_Trmule 600 = true := by decide +kernel
theorem kv_hrmule {g : kc_G} (hg : kc_ok g) : kd_holdv g 2 kd_ty 34 [(2147483648, 2147483650)] 1 kv_Trmule := kd_newv hg kd_xk34 rfl rfl rfl rfl (fun h0 => kd_call_r (d0 := 0) hg kd_xt_ok (kd_ctl_r [] (fun q hq => by cases hq)) 1) (kv_rrmule )
def kv_Trmulef : kd_Tc := ([(3, 259, 259), (0, 2147483649, 2147484647), (0, 2147483648, 2147483747), (0, 2147483648, 2147483747)], [(260, 1, (0, 2147483651, 2147483651))], [(some (0, 0, 2147483647), [], [])])
theorem kv_rrmulef : kd_runv kd_ty kd_x34 5 (kd_call kd_ty kd_xt (kd_ctl []) 600 1) [] 0 kv_Trmulef 600 = true := by decide +kernel
theorem kv_hrmulef {g : kc_G} (hg : kc_ok g) : kd_holdv g 2 kd_ty 34 [] 0 kv_Trmulef := kd_newv hg kd_xk34 rfl rfl rfl rfl (fun h0 => kd_call_r (d0 := 0) hg kd_xt_ok (kd_ctl_r [] (fun q hq => by cases hq)) 1) (kv_rrmulef )
def kv_Trmule0 : kd_Tc := ([(3, 259, 259), (0, 0, 2147483648), (0, 0, 4294967295), (0, 0, 4294967295)], [], [(some (0, 0, 2147483647), [], [])])
theorem kv_rrmule0 : kd_runv kd_ty kd_x34 5 (kd_call kd_ty kd_xt (kd_ctl []) 600 1) [] 0 kv_Trmule0 600 = true := by decide +kernel
theorem kv_hrmule0 {g : kc_G} (hg : kc_ok g) : kd_holdv g 2 kd_ty 34 [] 0 kv_Trmule0 := kd_newv hg kd_xk34 rfl rfl rfl rfl (fun h0 => kd_call_r (d0 := 0) hg kd_xt_ok (kd_ctl_r [] (fun q hq => by cases hq)) 1) (kv_rrmule0 )
def kv_Trmule1 : kd_Tc := ([(3, 259, 259), (0, 2147484648, 4294967295), (0, 0, 4294967295), (0, 0, 4294967295)], [], [(some (0, 0, 2147483647), [], [])])
theorem kv_rrmule1 : kd_runv kd_ty kd_x34 5 (kd_call kd_ty kd_xt (kd_ctl []) 600 1) [] 0 kv_Trmule1 600 = true := by decide +kernel
theorem kv_hrmule1 {g : kc_G} (hg : kc_ok g) : kd_holdv g 2 kd_ty 34 [] 0 kv_Trmule1 := kd_newv hg kd_xk34 rfl rfl rfl rfl (fun h0 => kd_call_r (d0 := 0) hg kd_xt_ok (kd_ctl_r [] (fun q hq => by cases hq)) 1) (kv_rrmule1 )
def kv_Trmule2 : kd_Tc := ([(3, 259, 259), (0, 0, 4294967295), (0, 0, 2147483647), (0, 0, 4294967295)], [], [(some (0, 0, 2147483647), [], [])])
theorem kv_rrmule2 : kd_runv kd_ty kd_x34 5 (kd_call kd_ty kd_xt (kd_ctl []) 600 1) [] 0 kv_Trmule2 600 = true := by decide +kernel
theorem kv_hrmule2 {g : kc_G} (hg : kc_ok g) : kd_holdv g 2 kd_ty 34 [] 0 kv_Trmule2 := kd_newv hg kd_xk34 rfl rfl rfl rfl (fun h0 => kd_call_r (d0 := 0) hg kd_xt_ok (kd_ctl_r [] (fun q hq => by cases hq)) 1) (kv_rrmule2 )
def kv_Trmule3 : kd_Tc := ([(3, 259, 259), (0, 0, 4294967295), (0, 2147483748, 4294967295), (0, 0, 4294967295)], [], [(some (0, 0, 2147483647), [], [])])
theorem kv_rrmule3 : kd_runv kd_ty kd_x34 5 (kd_call kd_ty kd_xt (kd_ctl []) 600 1) [] 0 kv_Trmule3 600 = true := by decide +kernel
theorem kv_hrmule3 {g : kc_G} (hg : kc_ok g) : kd_holdv g 2 kd_ty 34 [] 0 kv_Trmule3 := kd_newv hg kd_xk34 rfl rfl rfl rfl (fun h0 => kd_call_r (d0 := 0) hg kd_xt_ok (kd_ctl_r [] (fun q hq => by cases hq)) 1) (kv_rrmule3 )
def kv_Trmule4 : kd_Tc := ([(3, 259, 259), (0, 0, 4294967295), (0, 0, 4294967295), (0, 0, 2147483647)], [], [(some (0, 0, 2147483647), [], [])])
theorem kv_rrmule4 : kd_runv kd_ty kd_x34 5 (kd_call kd_ty kd_xt (kd_ctl []) 600 1) [] 0 kv_Trmule4 600 = true := by decide +kernel
theorem kv_hrmule4 {g : kc_G} (hg : kc_ok g) : kd_holdv g 2 kd_ty 34 [] 0 kv_Trmule4 := kd_newv hg kd_xk34 rfl rfl rfl rfl (fun h0 => kd_call_r (d0 := 0) hg kd_xt_ok (kd_ctl_r [] (fun q hq => by cases hq)) 1) (kv_rrmule4 )
def kv_Trmule5 : kd_Tc := ([(3, 259, 259), (0, 0, 4294967295), (0, 0, 4294967295), (0, 2147483748, 4294967295)], [], [(some (0, 0, 2147483647), [], [])])
theorem kv_rrmule5 : kd_runv kd_ty kd_x34 5 (kd_call kd_ty kd_xt (kd_ctl []) 600 1) [] 0 kv_Trmule5 600 = true := by decide +kernel
theorem kv_hrmule5 {g : kc_G} (hg : kc_ok g) : kd_holdv g 2 kd_ty 34 [] 0 kv_Trmule5 := kd_newv hg kd_xk34 rfl rfl rfl rfl (fun h0 => kd_call_r (d0 := 0) hg kd_xt_ok (kd_ctl_r [] (fun q hq => by cases hq)) 1) (kv_rrmule5 )
