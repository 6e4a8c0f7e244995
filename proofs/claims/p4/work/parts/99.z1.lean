/-! ===== the verbs of a day, run by the engine 0 ===== -/
def kv_Tcmule : kd_Tc := ([(3, 1, 1), (0, 2147483649, 2147484647), (0, 2147483648, 2147483747), (0, 2147483648, 2147483747)], [(1, 1, (1, 0, 2147483648))], [(some (0, 2147483648, 4294967295), [(1, 1, (1, 0, 2147483649))], [(1, 1, 1, 1), (12, 14, 0, 4)])])
theorem kv_rcmule : kd_runv kd_ty kd_x33 5 (kd_call kd_ty kd_xt (kd_ctl []) 600 1) [(2147483648, 2147483650)] 1 kv_Tcmule 600 = true := by decide +kernel
theorem kv_hcmule {g : kc_G} (hg : kc_ok g) : kd_holdv g 2 kd_ty 33 [(2147483648, 2147483650)] 1 kv_Tcmule := kd_newv hg kd_xk33 rfl rfl rfl rfl (fun h0 => kd_call_r (d0 := 0) hg kd_xt_ok (kd_ctl_r [] (fun q hq => by cases hq)) 1) (kv_rcmule )
def kv_Tcmulef : kd_Tc := ([(3, 1, 1), (0, 2147483649, 2147484647), (0, 2147483648, 2147483747), (0, 2147483648, 2147483747)], [(1, 1, (0, 2147483651, 2147483651))], [(some (0, 0, 2147483647), [], [])])
theorem kv_rcmulef : kd_runv kd_ty kd_x33 5 (kd_call kd_ty kd_xt (kd_ctl []) 600 1) [] 0 kv_Tcmulef 600 = true := by decide +kernel
theorem kv_hcmulef {g : kc_G} (hg : kc_ok g) : kd_holdv g 2 kd_ty 33 [] 0 kv_Tcmulef := kd_newv hg kd_xk33 rfl rfl rfl rfl (fun h0 => kd_call_r (d0 := 0) hg kd_xt_ok (kd_ctl_r [] (fun q hq => by cases hq)) 1) (kv_rcmulef )
def kv_Tcmule0 : kd_Tc := ([(3, 1, 1), (0, 0, 2147483648), (0, 0, 4294967295), (0, 0, 4294967295)], [], [(some (0, 0, 2147483647), [], [])])
theorem kv_rcmule0 : kd_runv kd_ty kd_x33 5 (kd_call kd_ty kd_xt (kd_ctl []) 600 1) [] 0 kv_Tcmule0 600 = true := by decide +kernel
theorem kv_hcmule0 {g : kc_G} (hg : kc_ok g) : kd_holdv g 2 kd_ty 33 [] 0 kv_Tcmule0 := kd_newv hg kd_xk33 rfl rfl rfl rfl (fun h0 => kd_call_r (d0 := 0) hg kd_xt_ok (kd_ctl_r [] (fun q hq => by cases hq)) 1) (kv_rcmule0 )
def kv_Tcmule1 : kd_Tc := ([(3, 1, 1), (0, 2147484648, 4294967295), (0, 0, 4294967295), (0, 0, 4294967295)], [], [(some (0, 0, 2147483647), [], [])])
theorem kv_rcmule1 : kd_runv kd_ty kd_x33 5 (kd_call kd_ty kd_xt (kd_ctl []) 600 1) [] 0 kv_Tcmule1 600 = true := by decide +kernel
theorem kv_hcmule1 {g : kc_G} (hg : kc_ok g) : kd_holdv g 2 kd_ty 33 [] 0 kv_Tcmule1 := kd_newv hg kd_xk33 rfl rfl rfl rfl (fun h0 => kd_call_r (d0 := 0) hg kd_xt_ok (kd_ctl_r [] (fun q hq => by cases hq)) 1) (kv_rcmule1 )
def kv_Tcmule2 : kd_Tc := ([(3, 1, 1), (0, 0, 4294967295), (0, 0, 2147483647), (0, 0, 4294967295)], [], [(some (0, 0, 2147483647), [], [])])
theorem kv_rcmule2 : kd_runv kd_ty kd_x33 5 (kd_call kd_ty kd_xt (kd_ctl []) 600 1) [] 0 kv_Tcmule2 600 = true := by decide +kernel
theorem kv_hcmule2 {g : kc_G} (hg : kc_ok g) : kd_holdv g 2 kd_ty 33 [] 0 kv_Tcmule2 := kd_newv hg kd_xk33 rfl rfl rfl rfl (fun h0 => kd_call_r (d0 := 0) hg kd_xt_ok (kd_ctl_r [] (fun q hq => by cases hq)) 1) (kv_rcmule2 )
def kv_Tcmule3 : kd_Tc := ([(3, 1, 1), (0, 0, 4294967295), (0, 2147483748, 4294967295), (0, 0, 4294967295)], [], [(some (0, 0, 2147483647), [], [])])
theorem kv_rcmule3 : kd_runv kd_ty kd_x33 5 (kd_call kd_ty kd_xt (kd_ctl []) 600 1) [] 0 kv_Tcmule3 600 = true := by decide +kernel
theorem kv_hcmule3 {g : kc_G} (hg : kc_ok g) : kd_holdv g 2 kd_ty 33 [] 0 kv_Tcmule3 := kd_newv hg kd_xk33 rfl rfl rfl rfl (fun h0 => kd_call_r (d0 := 0) hg kd_xt_ok (kd_ctl_r [] (fun q hq => by cases hq)) 1) (kv_rcmule3 )
def kv_Tcmule4 : kd_Tc := ([(3, 1, 1), (0, 0, 4294967295), (0, 0, 4294967295), (0, 0, 2147483647)], [], [(some (0, 0, 2147483647), [], [])])
theorem kv_rcmule4 : kd_runv kd_ty kd_x33 5 (kd_call kd_ty kd_xt (kd_ctl []) 600 1) [] 0 kv_Tcmule4 600 = true := by decide +kernel
theorem kv_hcmule4 {g : kc_G} (hg : kc_ok g) : kd_holdv g 2 kd_ty 33 [] 0 kv_Tcmule4 := kd_newv hg kd_xk33 rfl rfl rfl rfl (fun h0 => kd_call_r (d0 := 0) hg kd_xt_ok (kd_ctl_r [] (fun q hq => by cases hq)) 1) (kv_rcmule4 )
def kv_Tcmule5 : kd_Tc := ([(3, 1, 1), (0, 0, 4294967295), (0, 0, 4294967295), (0, 2147483748, 4294967295)], [], [(some (0, 0, 2147483647), [], [])])
theorem kv_rcmule5 : kd_runv kd_ty kd_x33 5 (kd_call kd_ty kd_xt (kd_ctl []) 600 1) [] 0 kv_Tcmule5 600 = true := by decide +kernel
theorem kv_hcmule5 {g : kc_G} (hg : kc_ok g) : kd_holdv g 2 kd_ty 33 [] 0 kv_Tcmule5 := kd_newv hg kd_xk33 rfl rfl rfl rfl (fun h0 => kd_call_r (d0 := 0) hg kd_xt_ok (kd_ctl_r [] (fun q hq => by cases hq)) 1) (kv_rcmule5 )
def kv_TcloadA (x : Nat) : kd_Tc := ([(3, 1, 1), (0, 2147483649, 2147483747), (0, 2147483648, 2147483649), (0, 2147483648 + x+1, 2147483648 + x+1), (0, 2147483648, 2147483648 + x)], [(1, 0, (0, 2147483648 + x+1, 2147483653)), (1, 2, (1, 0, 2147483648))], [(some (0, 2147483648, 4294967295), [(1, 2, (1, 0, 2147483649))], [(1, 1, 2, 2), (16, 25, 0, 6)])])
theorem kv_rcloadA : ∀ x, x < 5 → kd_runv kd_ty kd_x42 6 (kd_call kd_ty kd_xt (kd_ctl []) 600 2) [(2147483648, 2147483657)] 1 (kv_TcloadA x) 600 = true := by decide +kernel
theorem kv_hcloadA {g : kc_G} (hg : kc_ok g) {x : Nat} (hx : x < 5) : kd_holdv g 3 kd_ty 42 [(2147483648, 2147483657)] 1 (kv_TcloadA x) := kd_newv hg kd_xk42 rfl rfl rfl rfl (fun h0 => kd_call_r (d0 := 0) hg kd_xt_ok (kd_ctl_r [] (fun q hq => by cases hq)) 2) (kv_rcloadA x hx)
def kv_TcloadfA (x : Nat) : kd_Tc := ([(3, 1, 1), (0, 2147483649, 2147483747), (0, 2147483648, 2147483649), (0, 2147483648 + x+1, 2147483648 + x+1), (0, 2147483648, 2147483648 + x)], [(1, 0, (0, 2147483648 + x+1, 2147483653)), (1, 2, (0, 2147483658, 2147483658))], [(some (0, 0, 2147483647), [], [])])
theorem kv_rcloadfA : ∀ x, x < 5 → kd_runv kd_ty kd_x42 6 (kd_call kd_ty kd_xt (kd_ctl []) 600 2) [] 0 (kv_TcloadfA x) 600 = true := by decide +kernel
theorem kv_hcloadfA {g : kc_G} (hg : kc_ok g) {x : Nat} (hx : x < 5) : kd_holdv g 3 kd_ty 42 [] 0 (kv_TcloadfA x) := kd_newv hg kd_xk42 rfl rfl rfl rfl (fun h0 => kd_call_r (d0 := 0) hg kd_xt_ok (kd_ctl_r [] (fun q hq => by cases hq)) 2) (kv_rcloadfA x hx)
def kv_TcloadB (x : Nat) : kd_Tc := ([(3, 1, 1), (0, 2147483649, 2147483747), (0, 2147483648, 2147483649), (0, 2147483648, 2147483648 + x), (0, 2147483648 + x+1, 2147483648 + x+1)], [(1, 0, (0, 2147483648 + x+1, 2147483653)), (1, 2, (1, 0, 2147483648))], [(some (0, 2147483648, 4294967295), [(1, 2, (1, 0, 2147483649))], [(1, 1, 2, 2), (16, 25, 0, 6)])])
theorem kv_rcloadB : ∀ x, x < 5 → kd_runv kd_ty kd_x42 6 (kd_call kd_ty kd_xt (kd_ctl []) 600 2) [(2147483648, 2147483657)] 1 (kv_TcloadB x) 600 = true := by decide +kernel
theorem kv_hcloadB {g : kc_G} (hg : kc_ok g) {x : Nat} (hx : x < 5) : kd_holdv g 3 kd_ty 42 [(2147483648, 2147483657)] 1 (kv_TcloadB x) := kd_newv hg kd_xk42 rfl rfl rfl rfl (fun h0 => kd_call_r (d0 := 0) hg kd_xt_ok (kd_ctl_r [] (fun q hq => by cases hq)) 2) (kv_rcloadB x hx)
def kv_TcloadfB (x : Nat) : kd_Tc := ([(3, 1, 1), (0, 2147483649, 2147483747), (0, 2147483648, 2147483649), (0, 2147483648, 2147483648 + x), (0, 2147483648 + x+1, 2147483648 + x+1)], [(1, 0, (0, 2147483648 + x+1, 2147483653)), (1, 2, (0, 2147483658, 2147483658))], [(some (0, 0, 2147483647), [], [])])
theorem kv_rcloadfB : ∀ x, x < 5 → kd_runv kd_ty kd_x42 6 (kd_call kd_ty kd_xt (kd_ctl []) 600 2) [] 0 (kv_TcloadfB x) 600 = true := by decide +kernel
theorem kv_hcloadfB {g : kc_G} (hg : kc_ok g) {x : Nat} (hx : x < 5) : kd_holdv g 3 kd_ty 42 [] 0 (kv_TcloadfB x) := kd_newv hg kd_xk42 rfl rfl rfl rfl (fun h0 => kd_call_r (d0 := 0) hg kd_xt_ok (kd_ctl_r [] (fun q hq => by cases hq)) 2) (kv_rcloadfB x hx)
def kv_Tcload0 : kd_Tc := ([(3, 1, 1), (0, 0, 2147483648), (0, 0, 4294967295), (0, 0, 4294967295), (0, 0, 4294967295)], [], [(some (0, 0, 2147483647), [], [])])
theorem kv_rcload0 : kd_runv kd_ty kd_x42 6 (kd_call kd_ty kd_xt (kd_ctl []) 600 1) [] 0 kv_Tcload0 600 = true := by decide +kernel
theorem kv_hcload0 {g : kc_G} (hg : kc_ok g) : kd_holdv g 2 kd_ty 42 [] 0 kv_Tcload0 := kd_newv hg kd_xk42 rfl rfl rfl rfl (fun h0 => kd_call_r (d0 := 0) hg kd_xt_ok (kd_ctl_r [] (fun q hq => by cases hq)) 1) (kv_rcload0 )
def kv_Tcload1 : kd_Tc := ([(3, 1, 1), (0, 2147483748, 4294967295), (0, 0, 4294967295), (0, 0, 4294967295), (0, 0, 4294967295)], [], [(some (0, 0, 2147483647), [], [])])
theorem kv_rcload1 : kd_runv kd_ty kd_x42 6 (kd_call kd_ty kd_xt (kd_ctl []) 600 1) [] 0 kv_Tcload1 600 = true := by decide +kernel
theorem kv_hcload1 {g : kc_G} (hg : kc_ok g) : kd_holdv g 2 kd_ty 42 [] 0 kv_Tcload1 := kd_newv hg kd_xk42 rfl rfl rfl rfl (fun h0 => kd_call_r (d0 := 0) hg kd_xt_ok (kd_ctl_r [] (fun q hq => by cases hq)) 1) (kv_rcload1 )
def kv_Tcload2 : kd_Tc := ([(3, 1, 1), (0, 0, 4294967295), (0, 0, 2147483647), (0, 0, 4294967295), (0, 0, 4294967295)], [], [(some (0, 0, 2147483647), [], [])])
theorem kv_rcload2 : kd_runv kd_ty kd_x42 6 (kd_call kd_ty kd_xt (kd_ctl []) 600 1) [] 0 kv_Tcload2 600 = true := by decide +kernel
theorem kv_hcload2 {g : kc_G} (hg : kc_ok g) : kd_holdv g 2 kd_ty 42 [] 0 kv_Tcload2 := kd_newv hg kd_xk42 rfl rfl rfl rfl (fun h0 => kd_call_r (d0 := 0) hg kd_xt_ok (kd_ctl_r [] (fun q hq => by cases hq)) 1) (kv_rcload2 )
def kv_Tcload3 : kd_Tc := ([(3, 1, 1), (0, 0, 4294967295), (0, 2147483650, 4294967295), (0, 0, 4294967295), (0, 0, 4294967295)], [], [(some (0, 0, 2147483647), [], [])])
theorem kv_rcload3 : kd_runv kd_ty kd_x42 6 (kd_call kd_ty kd_xt (kd_ctl []) 600 1) [] 0 kv_Tcload3 600 = true := by decide +kernel
theorem kv_hcload3 {g : kc_G} (hg : kc_ok g) : kd_holdv g 2 kd_ty 42 [] 0 kv_Tcload3 := kd_newv hg kd_xk42 rfl rfl rfl rfl (fun h0 => kd_call_r (d0 := 0) hg kd_xt_ok (kd_ctl_r [] (fun q hq => by cases hq)) 1) (kv_rcload3 )
def kv_Tcload4 : kd_Tc := ([(3, 1, 1), (0, 0, 4294967295), (0, 0, 4294967295), (0, 0, 2147483647), (0, 0, 4294967295)], [], [(some (0, 0, 2147483647), [], [])])
theorem kv_rcload4 : kd_runv kd_ty kd_x42 6 (kd_call kd_ty kd_xt (kd_ctl []) 600 2) [] 0 kv_Tcload4 600 = true := by decide +kernel
theorem kv_hcload4 {g : kc_G} (hg : kc_ok g) : kd_holdv g 3 kd_ty 42 [] 0 kv_Tcload4 := kd_newv hg kd_xk42 rfl rfl rfl rfl (fun h0 => kd_call_r (d0 := 0) hg kd_xt_ok (kd_ctl_r [] (fun q hq => by cases hq)) 2) (kv_rcload4 )
def kv_Tcload5 : kd_Tc := ([(3, 1, 1), (0, 0, 4294967295), (0, 0, 4294967295), (0, 2147483654, 4294967295), (0, 0, 4294967295)], [], [(some (0, 0, 2147483647), [], [])])
theorem kv_rcload5 : kd_runv kd_ty kd_x42 6 (kd_call kd_ty kd_xt (kd_ctl []) 600 2) [] 0 kv_Tcload5 600 = true := by decide +kernel
theorem kv_hcload5 {g : kc_G} (hg : kc_ok g) : kd_holdv g 3 kd_ty 42 [] 0 kv_Tcload5 := kd_newv hg kd_xk42 rfl rfl rfl rfl (fun h0 => kd_call_r (d0 := 0) hg kd_xt_ok (kd_ctl_r [] (fun q hq => by cases hq)) 2) (kv_rcload5 )
def kv_Tcload6 : kd_Tc := ([(3, 1, 1), (0, 0, 4294967295), (0, 0, 4294967295), (0, 0, 4294967295), (0, 0, 2147483647)], [], [(some (0, 0, 2147483647), [], [])])
theorem kv_rcload6 : kd_runv kd_ty kd_x42 6 (kd_call kd_ty kd_xt (kd_ctl []) 600 2) [] 0 kv_Tcload6 600 = true := by decide +kernel
theorem kv_hcload6 {g : kc_G} (hg : kc_ok g) : kd_holdv g 3 kd_ty 42 [] 0 kv_Tcload6 := kd_newv hg kd_xk42 rfl rfl rfl rfl (fun h0 => kd_call_r (d0 := 0) hg kd_xt_ok (kd_ctl_r [] (fun q hq => by cases hq)) 2) (kv_rcload6 )
def kv_Tcload7 : kd_Tc := ([(3, 1, 1), (0, 0, 4294967295), (0, 0, 4294967295), (0, 0, 4294967295), (0, 2147483654, 4294967295)], [], [(some (0, 0, 2147483647), [], [])])
theorem kv_rcload7 : kd_runv kd_ty kd_x42 6 (kd_call kd_ty kd_xt (kd_ctl []) 600 2) [] 0 kv_Tcload7 600 = true := by decide +kernel
theorem kv_hcload7 {g : kc_G} (hg : kc_ok g) : kd_holdv g 3 kd_ty 42 [] 0 kv_Tcload7 := kd_newv hg kd_xk42 rfl rfl rfl rfl (fun h0 => kd_call_r (d0 := 0) hg kd_xt_ok (kd_ctl_r [] (fun q hq => by cases hq)) 2) (kv_rcload7 )
def kv_Tcloadp (x : Nat) : kd_Tc := ([(3, 1, 1), (0, 0, 4294967295), (0, 0, 4294967295), (0, 2147483648 + x+1, 2147483648 + x+1), (0, 0, 4294967295)], [(1, 0, (0, 2147483648, 2147483648 + x))], [(some (0, 0, 2147483647), [], [])])
theorem kv_rcloadp : ∀ x, x < 5 → kd_runv kd_ty kd_x42 6 (kd_call kd_ty kd_xt (kd_ctl []) 600 2) [] 0 (kv_Tcloadp x) 600 = true := by decide +kernel
theorem kv_hcloadp {g : kc_G} (hg : kc_ok g) {x : Nat} (hx : x < 5) : kd_holdv g 3 kd_ty 42 [] 0 (kv_Tcloadp x) := kd_newv hg kd_xk42 rfl rfl rfl rfl (fun h0 => kd_call_r (d0 := 0) hg kd_xt_ok (kd_ctl_r [] (fun q hq => by cases hq)) 2) (kv_rcloadp x hx)
def kv_Tcloadq (x : Nat) : kd_Tc := ([(3, 1, 1), (0, 0, 4294967295), (0, 0, 4294967295), (0, 0, 4294967295), (0, 2147483648 + x+1, 2147483648 + x+1)], [(1, 0, (0, 2147483648, 2147483648 + x))], [(some (0, 0, 2147483647), [], [])])
theorem kv_rcloadq : ∀ x, x < 5 → kd_runv kd_ty kd_x42 6 (kd_call kd_ty kd_xt (kd_ctl []) 600 2) [] 0 (kv_Tcloadq x) 600 = true := by decide +kernel
theorem kv_hcloadq {g : kc_G} (hg : kc_ok g) {x : Nat} (hx : x < 5) : kd_holdv g 3 kd_ty 42 [] 0 (kv_Tcloadq x) := kd_newv hg kd_xk42 rfl rfl rfl rfl (fun h0 => kd_call_r (d0 := 0) hg kd_xt_ok (kd_ctl_r [] (fun q hq => by cases hq)) 2) (kv_rcloadq x hx)
def kv_Tcloade (x : Nat) : kd_Tc := ([(3, 1, 1), (0, 0, 4294967295), (0, 0, 4294967295), (0, 2147483648 + x, 2147483648 + x), (0, 2147483648 + x, 2147483648 + x)], [], [(some (0, 0, 2147483647), [], [])])
theorem kv_rcloade : ∀ x, x < 6 → kd_runv kd_ty kd_x42 6 (kd_call kd_ty kd_xt (kd_ctl []) 600 2) [] 0 (kv_Tcloade x) 600 = true := by decide +kernel
theorem kv_hcloade {g : kc_G} (hg : kc_ok g) {x : Nat} (hx : x < 6) : kd_holdv g 3 kd_ty 42 [] 0 (kv_Tcloade x) := kd_newv hg kd_xk42 rfl rfl rfl rfl (fun h0 => kd_call_r (d0 := 0) hg kd_xt_ok (kd_ctl_r [] (fun q hq => by cases hq)) 2) (kv_rcloade x hx)
def kv_TcwayA (x : Nat) : kd_Tc := ([(3, 1, 1), (0, 2147483648 + x+1, 2147483648 + x+1), (0, 2147483648, 2147483648 + x), (0, 2147483649, 2147483747)], [(1, 0, (0, 2147483648 + x+1, 2147483653))], [(some (0, 2147483648, 4294967295), [], [(3, 8, 0, 5)])])
theorem kv_rcwayA : ∀ x, x < 5 → kd_runv kd_ty kd_x17 5 (kd_call kd_ty kd_xt (kd_ctl []) 600 2) [] 0 (kv_TcwayA x) 600 = true := by decide +kernel
theorem kv_hcwayA {g : kc_G} (hg : kc_ok g) {x : Nat} (hx : x < 5) : kd_holdv g 3 kd_ty 17 [] 0 (kv_TcwayA x) := kd_newv hg kd_xk17 rfl rfl rfl rfl (fun h0 => kd_call_r (d0 := 0) hg kd_xt_ok (kd_ctl_r [] (fun q hq => by cases hq)) 2) (kv_rcwayA x hx)
def kv_TcwayB (x : Nat) : kd_Tc := ([(3, 1, 1), (0, 2147483648, 2147483648 + x), (0, 2147483648 + x+1, 2147483648 + x+1), (0, 2147483649, 2147483747)], [(1, 0, (0, 2147483648 + x+1, 2147483653))], [(some (0, 2147483648, 4294967295), [], [(3, 8, 0, 5)])])
theorem kv_rcwayB : ∀ x, x < 5 → kd_runv kd_ty kd_x17 5 (kd_call kd_ty kd_xt (kd_ctl []) 600 2) [] 0 (kv_TcwayB x) 600 = true := by decide +kernel
theorem kv_hcwayB {g : kc_G} (hg : kc_ok g) {x : Nat} (hx : x < 5) : kd_holdv g 3 kd_ty 17 [] 0 (kv_TcwayB x) := kd_newv hg kd_xk17 rfl rfl rfl rfl (fun h0 => kd_call_r (d0 := 0) hg kd_xt_ok (kd_ctl_r [] (fun q hq => by cases hq)) 2) (kv_rcwayB x hx)
def kv_Tcway0 : kd_Tc := ([(3, 1, 1), (0, 0, 2147483647), (0, 0, 4294967295), (0, 0, 4294967295)], [], [(some (0, 0, 2147483647), [], [])])
theorem kv_rcway0 : kd_runv kd_ty kd_x17 5 (kd_call kd_ty kd_xt (kd_ctl []) 600 2) [] 0 kv_Tcway0 600 = true := by decide +kernel
theorem kv_hcway0 {g : kc_G} (hg : kc_ok g) : kd_holdv g 3 kd_ty 17 [] 0 kv_Tcway0 := kd_newv hg kd_xk17 rfl rfl rfl rfl (fun h0 => kd_call_r (d0 := 0) hg kd_xt_ok (kd_ctl_r [] (fun q hq => by cases hq)) 2) (kv_rcway0 )
def kv_Tcway1 : kd_Tc := ([(3, 1, 1), (0, 2147483654, 4294967295), (0, 0, 4294967295), (0, 0, 4294967295)], [], [(some (0, 0, 2147483647), [], [])])
theorem kv_rcway1 : kd_runv kd_ty kd_x17 5 (kd_call kd_ty kd_xt (kd_ctl []) 600 2) [] 0 kv_Tcway1 600 = true := by decide +kernel
theorem kv_hcway1 {g : kc_G} (hg : kc_ok g) : kd_holdv g 3 kd_ty 17 [] 0 kv_Tcway1 := kd_newv hg kd_xk17 rfl rfl rfl rfl (fun h0 => kd_call_r (d0 := 0) hg kd_xt_ok (kd_ctl_r [] (fun q hq => by cases hq)) 2) (kv_rcway1 )
def kv_Tcway2 : kd_Tc := ([(3, 1, 1), (0, 0, 4294967295), (0, 0, 2147483647), (0, 0, 4294967295)], [], [(some (0, 0, 2147483647), [], [])])
theorem kv_rcway2 : kd_runv kd_ty kd_x17 5 (kd_call kd_ty kd_xt (kd_ctl []) 600 2) [] 0 kv_Tcway2 600 = true := by decide +kernel
theorem kv_hcway2 {g : kc_G} (hg : kc_ok g) : kd_holdv g 3 kd_ty 17 [] 0 kv_Tcway2 := kd_newv hg kd_xk17 rfl rfl rfl rfl (fun h0 => kd_call_r (d0 := 0) hg kd_xt_ok (kd_ctl_r [] (fun q hq => by cases hq)) 2) (kv_rcway2 )
def kv_Tcway3 : kd_Tc := ([(3, 1, 1), (0, 0, 4294967295), (0, 2147483654, 4294967295), (0, 0, 4294967295)], [], [(some (0, 0, 2147483647), [], [])])
theorem kv_rcway3 : kd_runv kd_ty kd_x17 5 (kd_call kd_ty kd_xt (kd_ctl []) 600 2) [] 0 kv_Tcway3 600 = true := by decide +kernel
theorem kv_hcway3 {g : kc_G} (hg : kc_ok g) : kd_holdv g 3 kd_ty 17 [] 0 kv_Tcway3 := kd_newv hg kd_xk17 rfl rfl rfl rfl (fun h0 => kd_call_r (d0 := 0) hg kd_xt_ok (kd_ctl_r [] (fun q hq => by cases hq)) 2) (kv_rcway3 )
def kv_Tcway4 : kd_Tc := ([(3, 1, 1), (0, 0, 4294967295), (0, 0, 4294967295), (0, 0, 2147483648)], [], [(some (0, 0, 2147483647), [], [])])
theorem kv_rcway4 : kd_runv kd_ty kd_x17 5 (kd_call kd_ty kd_xt (kd_ctl []) 600 2) [] 0 kv_Tcway4 600 = true := by decide +kernel
theorem kv_hcway4 {g : kc_G} (hg : kc_ok g) : kd_holdv g 3 kd_ty 17 [] 0 kv_Tcway4 := kd_newv hg kd_xk17 rfl rfl rfl rfl (fun h0 => kd_call_r (d0 := 0) hg kd_xt_ok (kd_ctl_r [] (fun q hq => by cases hq)) 2) (kv_rcway4 )
def kv_Tcway5 : kd_Tc := ([(3, 1, 1), (0, 0, 4294967295), (0, 0, 4294967295), (0, 2147483748, 4294967295)], [], [(some (0, 0, 2147483647), [], [])])
theorem kv_rcway5 : kd_runv kd_ty kd_x17 5 (kd_call kd_ty kd_xt (kd_ctl []) 600 2) [] 0 kv_Tcway5 600 = true := by decide +kernel
theorem kv_hcway5 {g : kc_G} (hg : kc_ok g) : kd_holdv g 3 kd_ty 17 [] 0 kv_Tcway5 := kd_newv hg kd_xk17 rfl rfl rfl rfl (fun h0 => kd_call_r (d0 := 0) hg kd_xt_ok (kd_ctl_r [] (fun q hq => by cases hq)) 2) (kv_rcway5 )
def kv_Tcwayp (x : Nat) : kd_Tc := ([(3, 1, 1), (0, 2147483648 + x+1, 2147483648 + x+1), (0, 0, 4294967295), (0, 0, 4294967295)], [(1, 0, (0, 2147483648, 2147483648 + x))], [(some (0, 0, 2147483647), [], [])])
theorem kv_rcwayp : ∀ x, x < 5 → kd_runv kd_ty kd_x17 5 (kd_call kd_ty kd_xt (kd_ctl []) 600 2) [] 0 (kv_Tcwayp x) 600 = true := by decide +kernel
theorem kv_hcwayp {g : kc_G} (hg : kc_ok g) {x : Nat} (hx : x < 5) : kd_holdv g 3 kd_ty 17 [] 0 (kv_Tcwayp x) := kd_newv hg kd_xk17 rfl rfl rfl rfl (fun h0 => kd_call_r (d0 := 0) hg kd_xt_ok (kd_ctl_r [] (fun q hq => by cases hq)) 2) (kv_rcwayp x hx)
def kv_Tcwayq (x : Nat) : kd_Tc := ([(3, 1, 1), (0, 0, 4294967295), (0, 2147483648 + x+1, 2147483648 + x+1), (0, 0, 4294967295)], [(1, 0, (0, 2147483648, 2147483648 + x))], [(some (0, 0, 2147483647), [], [])])
theorem kv_rcwayq : ∀ x, x < 5 → kd_runv kd_ty kd_x17 5 (kd_call kd_ty kd_xt (kd_ctl []) 600 2) [] 0 (kv_Tcwayq x) 600 = true := by decide +kernel
theorem kv_hcwayq {g : kc_G} (hg : kc_ok g) {x : Nat} (hx : x < 5) : kd_holdv g 3 kd_ty 17 [] 0 (kv_Tcwayq x) := kd_newv hg kd_xk17 rfl rfl rfl rfl (fun h0 => kd_call_r (d0 := 0) hg kd_xt_ok (kd_ctl_r [] (fun q hq => by cases hq)) 2) (kv_rcwayq x hx)
def kv_Tcwaye (x : Nat) : kd_Tc := ([(3, 1, 1), (0, 2147483648 + x, 2147483648 + x), (0, 2147483648 + x, 2147483648 + x), (0, 0, 4294967295)], [], [(some (0, 0, 2147483647), [], [])])
theorem kv_rcwaye : ∀ x, x < 6 → kd_runv kd_ty kd_x17 5 (kd_call kd_ty kd_xt (kd_ctl []) 600 2) [] 0 (kv_Tcwaye x) 600 = true := by decide +kernel
theorem kv_hcwaye {g : kc_G} (hg : kc_ok g) {x : Nat} (hx : x < 6) : kd_holdv g 3 kd_ty 17 [] 0 (kv_Tcwaye x) := kd_newv hg kd_xk17 rfl rfl rfl rfl (fun h0 => kd_call_r (d0 := 0) hg kd_xt_ok (kd_ctl_r [] (fun q hq => by cases hq)) 2) (kv_rcwaye x hx)
