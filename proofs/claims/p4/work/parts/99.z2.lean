/-! ===== the verbs of a day, run by the engine 1 ===== -/
def kv_Tclame (x : Nat) : kd_Tc := ([(3, 1, 1), (0, 2147483648 + x, 2147483648 + x), (0, 2147483648, 2147483649), (0, 2147483648, 2147484647)], [(1, 1, (0, 2147483648 + x+1, 2147483651))], [(some (0, 2147483648, 4294967295), [], [(12, 14, 0, 4)])])
theorem kv_rclame : ∀ x, x < 3 → kd_runv kd_ty kd_x36 5 (kd_call kd_ty kd_xt (kd_ctl []) 600 3) [] 0 (kv_Tclame x) 600 = true := by decide +kernel
theorem kv_hclame {g : kc_G} (hg : kc_ok g) {x : Nat} (hx : x < 3) : kd_holdv g 4 kd_ty 36 [] 0 (kv_Tclame x) := kd_newv hg kd_xk36 rfl rfl rfl rfl (fun h0 => kd_call_r (d0 := 0) hg kd_xt_ok (kd_ctl_r [] (fun q hq => by cases hq)) 3) (kv_rclame x hx)
def kv_Tclame0 : kd_Tc := ([(3, 1, 1), (0, 0, 2147483647), (0, 0, 4294967295), (0, 0, 4294967295)], [], [(some (0, 0, 2147483647), [], [])])
theorem kv_rclame0 : kd_runv kd_ty kd_x36 5 (kd_call kd_ty kd_xt (kd_ctl []) 600 3) [] 0 kv_Tclame0 600 = true := by decide +kernel
theorem kv_hclame0 {g : kc_G} (hg : kc_ok g) : kd_holdv g 4 kd_ty 36 [] 0 kv_Tclame0 := kd_newv hg kd_xk36 rfl rfl rfl rfl (fun h0 => kd_call_r (d0 := 0) hg kd_xt_ok (kd_ctl_r [] (fun q hq => by cases hq)) 3) (kv_rclame0 )
def kv_Tclame1 : kd_Tc := ([(3, 1, 1), (0, 2147483651, 4294967295), (0, 0, 4294967295), (0, 0, 4294967295)], [], [(some (0, 0, 2147483647), [], [])])
theorem kv_rclame1 : kd_runv kd_ty kd_x36 5 (kd_call kd_ty kd_xt (kd_ctl []) 600 3) [] 0 kv_Tclame1 600 = true := by decide +kernel
theorem kv_hclame1 {g : kc_G} (hg : kc_ok g) : kd_holdv g 4 kd_ty 36 [] 0 kv_Tclame1 := kd_newv hg kd_xk36 rfl rfl rfl rfl (fun h0 => kd_call_r (d0 := 0) hg kd_xt_ok (kd_ctl_r [] (fun q hq => by cases hq)) 3) (kv_rclame1 )
def kv_Tclame2 : kd_Tc := ([(3, 1, 1), (0, 0, 4294967295), (0, 0, 2147483647), (0, 0, 4294967295)], [], [(some (0, 0, 2147483647), [], [])])
theorem kv_rclame2 : kd_runv kd_ty kd_x36 5 (kd_call kd_ty kd_xt (kd_ctl []) 600 3) [] 0 kv_Tclame2 600 = true := by decide +kernel
theorem kv_hclame2 {g : kc_G} (hg : kc_ok g) : kd_holdv g 4 kd_ty 36 [] 0 kv_Tclame2 := kd_newv hg kd_xk36 rfl rfl rfl rfl (fun h0 => kd_call_r (d0 := 0) hg kd_xt_ok (kd_ctl_r [] (fun q hq => by cases hq)) 3) (kv_rclame2 )
def kv_Tclame3 : kd_Tc := ([(3, 1, 1), (0, 0, 4294967295), (0, 2147483650, 4294967295), (0, 0, 4294967295)], [], [(some (0, 0, 2147483647), [], [])])
theorem kv_rclame3 : kd_runv kd_ty kd_x36 5 (kd_call kd_ty kd_xt (kd_ctl []) 600 3) [] 0 kv_Tclame3 600 = true := by decide +kernel
theorem kv_hclame3 {g : kc_G} (hg : kc_ok g) : kd_holdv g 4 kd_ty 36 [] 0 kv_Tclame3 := kd_newv hg kd_xk36 rfl rfl rfl rfl (fun h0 => kd_call_r (d0 := 0) hg kd_xt_ok (kd_ctl_r [] (fun q hq => by cases hq)) 3) (kv_rclame3 )
def kv_Tclame4 : kd_Tc := ([(3, 1, 1), (0, 0, 4294967295), (0, 0, 4294967295), (0, 0, 2147483647)], [], [(some (0, 0, 2147483647), [], [])])
theorem kv_rclame4 : kd_runv kd_ty kd_x36 5 (kd_call kd_ty kd_xt (kd_ctl []) 600 3) [] 0 kv_Tclame4 600 = true := by decide +kernel
theorem kv_hclame4 {g : kc_G} (hg : kc_ok g) : kd_holdv g 4 kd_ty 36 [] 0 kv_Tclame4 := kd_newv hg kd_xk36 rfl rfl rfl rfl (fun h0 => kd_call_r (d0 := 0) hg kd_xt_ok (kd_ctl_r [] (fun q hq => by cases hq)) 3) (kv_rclame4 )
def kv_Tclame5 : kd_Tc := ([(3, 1, 1), (0, 0, 4294967295), (0, 0, 4294967295), (0, 2147484648, 4294967295)], [], [(some (0, 0, 2147483647), [], [])])
theorem kv_rclame5 : kd_runv kd_ty kd_x36 5 (kd_call kd_ty kd_xt (kd_ctl []) 600 3) [] 0 kv_Tclame5 600 = true := by decide +kernel
theorem kv_hclame5 {g : kc_G} (hg : kc_ok g) : kd_holdv g 4 kd_ty 36 [] 0 kv_Tclame5 := kd_newv hg kd_xk36 rfl rfl rfl rfl (fun h0 => kd_call_r (d0 := 0) hg kd_xt_ok (kd_ctl_r [] (fun q hq => by cases hq)) 3) (kv_rclame5 )
def kv_Tclamep (x : Nat) : kd_Tc := ([(3, 1, 1), (0, 2147483648 + x, 2147483648 + x), (0, 0, 4294967295), (0, 0, 4294967295)], [(1, 1, (0, 2147483648, 2147483648 + x))], [(some (0, 0, 2147483647), [], [])])
theorem kv_rclamep : ∀ x, x < 3 → kd_runv kd_ty kd_x36 5 (kd_call kd_ty kd_xt (kd_ctl []) 600 3) [] 0 (kv_Tclamep x) 600 = true := by decide +kernel
theorem kv_hclamep {g : kc_G} (hg : kc_ok g) {x : Nat} (hx : x < 3) : kd_holdv g 4 kd_ty 36 [] 0 (kv_Tclamep x) := kd_newv hg kd_xk36 rfl rfl rfl rfl (fun h0 => kd_call_r (d0 := 0) hg kd_xt_ok (kd_ctl_r [] (fun q hq => by cases hq)) 3) (kv_rclamep x hx)
def kv_Tcford (x : Nat) : kd_Tc := ([(3, 1, 1), (0, 2147483648 + x+1, 2147483648 + x+1)], [(1, 0, (0, 2147483648 + x+1, 2147483653)), (9, (x+1), (0, 2147483648, 2147483648))], [(some (0, 2147483648, 4294967295), [(9, (x+1), (0, 2147483649, 2147483649))], [(9, 9, x + 1, x + 1)])])
theorem kv_rcford : ∀ x, x < 5 → kd_runv kd_ty kd_x24 2 (kd_call kd_ty kd_xt (kd_ctl []) 600 2) [] 0 (kv_Tcford x) 600 = true := by decide +kernel
theorem kv_hcford {g : kc_G} (hg : kc_ok g) {x : Nat} (hx : x < 5) : kd_holdv g 3 kd_ty 24 [] 0 (kv_Tcford x) := kd_newv hg kd_xk24 rfl rfl rfl rfl (fun h0 => kd_call_r (d0 := 0) hg kd_xt_ok (kd_ctl_r [] (fun q hq => by cases hq)) 2) (kv_rcford x hx)
def kv_Tcfordn (x : Nat) : kd_Tc := ([(3, 1, 1), (0, 2147483648 + x+1, 2147483648 + x+1)], [(9, (x+1), (0, 2147483649, 2147483649))], [(some (0, 0, 2147483647), [], [])])
theorem kv_rcfordn : ∀ x, x < 5 → kd_runv kd_ty kd_x24 2 (kd_call kd_ty kd_xt (kd_ctl []) 600 2) [] 0 (kv_Tcfordn x) 600 = true := by decide +kernel
theorem kv_hcfordn {g : kc_G} (hg : kc_ok g) {x : Nat} (hx : x < 5) : kd_holdv g 3 kd_ty 24 [] 0 (kv_Tcfordn x) := kd_newv hg kd_xk24 rfl rfl rfl rfl (fun h0 => kd_call_r (d0 := 0) hg kd_xt_ok (kd_ctl_r [] (fun q hq => by cases hq)) 2) (kv_rcfordn x hx)
def kv_Tcford0 : kd_Tc := ([(3, 1, 1), (0, 0, 2147483648)], [], [(some (0, 0, 2147483647), [], [])])
theorem kv_rcford0 : kd_runv kd_ty kd_x24 2 (kd_call kd_ty kd_xt (kd_ctl []) 600 2) [] 0 kv_Tcford0 600 = true := by decide +kernel
theorem kv_hcford0 {g : kc_G} (hg : kc_ok g) : kd_holdv g 3 kd_ty 24 [] 0 kv_Tcford0 := kd_newv hg kd_xk24 rfl rfl rfl rfl (fun h0 => kd_call_r (d0 := 0) hg kd_xt_ok (kd_ctl_r [] (fun q hq => by cases hq)) 2) (kv_rcford0 )
def kv_Tcford1 : kd_Tc := ([(3, 1, 1), (0, 2147483654, 4294967295)], [], [(some (0, 0, 2147483647), [], [])])
theorem kv_rcford1 : kd_runv kd_ty kd_x24 2 (kd_call kd_ty kd_xt (kd_ctl []) 600 2) [] 0 kv_Tcford1 600 = true := by decide +kernel
theorem kv_hcford1 {g : kc_G} (hg : kc_ok g) : kd_holdv g 3 kd_ty 24 [] 0 kv_Tcford1 := kd_newv hg kd_xk24 rfl rfl rfl rfl (fun h0 => kd_call_r (d0 := 0) hg kd_xt_ok (kd_ctl_r [] (fun q hq => by cases hq)) 2) (kv_rcford1 )
def kv_Tcfordp (x : Nat) : kd_Tc := ([(3, 1, 1), (0, 2147483648 + x+1, 2147483648 + x+1)], [(1, 0, (0, 2147483648, 2147483648 + x))], [(some (0, 0, 2147483647), [], [])])
theorem kv_rcfordp : ∀ x, x < 5 → kd_runv kd_ty kd_x24 2 (kd_call kd_ty kd_xt (kd_ctl []) 600 2) [] 0 (kv_Tcfordp x) 600 = true := by decide +kernel
theorem kv_hcfordp {g : kc_G} (hg : kc_ok g) {x : Nat} (hx : x < 5) : kd_holdv g 3 kd_ty 24 [] 0 (kv_Tcfordp x) := kd_newv hg kd_xk24 rfl rfl rfl rfl (fun h0 => kd_call_r (d0 := 0) hg kd_xt_ok (kd_ctl_r [] (fun q hq => by cases hq)) 2) (kv_rcfordp x hx)
def kv_Tcask (x : Nat) : kd_Tc := ([(3, 1, 1), (0, 2147483648 + x, 2147483648 + x), (0, 2147483652, 2147483652), (0, 2147483648, 2147483748), (0, 2147483748, 2147483748)], [(1, 2, (0, 2147483648 + x+1, 2147483658))], [(some (0, 2147483648, 4294967295), [], [(16, 25, 0, 6)])])
theorem kv_rcask : ∀ x, x < 10 → kd_runv kd_ty kd_x45 6 (kd_call kd_ty kd_xt (kd_ctl []) 600 2) [] 0 (kv_Tcask x) 600 = true := by decide +kernel
theorem kv_hcask {g : kc_G} (hg : kc_ok g) {x : Nat} (hx : x < 10) : kd_holdv g 3 kd_ty 45 [] 0 (kv_Tcask x) := kd_newv hg kd_xk45 rfl rfl rfl rfl (fun h0 => kd_call_r (d0 := 0) hg kd_xt_ok (kd_ctl_r [] (fun q hq => by cases hq)) 2) (kv_rcask x hx)
def kv_Tcask0 : kd_Tc := ([(3, 1, 1), (0, 0, 2147483647), (0, 2147483652, 2147483652), (0, 0, 4294967295), (0, 2147483748, 2147483748)], [], [(some (0, 0, 2147483647), [], [])])
theorem kv_rcask0 : kd_runv kd_ty kd_x45 6 (kd_call kd_ty kd_xt (kd_ctl []) 600 2) [] 0 kv_Tcask0 600 = true := by decide +kernel
theorem kv_hcask0 {g : kc_G} (hg : kc_ok g) : kd_holdv g 3 kd_ty 45 [] 0 kv_Tcask0 := kd_newv hg kd_xk45 rfl rfl rfl rfl (fun h0 => kd_call_r (d0 := 0) hg kd_xt_ok (kd_ctl_r [] (fun q hq => by cases hq)) 2) (kv_rcask0 )
def kv_Tcask1 : kd_Tc := ([(3, 1, 1), (0, 2147483658, 4294967295), (0, 2147483652, 2147483652), (0, 0, 4294967295), (0, 2147483748, 2147483748)], [], [(some (0, 0, 2147483647), [], [])])
theorem kv_rcask1 : kd_runv kd_ty kd_x45 6 (kd_call kd_ty kd_xt (kd_ctl []) 600 2) [] 0 kv_Tcask1 600 = true := by decide +kernel
theorem kv_hcask1 {g : kc_G} (hg : kc_ok g) : kd_holdv g 3 kd_ty 45 [] 0 kv_Tcask1 := kd_newv hg kd_xk45 rfl rfl rfl rfl (fun h0 => kd_call_r (d0 := 0) hg kd_xt_ok (kd_ctl_r [] (fun q hq => by cases hq)) 2) (kv_rcask1 )
def kv_Tcask2 : kd_Tc := ([(3, 1, 1), (0, 0, 4294967295), (0, 2147483652, 2147483652), (0, 0, 2147483647), (0, 2147483748, 2147483748)], [], [(some (0, 0, 2147483647), [], [])])
theorem kv_rcask2 : kd_runv kd_ty kd_x45 6 (kd_call kd_ty kd_xt (kd_ctl []) 600 2) [] 0 kv_Tcask2 600 = true := by decide +kernel
theorem kv_hcask2 {g : kc_G} (hg : kc_ok g) : kd_holdv g 3 kd_ty 45 [] 0 kv_Tcask2 := kd_newv hg kd_xk45 rfl rfl rfl rfl (fun h0 => kd_call_r (d0 := 0) hg kd_xt_ok (kd_ctl_r [] (fun q hq => by cases hq)) 2) (kv_rcask2 )
def kv_Tcask3 : kd_Tc := ([(3, 1, 1), (0, 0, 4294967295), (0, 2147483652, 2147483652), (0, 2147483749, 4294967295), (0, 2147483748, 2147483748)], [], [(some (0, 0, 2147483647), [], [])])
theorem kv_rcask3 : kd_runv kd_ty kd_x45 6 (kd_call kd_ty kd_xt (kd_ctl []) 600 2) [] 0 kv_Tcask3 600 = true := by decide +kernel
theorem kv_hcask3 {g : kc_G} (hg : kc_ok g) : kd_holdv g 3 kd_ty 45 [] 0 kv_Tcask3 := kd_newv hg kd_xk45 rfl rfl rfl rfl (fun h0 => kd_call_r (d0 := 0) hg kd_xt_ok (kd_ctl_r [] (fun q hq => by cases hq)) 2) (kv_rcask3 )
def kv_Tcaskp (x : Nat) : kd_Tc := ([(3, 1, 1), (0, 2147483648 + x, 2147483648 + x), (0, 2147483652, 2147483652), (0, 0, 4294967295), (0, 2147483748, 2147483748)], [(1, 2, (0, 2147483648, 2147483648 + x))], [(some (0, 0, 2147483647), [], [])])
theorem kv_rcaskp : ∀ x, x < 10 → kd_runv kd_ty kd_x45 6 (kd_call kd_ty kd_xt (kd_ctl []) 600 2) [] 0 (kv_Tcaskp x) 600 = true := by decide +kernel
theorem kv_hcaskp {g : kc_G} (hg : kc_ok g) {x : Nat} (hx : x < 10) : kd_holdv g 3 kd_ty 45 [] 0 (kv_Tcaskp x) := kd_newv hg kd_xk45 rfl rfl rfl rfl (fun h0 => kd_call_r (d0 := 0) hg kd_xt_ok (kd_ctl_r [] (fun q hq => by cases hq)) 2) (kv_rcaskp x hx)
def kv_Tcdrain (x : Nat) : kd_Tc := ([(3, 1, 1), (0, 2147483648 + x, 2147483648 + x), (0, 2147483653, 2147483653), (0, 2147483648, 2147483657), (0, 2147483657, 2147483657)], [(1, 2, (0, 2147483648 + x+1, 2147483658))], [(some (0, 2147483648, 4294967295), [], [(16, 25, 0, 6)])])
theorem kv_rcdrain : ∀ x, x < 10 → kd_runv kd_ty kd_x45 6 (kd_call kd_ty kd_xt (kd_ctl []) 600 2) [] 0 (kv_Tcdrain x) 600 = true := by decide +kernel
theorem kv_hcdrain {g : kc_G} (hg : kc_ok g) {x : Nat} (hx : x < 10) : kd_holdv g 3 kd_ty 45 [] 0 (kv_Tcdrain x) := kd_newv hg kd_xk45 rfl rfl rfl rfl (fun h0 => kd_call_r (d0 := 0) hg kd_xt_ok (kd_ctl_r [] (fun q hq => by cases hq)) 2) (kv_rcdrain x hx)
def kv_Tcdrain0 : kd_Tc := ([(3, 1, 1), (0, 0, 2147483647), (0, 2147483653, 2147483653), (0, 0, 4294967295), (0, 2147483657, 2147483657)], [], [(some (0, 0, 2147483647), [], [])])
theorem kv_rcdrain0 : kd_runv kd_ty kd_x45 6 (kd_call kd_ty kd_xt (kd_ctl []) 600 2) [] 0 kv_Tcdrain0 600 = true := by decide +kernel
theorem kv_hcdrain0 {g : kc_G} (hg : kc_ok g) : kd_holdv g 3 kd_ty 45 [] 0 kv_Tcdrain0 := kd_newv hg kd_xk45 rfl rfl rfl rfl (fun h0 => kd_call_r (d0 := 0) hg kd_xt_ok (kd_ctl_r [] (fun q hq => by cases hq)) 2) (kv_rcdrain0 )
def kv_Tcdrain1 : kd_Tc := ([(3, 1, 1), (0, 2147483658, 4294967295), (0, 2147483653, 2147483653), (0, 0, 4294967295), (0, 2147483657, 2147483657)], [], [(some (0, 0, 2147483647), [], [])])
theorem kv_rcdrain1 : kd_runv kd_ty kd_x45 6 (kd_call kd_ty kd_xt (kd_ctl []) 600 2) [] 0 kv_Tcdrain1 600 = true := by decide +kernel
theorem kv_hcdrain1 {g : kc_G} (hg : kc_ok g) : kd_holdv g 3 kd_ty 45 [] 0 kv_Tcdrain1 := kd_newv hg kd_xk45 rfl rfl rfl rfl (fun h0 => kd_call_r (d0 := 0) hg kd_xt_ok (kd_ctl_r [] (fun q hq => by cases hq)) 2) (kv_rcdrain1 )
def kv_Tcdrain2 : kd_Tc := ([(3, 1, 1), (0, 0, 4294967295), (0, 2147483653, 2147483653), (0, 0, 2147483647), (0, 2147483657, 2147483657)], [], [(some (0, 0, 2147483647), [], [])])
theorem kv_rcdrain2 : kd_runv kd_ty kd_x45 6 (kd_call kd_ty kd_xt (kd_ctl []) 600 2) [] 0 kv_Tcdrain2 600 = true := by decide +kernel
theorem kv_hcdrain2 {g : kc_G} (hg : kc_ok g) : kd_holdv g 3 kd_ty 45 [] 0 kv_Tcdrain2 := kd_newv hg kd_xk45 rfl rfl rfl rfl (fun h0 => kd_call_r (d0 := 0) hg kd_xt_ok (kd_ctl_r [] (fun q hq => by cases hq)) 2) (kv_rcdrain2 )
def kv_Tcdrain3 : kd_Tc := ([(3, 1, 1), (0, 0, 4294967295), (0, 2147483653, 2147483653), (0, 2147483658, 4294967295), (0, 2147483657, 2147483657)], [], [(some (0, 0, 2147483647), [], [])])
theorem kv_rcdrain3 : kd_runv kd_ty kd_x45 6 (kd_call kd_ty kd_xt (kd_ctl []) 600 2) [] 0 kv_Tcdrain3 600 = true := by decide +kernel
theorem kv_hcdrain3 {g : kc_G} (hg : kc_ok g) : kd_holdv g 3 kd_ty 45 [] 0 kv_Tcdrain3 := kd_newv hg kd_xk45 rfl rfl rfl rfl (fun h0 => kd_call_r (d0 := 0) hg kd_xt_ok (kd_ctl_r [] (fun q hq => by cases hq)) 2) (kv_rcdrain3 )
def kv_Tcdrainp (x : Nat) : kd_Tc := ([(3, 1, 1), (0, 2147483648 + x, 2147483648 + x), (0, 2147483653, 2147483653), (0, 0, 4294967295), (0, 2147483657, 2147483657)], [(1, 2, (0, 2147483648, 2147483648 + x))], [(some (0, 0, 2147483647), [], [])])
theorem kv_rcdrainp : ∀ x, x < 10 → kd_runv kd_ty kd_x45 6 (kd_call kd_ty kd_xt (kd_ctl []) 600 2) [] 0 (kv_Tcdrainp x) 600 = true := by decide +kernel
theorem kv_hcdrainp {g : kc_G} (hg : kc_ok g) {x : Nat} (hx : x < 10) : kd_holdv g 3 kd_ty 45 [] 0 (kv_Tcdrainp x) := kd_newv hg kd_xk45 rfl rfl rfl rfl (fun h0 => kd_call_r (d0 := 0) hg kd_xt_ok (kd_ctl_r [] (fun q hq => by cases hq)) 2) (kv_rcdrainp x hx)
def kv_Tcstones (x : Nat) : kd_Tc := ([(3, 1, 1), (0, 2147483648 + x, 2147483648 + x), (0, 2147483648, 2147483657)], [(1, 0, (0, 2147483648 + x, 2147483653))], [(some (0, 2147483648, 4294967295), [], [(10, 10, 0, 5)])])
theorem kv_rcstones : ∀ x, x < 6 → kd_runv kd_ty kd_x29 4 (kd_call kd_ty kd_xt (kd_ctl []) 600 2) [] 0 (kv_Tcstones x) 600 = true := by decide +kernel
theorem kv_hcstones {g : kc_G} (hg : kc_ok g) {x : Nat} (hx : x < 6) : kd_holdv g 3 kd_ty 29 [] 0 (kv_Tcstones x) := kd_newv hg kd_xk29 rfl rfl rfl rfl (fun h0 => kd_call_r (d0 := 0) hg kd_xt_ok (kd_ctl_r [] (fun q hq => by cases hq)) 2) (kv_rcstones x hx)
def kv_Tcstones0 : kd_Tc := ([(3, 1, 1), (0, 0, 2147483647), (0, 0, 4294967295)], [], [(some (0, 0, 2147483647), [], [])])
theorem kv_rcstones0 : kd_runv kd_ty kd_x29 4 (kd_call kd_ty kd_xt (kd_ctl []) 600 2) [] 0 kv_Tcstones0 600 = true := by decide +kernel
theorem kv_hcstones0 {g : kc_G} (hg : kc_ok g) : kd_holdv g 3 kd_ty 29 [] 0 kv_Tcstones0 := kd_newv hg kd_xk29 rfl rfl rfl rfl (fun h0 => kd_call_r (d0 := 0) hg kd_xt_ok (kd_ctl_r [] (fun q hq => by cases hq)) 2) (kv_rcstones0 )
def kv_Tcstones1 : kd_Tc := ([(3, 1, 1), (0, 2147483654, 4294967295), (0, 0, 4294967295)], [], [(some (0, 0, 2147483647), [], [])])
theorem kv_rcstones1 : kd_runv kd_ty kd_x29 4 (kd_call kd_ty kd_xt (kd_ctl []) 600 2) [] 0 kv_Tcstones1 600 = true := by decide +kernel
theorem kv_hcstones1 {g : kc_G} (hg : kc_ok g) : kd_holdv g 3 kd_ty 29 [] 0 kv_Tcstones1 := kd_newv hg kd_xk29 rfl rfl rfl rfl (fun h0 => kd_call_r (d0 := 0) hg kd_xt_ok (kd_ctl_r [] (fun q hq => by cases hq)) 2) (kv_rcstones1 )
def kv_Tcstones2 : kd_Tc := ([(3, 1, 1), (0, 0, 4294967295), (0, 0, 2147483647)], [], [(some (0, 0, 2147483647), [], [])])
theorem kv_rcstones2 : kd_runv kd_ty kd_x29 4 (kd_call kd_ty kd_xt (kd_ctl []) 600 2) [] 0 kv_Tcstones2 600 = true := by decide +kernel
theorem kv_hcstones2 {g : kc_G} (hg : kc_ok g) : kd_holdv g 3 kd_ty 29 [] 0 kv_Tcstones2 := kd_newv hg kd_xk29 rfl rfl rfl rfl (fun h0 => kd_call_r (d0 := 0) hg kd_xt_ok (kd_ctl_r [] (fun q hq => by cases hq)) 2) (kv_rcstones2 )
def kv_Tcstones3 : kd_Tc := ([(3, 1, 1), (0, 0, 4294967295), (0, 2147483658, 4294967295)], [], [(some (0, 0, 2147483647), [], [])])
theorem kv_rcstones3 : kd_runv kd_ty kd_x29 4 (kd_call kd_ty kd_xt (kd_ctl []) 600 2) [] 0 kv_Tcstones3 600 = true := by decide +kernel
theorem kv_hcstones3 {g : kc_G} (hg : kc_ok g) : kd_holdv g 3 kd_ty 29 [] 0 kv_Tcstones3 := kd_newv hg kd_xk29 rfl rfl rfl rfl (fun h0 => kd_call_r (d0 := 0) hg kd_xt_ok (kd_ctl_r [] (fun q hq => by cases hq)) 2) (kv_rcstones3 )
def kv_Tcstonesp (x : Nat) : kd_Tc := ([(3, 1, 1), (0, 2147483648 + x+1, 2147483648 + x+1), (0, 0, 4294967295)], [(1, 0, (0, 2147483648, 2147483648 + x))], [(some (0, 0, 2147483647), [], [])])
theorem kv_rcstonesp : ∀ x, x < 5 → kd_runv kd_ty kd_x29 4 (kd_call kd_ty kd_xt (kd_ctl []) 600 2) [] 0 (kv_Tcstonesp x) 600 = true := by decide +kernel
theorem kv_hcstonesp {g : kc_G} (hg : kc_ok g) {x : Nat} (hx : x < 5) : kd_holdv g 3 kd_ty 29 [] 0 (kv_Tcstonesp x) := kd_newv hg kd_xk29 rfl rfl rfl rfl (fun h0 => kd_call_r (d0 := 0) hg kd_xt_ok (kd_ctl_r [] (fun q hq => by cases hq)) 2) (kv_rcstonesp x hx)
def kv_Ttmule : kd_Tc := ([(3, 0, 0), (0, 2147483649, 2147484647), (0, 2147483648, 2147483747), (0, 2147483648, 2147483747)], [(1, 1, (1, 0, 2147483648))], [(some (0, 2147483648, 4294967295), [(1, 1, (1, 0, 2147483649))], [(1, 1, 1, 1), (12, 14, 0, 4)])])
theorem kv_rtmule : kd_runv kd_ty kd_x32 4 (kd_call kd_ty kd_xt (kd_ctl []) 600 2) [(2147483648, 2147483650)] 1 kv_Ttmule 600 = true := by decide +kernel
theorem kv_htmule {g : kc_G} (hg : kc_ok g) : kd_holdv g 3 kd_ty 32 [(2147483648, 2147483650)] 1 kv_Ttmule := kd_newv hg kd_xk32 rfl rfl rfl rfl (fun h0 => kd_call_r (d0 := 0) hg kd_xt_ok (kd_ctl_r [] (fun q hq => by cases hq)) 2) (kv_rtmule )
def kv_Ttmulef : kd_Tc := ([(3, 0, 0), (0, 2147483649, 2147484647), (0, 2147483648, 2147483747), (0, 2147483648, 2147483747)], [(1, 1, (0, 2147483651, 2147483651))], [(some (0, 0, 2147483647), [], [])])
theorem kv_rtmulef : kd_runv kd_ty kd_x32 4 (kd_call kd_ty kd_xt (kd_ctl []) 600 2) [] 0 kv_Ttmulef 600 = true := by decide +kernel
theorem kv_htmulef {g : kc_G} (hg : kc_ok g) : kd_holdv g 3 kd_ty 32 [] 0 kv_Ttmulef := kd_newv hg kd_xk32 rfl rfl rfl rfl (fun h0 => kd_call_r (d0 := 0) hg kd_xt_ok (kd_ctl_r [] (fun q hq => by cases hq)) 2) (kv_rtmulef )
def kv_Ttmule0 : kd_Tc := ([(3, 0, 0), (0, 0, 2147483648), (0, 0, 4294967295), (0, 0, 4294967295)], [], [(some (0, 0, 2147483647), [], [])])
theorem kv_rtmule0 : kd_runv kd_ty kd_x32 4 (kd_call kd_ty kd_xt (kd_ctl []) 600 2) [] 0 kv_Ttmule0 600 = true := by decide +kernel
theorem kv_htmule0 {g : kc_G} (hg : kc_ok g) : kd_holdv g 3 kd_ty 32 [] 0 kv_Ttmule0 := kd_newv hg kd_xk32 rfl rfl rfl rfl (fun h0 => kd_call_r (d0 := 0) hg kd_xt_ok (kd_ctl_r [] (fun q hq => by cases hq)) 2) (kv_rtmule0 )
def kv_Ttmule1 : kd_Tc := ([(3, 0, 0), (0, 2147484648, 4294967295), (0, 0, 4294967295), (0, 0, 4294967295)], [], [(some (0, 0, 2147483647), [], [])])
theorem kv_rtmule1 : kd_runv kd_ty kd_x32 4 (kd_call kd_ty kd_xt (kd_ctl []) 600 2) [] 0 kv_Ttmule1 600 = true := by decide +kernel
theorem kv_htmule1 {g : kc_G} (hg : kc_ok g) : kd_holdv g 3 kd_ty 32 [] 0 kv_Ttmule1 := kd_newv hg kd_xk32 rfl rfl rfl rfl (fun h0 => kd_call_r (d0 := 0) hg kd_xt_ok (kd_ctl_r [] (fun q hq => by cases hq)) 2) (kv_rtmule1 )
def kv_Ttmule2 : kd_Tc := ([(3, 0, 0), (0, 0, 4294967295), (0, 0, 2147483647), (0, 0, 4294967295)], [], [(some (0, 0, 2147483647), [], [])])
theorem kv_rtmule2 : kd_runv kd_ty kd_x32 4 (kd_call kd_ty kd_xt (kd_ctl []) 600 2) [] 0 kv_Ttmule2 600 = true := by decide +kernel
theorem kv_htmule2 {g : kc_G} (hg : kc_ok g) : kd_holdv g 3 kd_ty 32 [] 0 kv_Ttmule2 := kd_newv hg kd_xk32 rfl rfl rfl rfl (fun h0 => kd_call_r (d0 := 0) hg kd_xt_ok (kd_ctl_r [] (fun q hq => by cases hq)) 2) (kv_rtmule2 )
def kv_Ttmule3 : kd_Tc := ([(3, 0, 0), (0, 0, 4294967295), (0, 2147483748, 4294967295), (0, 0, 4294967295)], [], [(some (0, 0, 2147483647), [], [])])
theorem kv_rtmule3 : kd_runv kd_ty kd_x32 4 (kd_call kd_ty kd_xt (kd_ctl []) 600 2) [] 0 kv_Ttmule3 600 = true := by decide +kernel
theorem kv_htmule3 {g : kc_G} (hg : kc_ok g) : kd_holdv g 3 kd_ty 32 [] 0 kv_Ttmule3 := kd_newv hg kd_xk32 rfl rfl rfl rfl (fun h0 => kd_call_r (d0 := 0) hg kd_xt_ok (kd_ctl_r [] (fun q hq => by cases hq)) 2) (kv_rtmule3 )
def kv_Ttmule4 : kd_Tc := ([(3, 0, 0), (0, 0, 4294967295), (0, 0, 4294967295), (0, 0, 2147483647)], [], [(some (0, 0, 2147483647), [], [])])
theorem kv_rtmule4 : kd_runv kd_ty kd_x32 4 (kd_call kd_ty kd_xt (kd_ctl []) 600 2) [] 0 kv_Ttmule4 600 = true := by decide +kernel
theorem kv_htmule4 {g : kc_G} (hg : kc_ok g) : kd_holdv g 3 kd_ty 32 [] 0 kv_Ttmule4 := kd_newv hg kd_xk32 rfl rfl rfl rfl (fun h0 => kd_call_r (d0 := 0) hg kd_xt_ok (kd_ctl_r [] (fun q hq => by cases hq)) 2) (kv_rtmule4 )
def kv_Ttmule5 : kd_Tc := ([(3, 0, 0), (0, 0, 4294967295), (0, 0, 4294967295), (0, 2147483748, 4294967295)], [], [(some (0, 0, 2147483647), [], [])])
theorem kv_rtmule5 : kd_runv kd_ty kd_x32 4 (kd_call kd_ty kd_xt (kd_ctl []) 600 2) [] 0 kv_Ttmule5 600 = true := by decide +kernel
theorem kv_htmule5 {g : kc_G} (hg : kc_ok g) : kd_holdv g 3 kd_ty 32 [] 0 kv_Ttmule5 := kd_newv hg kd_xk32 rfl rfl rfl rfl (fun h0 => kd_call_r (d0 := 0) hg kd_xt_ok (kd_ctl_r [] (fun q hq => by cases hq)) 2) (kv_rtmule5 )
def kv_TtloadA (x : Nat) : kd_Tc := ([(3, 0, 0), (0, 2147483649, 2147483747), (0, 2147483648, 2147483649), (0, 2147483648 + x+1, 2147483648 + x+1), (0, 2147483648, 2147483648 + x)], [(1, 0, (0, 2147483648 + x+1, 2147483653)), (1, 2, (1, 0, 2147483648))], [(some (0, 2147483648, 4294967295), [(1, 2, (1, 0, 2147483649))], [(1, 1, 2, 2), (16, 25, 0, 6)])])
theorem kv_rtloadA : ∀ x, x < 5 → kd_runv kd_ty kd_x41 5 (kd_call kd_ty kd_xt (kd_ctl []) 600 3) [(2147483648, 2147483657)] 1 (kv_TtloadA x) 600 = true := by decide +kernel
theorem kv_htloadA {g : kc_G} (hg : kc_ok g) {x : Nat} (hx : x < 5) : kd_holdv g 4 kd_ty 41 [(2147483648, 2147483657)] 1 (kv_TtloadA x) := kd_newv hg kd_xk41 rfl rfl rfl rfl (fun h0 => kd_call_r (d0 := 0) hg kd_xt_ok (kd_ctl_r [] (fun q hq => by cases hq)) 3) (kv_rtloadA x hx)
def kv_TtloadfA (x : Nat) : kd_Tc := ([(3, 0, 0), (0, 2147483649, 2147483747), (0, 2147483648, 2147483649), (0, 2147483648 + x+1, 2147483648 + x+1), (0, 2147483648, 2147483648 + x)], [(1, 0, (0, 2147483648 + x+1, 2147483653)), (1, 2, (0, 2147483658, 2147483658))], [(some (0, 0, 2147483647), [], [])])
theorem kv_rtloadfA : ∀ x, x < 5 → kd_runv kd_ty kd_x41 5 (kd_call kd_ty kd_xt (kd_ctl []) 600 3) [] 0 (kv_TtloadfA x) 600 = true := by decide +kernel
theorem kv_htloadfA {g : kc_G} (hg : kc_ok g) {x : Nat} (hx : x < 5) : kd_holdv g 4 kd_ty 41 [] 0 (kv_TtloadfA x) := kd_newv hg kd_xk41 rfl rfl rfl rfl (fun h0 => kd_call_r (d0 := 0) hg kd_xt_ok (kd_ctl_r [] (fun q hq => by cases hq)) 3) (kv_rtloadfA x hx)
def kv_TtloadB (x : Nat) : kd_Tc := ([(3, 0, 0), (0, 2147483649, 2147483747), (0, 2147483648, 2147483649), (0, 2147483648, 2147483648 + x), (0, 2147483648 + x+1, 2147483648 + x+1)], [(1, 0, (0, 2147483648 + x+1, 2147483653)), (1, 2, (1, 0, 2147483648))], [(some (0, 2147483648, 4294967295), [(1, 2, (1, 0, 2147483649))], [(1, 1, 2, 2), (16, 25, 0, 6)])])
theorem kv_rtloadB : ∀ x, x < 5 → kd_runv kd_ty kd_x41 5 (kd_call kd_ty kd_xt (kd_ctl []) 600 3) [(2147483648, 2147483657)] 1 (kv_TtloadB x) 600 = true := by decide +kernel
theorem kv_htloadB {g : kc_G} (hg : kc_ok g) {x : Nat} (hx : x < 5) : kd_holdv g 4 kd_ty 41 [(2147483648, 2147483657)] 1 (kv_TtloadB x) := kd_newv hg kd_xk41 rfl rfl rfl rfl (fun h0 => kd_call_r (d0 := 0) hg kd_xt_ok (kd_ctl_r [] (fun q hq => by cases hq)) 3) (kv_rtloadB x hx)
def kv_TtloadfB (x : Nat) : kd_Tc := ([(3, 0, 0), (0, 2147483649, 2147483747), (0, 2147483648, 2147483649), (0, 2147483648, 2147483648 + x), (0, 2147483648 + x+1, 2147483648 + x+1)], [(1, 0, (0, 2147483648 + x+1, 2147483653)), (1, 2, (0, 2147483658, 2147483658))], [(some (0, 0, 2147483647), [], [])])
theorem kv_rtloadfB : ∀ x, x < 5 → kd_runv kd_ty kd_x41 5 (kd_call kd_ty kd_xt (kd_ctl []) 600 3) [] 0 (kv_TtloadfB x) 600 = true := by decide +kernel
theorem kv_htloadfB {g : kc_G} (hg : kc_ok g) {x : Nat} (hx : x < 5) : kd_holdv g 4 kd_ty 41 [] 0 (kv_TtloadfB x) := kd_newv hg kd_xk41 rfl rfl rfl rfl (fun h0 => kd_call_r (d0 := 0) hg kd_xt_ok (kd_ctl_r [] (fun q hq => by cases hq)) 3) (kv_rtloadfB x hx)
def kv_Ttload0 : kd_Tc := ([(3, 0, 0), (0, 0, 2147483648), (0, 0, 4294967295), (0, 0, 4294967295), (0, 0, 4294967295)], [], [(some (0, 0, 2147483647), [], [])])
theorem kv_rtload0 : kd_runv kd_ty kd_x41 5 (kd_call kd_ty kd_xt (kd_ctl []) 600 2) [] 0 kv_Ttload0 600 = true := by decide +kernel
theorem kv_htload0 {g : kc_G} (hg : kc_ok g) : kd_holdv g 3 kd_ty 41 [] 0 kv_Ttload0 := kd_newv hg kd_xk41 rfl rfl rfl rfl (fun h0 => kd_call_r (d0 := 0) hg kd_xt_ok (kd_ctl_r [] (fun q hq => by cases hq)) 2) (kv_rtload0 )
def kv_Ttload1 : kd_Tc := ([(3, 0, 0), (0, 2147483748, 4294967295), (0, 0, 4294967295), (0, 0, 4294967295), (0, 0, 4294967295)], [], [(some (0, 0, 2147483647), [], [])])
theorem kv_rtload1 : kd_runv kd_ty kd_x41 5 (kd_call kd_ty kd_xt (kd_ctl []) 600 2) [] 0 kv_Ttload1 600 = true := by decide +kernel
theorem kv_htload1 {g : kc_G} (hg : kc_ok g) : kd_holdv g 3 kd_ty 41 [] 0 kv_Ttload1 := kd_newv hg kd_xk41 rfl rfl rfl rfl (fun h0 => kd_call_r (d0 := 0) hg kd_xt_ok (kd_ctl_r [] (fun q hq => by cases hq)) 2) (kv_rtload1 )
def kv_Ttload2 : kd_Tc := ([(3, 0, 0), (0, 0, 4294967295), (0, 0, 2147483647), (0, 0, 4294967295), (0, 0, 4294967295)], [], [(some (0, 0, 2147483647), [], [])])
theorem kv_rtload2 : kd_runv kd_ty kd_x41 5 (kd_call kd_ty kd_xt (kd_ctl []) 600 2) [] 0 kv_Ttload2 600 = true := by decide +kernel
theorem kv_htload2 {g : kc_G} (hg : kc_ok g) : kd_holdv g 3 kd_ty 41 [] 0 kv_Ttload2 := kd_newv hg kd_xk41 rfl rfl rfl rfl (fun h0 => kd_call_r (d0 := 0) hg kd_xt_ok (kd_ctl_r [] (fun q hq => by cases hq)) 2) (kv_rtload2 )
