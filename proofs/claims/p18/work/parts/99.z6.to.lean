section
-- 99.z6
/-! ===== the verbs of a day, run by the engine 5 ===== -/
def kv_Trloade (x : Nat) : kd_Tc := ([(3, 259, 259), (0, 0, 4294967295), (0, 0, 4294967295), (0, 2147483648 + x, 2147483648 + x), (0, 2147483648 + x, 2147483648 + x)], [], [(some (0, 0, 2147483647), [], [])])
theorem kv_rrloade : ∀ x, x < 6 → kd_runv kd_ty kd_x43 6 (kd_call kd_ty kd_xt (kd_ctl []) 600 2) [] 0 (kv_Trloade x) 600 = true := by decide +kernel
theorem kv_hrloade {g : kc_G} (hg : kc_ok g) {x : Nat} (hx : x < 6) : kd_holdv g 3 kd_ty 43 [] 0 (kv_Trloade x) := kd_newv hg kd_xk43 rfl rfl rfl rfl (fun h0 => kd_call_r (d0 := 0) hg kd_xt_ok (kd_ctl_r [] (fun q hq => by cases hq)) 2) (kv_rrloade x hx)
def kv_TrwayA (x : Nat) : kd_Tc := ([(3, 259, 259), (0, 2147483648 + x+1, 2147483648 + x+1), (0, 2147483648, 2147483648 + x), (0, 2147483649, 2147483747)], [(260, 0, (0, 2147483648 + x+1, 2147483653))], [(some (0, 2147483648, 4294967295), [], [(260, 260, 10, 45)])])
theorem kv_rrwayA : ∀ x, x < 5 → kd_runv kd_ty kd_x20 4 (kd_call kd_ty kd_xt (kd_ctl []) 600 2) [] 0 (kv_TrwayA x) 600 = true := by decide +kernel
theorem kv_hrwayA {g : kc_G} (hg : kc_ok g) {x : Nat} (hx : x < 5) : kd_holdv g 3 kd_ty 20 [] 0 (kv_TrwayA x) := kd_newv hg kd_xk20 rfl rfl rfl rfl (fun h0 => kd_call_r (d0 := 0) hg kd_xt_ok (kd_ctl_r [] (fun q hq => by cases hq)) 2) (kv_rrwayA x hx)
def kv_TrwayB (x : Nat) : kd_Tc := ([(3, 259, 259), (0, 2147483648, 2147483648 + x), (0, 2147483648 + x+1, 2147483648 + x+1), (0, 2147483649, 2147483747)], [(260, 0, (0, 2147483648 + x+1, 2147483653))], [(some (0, 2147483648, 4294967295), [], [(260, 260, 10, 45)])])
theorem kv_rrwayB : ∀ x, x < 5 → kd_runv kd_ty kd_x20 4 (kd_call kd_ty kd_xt (kd_ctl []) 600 2) [] 0 (kv_TrwayB x) 600 = true := by decide +kernel
theorem kv_hrwayB {g : kc_G} (hg : kc_ok g) {x : Nat} (hx : x < 5) : kd_holdv g 3 kd_ty 20 [] 0 (kv_TrwayB x) := kd_newv hg kd_xk20 rfl rfl rfl rfl (fun h0 => kd_call_r (d0 := 0) hg kd_xt_ok (kd_ctl_r [] (fun q hq => by cases hq)) 2) (kv_rrwayB x hx)
def kv_Trway0 : kd_Tc := ([(3, 259, 259), (0, 0, 2147483647), (0, 0, 4294967295), (0, 0, 4294967295)], [], [(some (0, 0, 2147483647), [], [])])
theorem kv_rrway0 : kd_runv kd_ty kd_x20 4 (kd_call kd_ty kd_xt (kd_ctl []) 600 2) [] 0 kv_Trway0 600 = true := by decide +kernel
theorem kv_hrway0 {g : kc_G} (hg : kc_ok g) : kd_holdv g 3 kd_ty 20 [] 0 kv_Trway0 := kd_newv hg kd_xk20 rfl rfl rfl rfl (fun h0 => kd_call_r (d0 := 0) hg kd_xt_ok (kd_ctl_r [] (fun q hq => by cases hq)) 2) (kv_rrway0 )
def kv_Trway1 : kd_Tc := ([(3, 259, 259), (0, 2147483654, 4294967295), (0, 0, 4294967295), (0, 0, 4294967295)], [], [(some (0, 0, 2147483647), [], [])])
theorem kv_rrway1 : kd_runv kd_ty kd_x20 4 (kd_call kd_ty kd_xt (kd_ctl []) 600 2) [] 0 kv_Trway1 600 = true := by decide +kernel
theorem kv_hrway1 {g : kc_G} (hg : kc_ok g) : kd_holdv g 3 kd_ty 20 [] 0 kv_Trway1 := kd_newv hg kd_xk20 rfl rfl rfl rfl (fun h0 => kd_call_r (d0 := 0) hg kd_xt_ok (kd_ctl_r [] (fun q hq => by cases hq)) 2) (kv_rrway1 )
def kv_Trway2 : kd_Tc := ([(3, 259, 259), (0, 0, 4294967295), (0, 0, 2147483647), (0, 0, 4294967295)], [], [(some (0, 0, 2147483647), [], [])])
theorem kv_rrway2 : kd_runv kd_ty kd_x20 4 (kd_call kd_ty kd_xt (kd_ctl []) 600 2) [] 0 kv_Trway2 600 = true := by decide +kernel
theorem kv_hrway2 {g : kc_G} (hg : kc_ok g) : kd_holdv g 3 kd_ty 20 [] 0 kv_Trway2 := kd_newv hg kd_xk20 rfl rfl rfl rfl (fun h0 => kd_call_r (d0 := 0) hg kd_xt_ok (kd_ctl_r [] (fun q hq => by cases hq)) 2) (kv_rrway2 )
def kv_Trway3 : kd_Tc := ([(3, 259, 259), (0, 0, 4294967295), (0, 2147483654, 4294967295), (0, 0, 4294967295)], [], [(some (0, 0, 2147483647), [], [])])
theorem kv_rrway3 : kd_runv kd_ty kd_x20 4 (kd_call kd_ty kd_xt (kd_ctl []) 600 2) [] 0 kv_Trway3 600 = true := by decide +kernel
theorem kv_hrway3 {g : kc_G} (hg : kc_ok g) : kd_holdv g 3 kd_ty 20 [] 0 kv_Trway3 := kd_newv hg kd_xk20 rfl rfl rfl rfl (fun h0 => kd_call_r (d0 := 0) hg kd_xt_ok (kd_ctl_r [] (fun q hq => by cases hq)) 2) (kv_rrway3 )
def kv_Trway4 : kd_Tc := ([(3, 259, 259), (0, 0, 4294967295), (0, 0, 4294967295), (0, 0, 2147483648)], [], [(some (0, 0, 2147483647), [], [])])
theorem kv_rrway4 : kd_runv kd_ty kd_x20 4 (kd_call kd_ty kd_xt (kd_ctl []) 600 2) [] 0 kv_Trway4 600 = true := by decide +kernel
theorem kv_hrway4 {g : kc_G} (hg : kc_ok g) : kd_holdv g 3 kd_ty 20 [] 0 kv_Trway4 := kd_newv hg kd_xk20 rfl rfl rfl rfl (fun h0 => kd_call_r (d0 := 0) hg kd_xt_ok (kd_ctl_r [] (fun q hq => by cases hq)) 2) (kv_rrway4 )
def kv_Trway5 : kd_Tc := ([(3, 259, 259), (0, 0, 4294967295), (0, 0, 4294967295), (0, 2147483748, 4294967295)], [], [(some (0, 0, 2147483647), [], [])])
theorem kv_rrway5 : kd_runv kd_ty kd_x20 4 (kd_call kd_ty kd_xt (kd_ctl []) 600 2) [] 0 kv_Trway5 600 = true := by decide +kernel
theorem kv_hrway5 {g : kc_G} (hg : kc_ok g) : kd_holdv g 3 kd_ty 20 [] 0 kv_Trway5 := kd_newv hg kd_xk20 rfl rfl rfl rfl (fun h0 => kd_call_r (d0 := 0) hg kd_xt_ok (kd_ctl_r [] (fun q hq => by cases hq)) 2) (kv_rrway5 )
def kv_Trwayp (x : Nat) : kd_Tc := ([(3, 259, 259), (0, 2147483648 + x+1, 2147483648 + x+1), (0, 0, 4294967295), (0, 0, 4294967295)], [(260, 0, (0, 2147483648, 2147483648 + x))], [(some (0, 0, 2147483647), [], [])])
theorem kv_rrwayp : ∀ x, x < 5 → kd_runv kd_ty kd_x20 4 (kd_call kd_ty kd_xt (kd_ctl []) 600 2) [] 0 (kv_Trwayp x) 600 = true := by decide +kernel
theorem kv_hrwayp {g : kc_G} (hg : kc_ok g) {x : Nat} (hx : x < 5) : kd_holdv g 3 kd_ty 20 [] 0 (kv_Trwayp x) := kd_newv hg kd_xk20 rfl rfl rfl rfl (fun h0 => kd_call_r (d0 := 0) hg kd_xt_ok (kd_ctl_r [] (fun q hq => by cases hq)) 2) (kv_rrwayp x hx)
def kv_Trwayq (x : Nat) : kd_Tc := ([(3, 259, 259), (0, 0, 4294967295), (0, 2147483648 + x+1, 2147483648 + x+1), (0, 0, 4294967295)], [(260, 0, (0, 2147483648, 2147483648 + x))], [(some (0, 0, 2147483647), [], [])])
theorem kv_rrwayq : ∀ x, x < 5 → kd_runv kd_ty kd_x20 4 (kd_call kd_ty kd_xt (kd_ctl []) 600 2) [] 0 (kv_Trwayq x) 600 = true := by decide +kernel
theorem kv_hrwayq {g : kc_G} (hg : kc_ok g) {x : Nat} (hx : x < 5) : kd_holdv g 3 kd_ty 20 [] 0 (kv_Trwayq x) := kd_newv hg kd_xk20 rfl rfl rfl rfl (fun h0 => kd_call_r (d0 := 0) hg kd_xt_ok (kd_ctl_r [] (fun q hq => by cases hq)) 2) (kv_rrwayq x hx)
def kv_Trwaye (x : Nat) : kd_Tc := ([(3, 259, 259), (0, 2147483648 + x, 2147483648 + x), (0, 2147483648 + x, 2147483648 + x), (0, 0, 4294967295)], [], [(some (0, 0, 2147483647), [], [])])
theorem kv_rrwaye : ∀ x, x < 6 → kd_runv kd_ty kd_x20 4 (kd_call kd_ty kd_xt (kd_ctl []) 600 2) [] 0 (kv_Trwaye x) 600 = true := by decide +kernel
theorem kv_hrwaye {g : kc_G} (hg : kc_ok g) {x : Nat} (hx : x < 6) : kd_holdv g 3 kd_ty 20 [] 0 (kv_Trwaye x) := kd_newv hg kd_xk20 rfl rfl rfl rfl (fun h0 => kd_call_r (d0 := 0) hg kd_xt_ok (kd_ctl_r [] (fun q hq => by cases hq)) 2) (kv_rrwaye x hx)
def kv_Trlame (x : Nat) : kd_Tc := ([(3, 259, 259), (0, 2147483648 + x, 2147483648 + x), (0, 2147483648, 2147483649), (0, 2147483648, 2147484647)], [(260, 1, (0, 2147483648 + x+1, 2147483651))], [(some (0, 2147483648, 4294967295), [], [(260, 260, 60, 74)])])
theorem kv_rrlame : ∀ x, x < 3 → kd_runv kd_ty kd_x39 4 (kd_call kd_ty kd_xt (kd_ctl []) 600 2) [] 0 (kv_Trlame x) 600 = true := by decide +kernel
theorem kv_hrlame {g : kc_G} (hg : kc_ok g) {x : Nat} (hx : x < 3) : kd_holdv g 3 kd_ty 39 [] 0 (kv_Trlame x) := kd_newv hg kd_xk39 rfl rfl rfl rfl (fun h0 => kd_call_r (d0 := 0) hg kd_xt_ok (kd_ctl_r [] (fun q hq => by cases hq)) 2) (kv_rrlame x hx)
def kv_Trlame0 : kd_Tc := ([(3, 259, 259), (0, 0, 2147483647), (0, 0, 4294967295), (0, 0, 4294967295)], [], [(some (0, 0, 2147483647), [], [])])
theorem kv_rrlame0 : kd_runv kd_ty kd_x39 4 (kd_call kd_ty kd_xt (kd_ctl []) 600 2) [] 0 kv_Trlame0 600 = true := by decide +kernel
theorem kv_hrlame0 {g : kc_G} (hg : kc_ok g) : kd_holdv g 3 kd_ty 39 [] 0 kv_Trlame0 := kd_newv hg kd_xk39 rfl rfl rfl rfl (fun h0 => kd_call_r (d0 := 0) hg kd_xt_ok (kd_ctl_r [] (fun q hq => by cases hq)) 2) (kv_rrlame0 )
def kv_Trlame1 : kd_Tc := ([(3, 259, 259), (0, 2147483651, 4294967295), (0, 0, 4294967295), (0, 0, 4294967295)], [], [(some (0, 0, 2147483647), [], [])])
theorem kv_rrlame1 : kd_runv kd_ty kd_x39 4 (kd_call kd_ty kd_xt (kd_ctl []) 600 2) [] 0 kv_Trlame1 600 = true := by decide +kernel
theorem kv_hrlame1 {g : kc_G} (hg : kc_ok g) : kd_holdv g 3 kd_ty 39 [] 0 kv_Trlame1 := kd_newv hg kd_xk39 rfl rfl rfl rfl (fun h0 => kd_call_r (d0 := 0) hg kd_xt_ok (kd_ctl_r [] (fun q hq => by cases hq)) 2) (kv_rrlame1 )
def kv_Trlame2 : kd_Tc := ([(3, 259, 259), (0, 0, 4294967295), (0, 0, 2147483647), (0, 0, 4294967295)], [], [(some (0, 0, 2147483647), [], [])])
theorem kv_rrlame2 : kd_runv kd_ty kd_x39 4 (kd_call kd_ty kd_xt (kd_ctl []) 600 2) [] 0 kv_Trlame2 600 = true := by decide +kernel
theorem kv_hrlame2 {g : kc_G} (hg : kc_ok g) : kd_holdv g 3 kd_ty 39 [] 0 kv_Trlame2 := kd_newv hg kd_xk39 rfl rfl rfl rfl (fun h0 => kd_call_r (d0 := 0) hg kd_xt_ok (kd_ctl_r [] (fun q hq => by cases hq)) 2) (kv_rrlame2 )
def kv_Trlame3 : kd_Tc := ([(3, 259, 259), (0, 0, 4294967295), (0, 2147483650, 4294967295), (0, 0, 4294967295)], [], [(some (0, 0, 2147483647), [], [])])
theorem kv_rrlame3 : kd_runv kd_ty kd_x39 4 (kd_call kd_ty kd_xt (kd_ctl []) 600 2) [] 0 kv_Trlame3 600 = true := by decide +kernel
theorem kv_hrlame3 {g : kc_G} (hg : kc_ok g) : kd_holdv g 3 kd_ty 39 [] 0 kv_Trlame3 := kd_newv hg kd_xk39 rfl rfl rfl rfl (fun h0 => kd_call_r (d0 := 0) hg kd_xt_ok (kd_ctl_r [] (fun q hq => by cases hq)) 2) (kv_rrlame3 )
def kv_Trlame4 : kd_Tc := ([(3, 259, 259), (0, 0, 4294967295), (0, 0, 4294967295), (0, 0, 2147483647)], [], [(some (0, 0, 2147483647), [], [])])
theorem kv_rrlame4 : kd_runv kd_ty kd_x39 4 (kd_call kd_ty kd_xt (kd_ctl []) 600 2) [] 0 kv_Trlame4 600 = true := by decide +kernel
theorem kv_hrlame4 {g : kc_G} (hg : kc_ok g) : kd_holdv g 3 kd_ty 39 [] 0 kv_Trlame4 := kd_newv hg kd_xk39 rfl rfl rfl rfl (fun h0 => kd_call_r (d0 := 0) hg kd_xt_ok (kd_ctl_r [] (fun q hq => by cases hq)) 2) (kv_rrlame4 )
def kv_Trlame5 : kd_Tc := ([(3, 259, 259), (0, 0, 4294967295), (0, 0, 4294967295), (0, 2147484648, 4294967295)], [], [(some (0, 0, 2147483647), [], [])])
theorem kv_rrlame5 : kd_runv kd_ty kd_x39 4 (kd_call kd_ty kd_xt (kd_ctl []) 600 2) [] 0 kv_Trlame5 600 = true := by decide +kernel
theorem kv_hrlame5 {g : kc_G} (hg : kc_ok g) : kd_holdv g 3 kd_ty 39 [] 0 kv_Trlame5 := kd_newv hg kd_xk39 rfl rfl rfl rfl (fun h0 => kd_call_r (d0 := 0) hg kd_xt_ok (kd_ctl_r [] (fun q hq => by cases hq)) 2) (kv_rrlame5 )
def kv_Trlamep (x : Nat) : kd_Tc := ([(3, 259, 259), (0, 2147483648 + x, 2147483648 + x), (0, 0, 4294967295), (0, 0, 4294967295)], [(260, 1, (0, 2147483648, 2147483648 + x))], [(some (0, 0, 2147483647), [], [])])
theorem kv_rrlamep : ∀ x, x < 3 → kd_runv kd_ty kd_x39 4 (kd_call kd_ty kd_xt (kd_ctl []) 600 2) [] 0 (kv_Trlamep x) 600 = true := by decide +kernel
theorem kv_hrlamep {g : kc_G} (hg : kc_ok g) {x : Nat} (hx : x < 3) : kd_holdv g 3 kd_ty 39 [] 0 (kv_Trlamep x) := kd_newv hg kd_xk39 rfl rfl rfl rfl (fun h0 => kd_call_r (d0 := 0) hg kd_xt_ok (kd_ctl_r [] (fun q hq => by cases hq)) 2) (kv_rrlamep x hx)
def kv_Trford (x : Nat) : kd_Tc := ([(3, 259, 259), (0, 2147483648 + x+1, 2147483648 + x+1)], [(260, 0, (0, 2147483648 + x+1, 2147483653)), (260, 46 + (x+1), (0, 2147483648, 2147483648))], [(some (0, 2147483648, 4294967295), [(260, 46 + (x+1), (0, 2147483649, 2147483649))], [(260, 260, 47 + x, 47 + x)])])
theorem kv_rrford : ∀ x, x < 5 → kd_runv kd_ty kd_x26 2 (kd_call kd_ty kd_xt (kd_ctl []) 600 2) [] 0 (kv_Trford x) 600 = true := by decide +kernel
theorem kv_hrford {g : kc_G} (hg : kc_ok g) {x : Nat} (hx : x < 5) : kd_holdv g 3 kd_ty 26 [] 0 (kv_Trford x) := kd_newv hg kd_xk26 rfl rfl rfl rfl (fun h0 => kd_call_r (d0 := 0) hg kd_xt_ok (kd_ctl_r [] (fun q hq => by cases hq)) 2) (kv_rrford x hx)
def kv_Trfordn (x : Nat) : kd_Tc := ([(3, 259, 259), (0, 2147483648 + x+1, 2147483648 + x+1)], [(260, 46 + (x+1), (0, 2147483649, 2147483649))], [(some (0, 0, 2147483647), [], [])])
theorem kv_rrfordn : ∀ x, x < 5 → kd_runv kd_ty kd_x26 2 (kd_call kd_ty kd_xt (kd_ctl []) 600 2) [] 0 (kv_Trfordn x) 600 = true := by decide +kernel
theorem kv_hrfordn {g : kc_G} (hg : kc_ok g) {x : Nat} (hx : x < 5) : kd_holdv g 3 kd_ty 26 [] 0 (kv_Trfordn x) := kd_newv hg kd_xk26 rfl rfl rfl rfl (fun h0 => kd_call_r (d0 := 0) hg kd_xt_ok (kd_ctl_r [] (fun q hq => by cases hq)) 2) (kv_rrfordn x hx)
def kv_Trford0 : kd_Tc := ([(3, 259, 259), (0, 0, 2147483648)], [], [(some (0, 0, 2147483647), [], [])])
theorem kv_rrford0 : kd_runv kd_ty kd_x26 2 (kd_call kd_ty kd_xt (kd_ctl []) 600 2) [] 0 kv_Trford0 600 = true := by decide +kernel
theorem kv_hrford0 {g : kc_G} (hg : kc_ok g) : kd_holdv g 3 kd_ty 26 [] 0 kv_Trford0 := kd_newv hg kd_xk26 rfl rfl rfl rfl (fun h0 => kd_call_r (d0 := 0) hg kd_xt_ok (kd_ctl_r [] (fun q hq => by cases hq)) 2) (kv_rrford0 )
def kv_Trford1 : kd_Tc := ([(3, 259, 259), (0, 2147483654, 4294967295)], [], [(some (0, 0, 2147483647), [], [])])
theorem kv_rrford1 : kd_runv kd_ty kd_x26 2 (kd_call kd_ty kd_xt (kd_ctl []) 600 2) [] 0 kv_Trford1 600 = true := by decide +kernel
theorem kv_hrford1 {g : kc_G} (hg : kc_ok g) : kd_holdv g 3 kd_ty 26 [] 0 kv_Trford1 := kd_newv hg kd_xk26 rfl rfl rfl rfl (fun h0 => kd_call_r (d0 := 0) hg kd_xt_ok (kd_ctl_r [] (fun q hq => by cases hq)) 2) (kv_rrford1 )
def kv_Trfordp (x : Nat) : kd_Tc := ([(3, 259, 259), (0, 2147483648 + x+1, 2147483648 + x+1)], [(260, 0, (0, 2147483648, 2147483648 + x))], [(some (0, 0, 2147483647), [], [])])
theorem kv_rrfordp : ∀ x, x < 5 → kd_runv kd_ty kd_x26 2 (kd_call kd_ty kd_xt (kd_ctl []) 600 2) [] 0 (kv_Trfordp x) 600 = true := by decide +kernel
theorem kv_hrfordp {g : kc_G} (hg : kc_ok g) {x : Nat} (hx : x < 5) : kd_holdv g 3 kd_ty 26 [] 0 (kv_Trfordp x) := kd_newv hg kd_xk26 rfl rfl rfl rfl (fun h0 => kd_call_r (d0 := 0) hg kd_xt_ok (kd_ctl_r [] (fun q hq => by cases hq)) 2) (kv_rrfordp x hx)
def kv_Trask (x : Nat) : kd_Tc := ([(3, 259, 259), (0, 2147483648 + x, 2147483648 + x), (0, 2147483648, 2147483748)], [(260, 2, (0, 2147483648 + x+1, 2147483658))], [(some (0, 2147483648, 4294967295), [], [(260, 260, 80, 149)])])
theorem kv_rrask : ∀ x, x < 10 → kd_runv kd_ty kd_x47 3 (kd_call kd_ty kd_xt (kd_ctl []) 600 2) [] 0 (kv_Trask x) 600 = true := by decide +kernel
theorem kv_hrask {g : kc_G} (hg : kc_ok g) {x : Nat} (hx : x < 10) : kd_holdv g 3 kd_ty 47 [] 0 (kv_Trask x) := kd_newv hg kd_xk47 rfl rfl rfl rfl (fun h0 => kd_call_r (d0 := 0) hg kd_xt_ok (kd_ctl_r [] (fun q hq => by cases hq)) 2) (kv_rrask x hx)
def kv_Trask0 : kd_Tc := ([(3, 259, 259), (0, 0, 2147483647), (0, 0, 4294967295)], [], [(some (0, 0, 2147483647), [], [])])
theorem kv_rrask0 : kd_runv kd_ty kd_x47 3 (kd_call kd_ty kd_xt (kd_ctl []) 600 2) [] 0 kv_Trask0 600 = true := by decide +kernel
theorem kv_hrask0 {g : kc_G} (hg : kc_ok g) : kd_holdv g 3 kd_ty 47 [] 0 kv_Trask0 := kd_newv hg kd_xk47 rfl rfl rfl rfl (fun h0 => kd_call_r (d0 := 0) hg kd_xt_ok (kd_ctl_r [] (fun q hq => by cases hq)) 2) (kv_rrask0 )
def kv_Trask1 : kd_Tc := ([(3, 259, 259), (0, 2147483658, 4294967295), (0, 0, 4294967295)], [], [(some (0, 0, 2147483647), [], [])])
theorem kv_rrask1 : kd_runv kd_ty kd_x47 3 (kd_call kd_ty kd_xt (kd_ctl []) 600 2) [] 0 kv_Trask1 600 = true := by decide +kernel
theorem kv_hrask1 {g : kc_G} (hg : kc_ok g) : kd_holdv g 3 kd_ty 47 [] 0 kv_Trask1 := kd_newv hg kd_xk47 rfl rfl rfl rfl (fun h0 => kd_call_r (d0 := 0) hg kd_xt_ok (kd_ctl_r [] (fun q hq => by cases hq)) 2) (kv_rrask1 )
def kv_Trask2 : kd_Tc := ([(3, 259, 259), (0, 0, 4294967295), (0, 0, 2147483647)], [], [(some (0, 0, 2147483647), [], [])])
theorem kv_rrask2 : kd_runv kd_ty kd_x47 3 (kd_call kd_ty kd_xt (kd_ctl []) 600 2) [] 0 kv_Trask2 600 = true := by decide +kernel
theorem kv_hrask2 {g : kc_G} (hg : kc_ok g) : kd_holdv g 3 kd_ty 47 [] 0 kv_Trask2 := kd_newv hg kd_xk47 rfl rfl rfl rfl (fun h0 => kd_call_r (d0 := 0) hg kd_xt_ok (kd_ctl_r [] (fun q hq => by cases hq)) 2) (kv_rrask2 )
def kv_Trask3 : kd_Tc := ([(3, 259, 259), (0, 0, 4294967295), (0, 2147483749, 4294967295)], [], [(some (0, 0, 2147483647), [], [])])
theorem kv_rrask3 : kd_runv kd_ty kd_x47 3 (kd_call kd_ty kd_xt (kd_ctl []) 600 2) [] 0 kv_Trask3 600 = true := by decide +kernel
theorem kv_hrask3 {g : kc_G} (hg : kc_ok g) : kd_holdv g 3 kd_ty 47 [] 0 kv_Trask3 := kd_newv hg kd_xk47 rfl rfl rfl rfl (fun h0 => kd_call_r (d0 := 0) hg kd_xt_ok (kd_ctl_r [] (fun q hq => by cases hq)) 2) (kv_rrask3 )
def kv_Traskp (x : Nat) : kd_Tc := ([(3, 259, 259), (0, 2147483648 + x, 2147483648 + x), (0, 0, 4294967295)], [(260, 2, (0, 2147483648, 2147483648 + x))], [(some (0, 0, 2147483647), [], [])])
theorem kv_rraskp : ∀ x, x < 10 → kd_runv kd_ty kd_x47 3 (kd_call kd_ty kd_xt (kd_ctl []) 600 2) [] 0 (kv_Traskp x) 600 = true := by decide +kernel
theorem kv_hraskp {g : kc_G} (hg : kc_ok g) {x : Nat} (hx : x < 10) : kd_holdv g 3 kd_ty 47 [] 0 (kv_Traskp x) := kd_newv hg kd_xk47 rfl rfl rfl rfl (fun h0 => kd_call_r (d0 := 0) hg kd_xt_ok (kd_ctl_r [] (fun q hq => by cases hq)) 2) (kv_rraskp x hx)
end
section
-- 99.z7
/-! ===== the verbs of a day, run by the engine 6 ===== -/
def kv_Trdrain (x : Nat) : kd_Tc := ([(3, 259, 259), (0, 2147483648 + x, 2147483648 + x), (0, 2147483648, 2147483657)], [(260, 2, (0, 2147483648 + x+1, 2147483658))], [(some (0, 2147483648, 4294967295), [], [(260, 260, 80, 149)])])
theorem kv_rrdrain : ∀ x, x < 10 → kd_runv kd_ty kd_x50 3 (kd_call kd_ty kd_xt (kd_ctl []) 600 2) [] 0 (kv_Trdrain x) 600 = true := by decide +kernel
theorem kv_hrdrain {g : kc_G} (hg : kc_ok g) {x : Nat} (hx : x < 10) : kd_holdv g 3 kd_ty 50 [] 0 (kv_Trdrain x) := kd_newv hg kd_xk50 rfl rfl rfl rfl (fun h0 => kd_call_r (d0 := 0) hg kd_xt_ok (kd_ctl_r [] (fun q hq => by cases hq)) 2) (kv_rrdrain x hx)
def kv_Trdrain0 : kd_Tc := ([(3, 259, 259), (0, 0, 2147483647), (0, 0, 4294967295)], [], [(some (0, 0, 2147483647), [], [])])
theorem kv_rrdrain0 : kd_runv kd_ty kd_x50 3 (kd_call kd_ty kd_xt (kd_ctl []) 600 2) [] 0 kv_Trdrain0 600 = true := by decide +kernel
theorem kv_hrdrain0 {g : kc_G} (hg : kc_ok g) : kd_holdv g 3 kd_ty 50 [] 0 kv_Trdrain0 := kd_newv hg kd_xk50 rfl rfl rfl rfl (fun h0 => kd_call_r (d0 := 0) hg kd_xt_ok (kd_ctl_r [] (fun q hq => by cases hq)) 2) (kv_rrdrain0 )
def kv_Trdrain1 : kd_Tc := ([(3, 259, 259), (0, 2147483658, 4294967295), (0, 0, 4294967295)], [], [(some (0, 0, 2147483647), [], [])])
theorem kv_rrdrain1 : kd_runv kd_ty kd_x50 3 (kd_call kd_ty kd_xt (kd_ctl []) 600 2) [] 0 kv_Trdrain1 600 = true := by decide +kernel
theorem kv_hrdrain1 {g : kc_G} (hg : kc_ok g) : kd_holdv g 3 kd_ty 50 [] 0 kv_Trdrain1 := kd_newv hg kd_xk50 rfl rfl rfl rfl (fun h0 => kd_call_r (d0 := 0) hg kd_xt_ok (kd_ctl_r [] (fun q hq => by cases hq)) 2) (kv_rrdrain1 )
def kv_Trdrain2 : kd_Tc := ([(3, 259, 259), (0, 0, 4294967295), (0, 0, 2147483647)], [], [(some (0, 0, 2147483647), [], [])])
theorem kv_rrdrain2 : kd_runv kd_ty kd_x50 3 (kd_call kd_ty kd_xt (kd_ctl []) 600 2) [] 0 kv_Trdrain2 600 = true := by decide +kernel
theorem kv_hrdrain2 {g : kc_G} (hg : kc_ok g) : kd_holdv g 3 kd_ty 50 [] 0 kv_Trdrain2 := kd_newv hg kd_xk50 rfl rfl rfl rfl (fun h0 => kd_call_r (d0 := 0) hg kd_xt_ok (kd_ctl_r [] (fun q hq => by cases hq)) 2) (kv_rrdrain2 )
def kv_Trdrain3 : kd_Tc := ([(3, 259, 259), (0, 0, 4294967295), (0, 2147483658, 4294967295)], [], [(some (0, 0, 2147483647), [], [])])
theorem kv_rrdrain3 : kd_runv kd_ty kd_x50 3 (kd_call kd_ty kd_xt (kd_ctl []) 600 2) [] 0 kv_Trdrain3 600 = true := by decide +kernel
theorem kv_hrdrain3 {g : kc_G} (hg : kc_ok g) : kd_holdv g 3 kd_ty 50 [] 0 kv_Trdrain3 := kd_newv hg kd_xk50 rfl rfl rfl rfl (fun h0 => kd_call_r (d0 := 0) hg kd_xt_ok (kd_ctl_r [] (fun q hq => by cases hq)) 2) (kv_rrdrain3 )
def kv_Trdrainp (x : Nat) : kd_Tc := ([(3, 259, 259), (0, 2147483648 + x, 2147483648 + x), (0, 0, 4294967295)], [(260, 2, (0, 2147483648, 2147483648 + x))], [(some (0, 0, 2147483647), [], [])])
theorem kv_rrdrainp : ∀ x, x < 10 → kd_runv kd_ty kd_x50 3 (kd_call kd_ty kd_xt (kd_ctl []) 600 2) [] 0 (kv_Trdrainp x) 600 = true := by decide +kernel
theorem kv_hrdrainp {g : kc_G} (hg : kc_ok g) {x : Nat} (hx : x < 10) : kd_holdv g 3 kd_ty 50 [] 0 (kv_Trdrainp x) := kd_newv hg kd_xk50 rfl rfl rfl rfl (fun h0 => kd_call_r (d0 := 0) hg kd_xt_ok (kd_ctl_r [] (fun q hq => by cases hq)) 2) (kv_rrdrainp x hx)
def kv_Trstones (x : Nat) : kd_Tc := ([(3, 259, 259), (0, 2147483648 + x, 2147483648 + x), (0, 2147483648, 2147483657)], [(260, 0, (0, 2147483648 + x, 2147483653))], [(some (0, 2147483648, 4294967295), [], [(260, 260, 52, 57)])])
theorem kv_rrstones : ∀ x, x < 6 → kd_runv kd_ty kd_x30 3 (kd_call kd_ty kd_xt (kd_ctl []) 600 2) [] 0 (kv_Trstones x) 600 = true := by decide +kernel
theorem kv_hrstones {g : kc_G} (hg : kc_ok g) {x : Nat} (hx : x < 6) : kd_holdv g 3 kd_ty 30 [] 0 (kv_Trstones x) := kd_newv hg kd_xk30 rfl rfl rfl rfl (fun h0 => kd_call_r (d0 := 0) hg kd_xt_ok (kd_ctl_r [] (fun q hq => by cases hq)) 2) (kv_rrstones x hx)
def kv_Trstones0 : kd_Tc := ([(3, 259, 259), (0, 0, 2147483647), (0, 0, 4294967295)], [], [(some (0, 0, 2147483647), [], [])])
theorem kv_rrstones0 : kd_runv kd_ty kd_x30 3 (kd_call kd_ty kd_xt (kd_ctl []) 600 2) [] 0 kv_Trstones0 600 = true := by decide +kernel
theorem kv_hrstones0 {g : kc_G} (hg : kc_ok g) : kd_holdv g 3 kd_ty 30 [] 0 kv_Trstones0 := kd_newv hg kd_xk30 rfl rfl rfl rfl (fun h0 => kd_call_r (d0 := 0) hg kd_xt_ok (kd_ctl_r [] (fun q hq => by cases hq)) 2) (kv_rrstones0 )
def kv_Trstones1 : kd_Tc := ([(3, 259, 259), (0, 2147483654, 4294967295), (0, 0, 4294967295)], [], [(some (0, 0, 2147483647), [], [])])
theorem kv_rrstones1 : kd_runv kd_ty kd_x30 3 (kd_call kd_ty kd_xt (kd_ctl []) 600 2) [] 0 kv_Trstones1 600 = true := by decide +kernel
theorem kv_hrstones1 {g : kc_G} (hg : kc_ok g) : kd_holdv g 3 kd_ty 30 [] 0 kv_Trstones1 := kd_newv hg kd_xk30 rfl rfl rfl rfl (fun h0 => kd_call_r (d0 := 0) hg kd_xt_ok (kd_ctl_r [] (fun q hq => by cases hq)) 2) (kv_rrstones1 )
def kv_Trstones2 : kd_Tc := ([(3, 259, 259), (0, 0, 4294967295), (0, 0, 2147483647)], [], [(some (0, 0, 2147483647), [], [])])
theorem kv_rrstones2 : kd_runv kd_ty kd_x30 3 (kd_call kd_ty kd_xt (kd_ctl []) 600 2) [] 0 kv_Trstones2 600 = true := by decide +kernel
theorem kv_hrstones2 {g : kc_G} (hg : kc_ok g) : kd_holdv g 3 kd_ty 30 [] 0 kv_Trstones2 := kd_newv hg kd_xk30 rfl rfl rfl rfl (fun h0 => kd_call_r (d0 := 0) hg kd_xt_ok (kd_ctl_r [] (fun q hq => by cases hq)) 2) (kv_rrstones2 )
def kv_Trstones3 : kd_Tc := ([(3, 259, 259), (0, 0, 4294967295), (0, 2147483658, 4294967295)], [], [(some (0, 0, 2147483647), [], [])])
theorem kv_rrstones3 : kd_runv kd_ty kd_x30 3 (kd_call kd_ty kd_xt (kd_ctl []) 600 2) [] 0 kv_Trstones3 600 = true := by decide +kernel
theorem kv_hrstones3 {g : kc_G} (hg : kc_ok g) : kd_holdv g 3 kd_ty 30 [] 0 kv_Trstones3 := kd_newv hg kd_xk30 rfl rfl rfl rfl (fun h0 => kd_call_r (d0 := 0) hg kd_xt_ok (kd_ctl_r [] (fun q hq => by cases hq)) 2) (kv_rrstones3 )
def kv_Trstonesp (x : Nat) : kd_Tc := ([(3, 259, 259), (0, 2147483648 + x+1, 2147483648 + x+1), (0, 0, 4294967295)], [(260, 0, (0, 2147483648, 2147483648 + x))], [(some (0, 0, 2147483647), [], [])])
theorem kv_rrstonesp : ∀ x, x < 5 → kd_runv kd_ty kd_x30 3 (kd_call kd_ty kd_xt (kd_ctl []) 600 2) [] 0 (kv_Trstonesp x) 600 = true := by decide +kernel
theorem kv_hrstonesp {g : kc_G} (hg : kc_ok g) {x : Nat} (hx : x < 5) : kd_holdv g 3 kd_ty 30 [] 0 (kv_Trstonesp x) := kd_newv hg kd_xk30 rfl rfl rfl rfl (fun h0 => kd_call_r (d0 := 0) hg kd_xt_ok (kd_ctl_r [] (fun q hq => by cases hq)) 2) (kv_rrstonesp x hx)
end
