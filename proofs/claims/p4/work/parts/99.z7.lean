/-! ===== the verbs of a day, run by the engine 6 ===== -/
def kv_Trdrain (x : Nat) : kd_Tc := ([(3, 259, 259), (0, 2147483648 + x, 2147483648 + x), (0, 2147483648, 2147483657)], [(260, 2, (0, 2147483648 + x+1, 2147483658))], [(some (0, 2147483648, 4294967295), [], [(260, 260, 80, 149)])])
theorem kv_rrdrain : ∀ x, x < 10 → kd_runv kd_ty kd_x50 3 (kd_call kd_ty kd_xt (kd_ctl []) 600 2) [] 0 (kv_Trdrain x) 600 = true := by decide +kernel
theorem kv_hrdrain {g : kc_G} (hg : kc_ok g) {x : Nat} (hx : x < 10) : kd_holdv g 3 kd_ty 50 [] 0 (kv_Trdrain x) := kd_newv hg kd_xk50 rfl rfl rfl rfl (fun h0 => kd_call_r (d0 := 0) hg kd_xt_ok (kd_ctl_r [] (fun q hq => by cases hq)) 2) (kv_rrdrain x hx)
def kv_Trdrain0 : kd_Tc := ([(3, 259, 259), (0, 0, 2147483647), (0, 0, 4294967295)], [], [(some (0, 0, 2147483647), [], [])])
theorem kv_rrdrain0 : kd_runv kd_ty kd_x50 3 (kd_call kd_ty kd_xt (kd_ctl []) 600 2) [] 0 kv_Trdrain0 600 = true := by decide +kernel
theorem kv_hrdrain0 {g : kc_G} (hg : kc_ok g) : kd_holdv g 3 kd_ty 50 [] 0 kv_Trdrain0 := kd_newv hg kd_xk50 rfl rfl rfl rfl (fun h0 => kd_call_r (d0 := 0) hg kd_xt_ok (kd_ctl_r [] (fun q hq => by cases hq)) 2) (kv_rrdrain0 )
def kv_Trdrain1 : kd_Tc := ([(3, 259, 259), (0, 2147483658, 4294967295), (0, 0, 4294967295)], [], [(some (0, 0, 2147483647), [], [])])
theorem kv_rrdrain1 : kd_runv kd_ty kd_x50 3 (kd_call kd_ty kd_xt (kd_ctl []) 600 2) [] 0 kv_Trdrain1 600 = true := by decide +kernel
theorem kv_hrdrain1 {g : kc_G} (hg : kc_ok g) : kd_holdv g 3 kd_ty 50 [] 0 kv_Trdrain1 := kd_newv hg kd_xk50 rfl rfl rfl rfl (fun h0 => kd_call_r (d0 := 0) hg kd_xt_ok (kd_ctl_r [] (fun q hq => by cases hq)) 2) (kv_rrdrain1 )
def kv_Trdrain2 : kd_Tc := ([(3, 259, 259), (0, 0, 4294967295), (0, 0, 2147483647)], [], [(some (0, 0, 2147483647), [], [])])
theorem kv_rrdrain2 : kd_runv kd_ty kd_x50 3 (kd_call kd_ty kd_xt (kd_ctl []) 600 2) [] 0 kv_Trdrain2 600 = true := by decide +kernel
theorem kv_hrdrain2 {g : kc_G} (hg : kc_ok g) : kd_holdv g 3 kd_ty 50 [] 0 kv_Trdrain2 := kd_newv hg kd_xk50 rfl rfl rfl rfl (fun h0 => kd_call_r (d0 := 0) hg kd_xt_ok (kd_ctl_r [] (fun q hq => by cases hq)) 2) (kv_rrdrain2 )
def kv_Trdrain3 : kd_Tc := ([(3, 259, 259), (0, 0, 4294967295), (0, 2147483658, 4294967295)], [], [(some (0, 0, 2147483647), [], [])])
theorem kv_rrdrain3 : kd_runv kd_ty kd_x50 3 (kd_call kd_ty kd_xt (kd_ctl []) 600 2) [] 0 kv_Trdrain3 600 = true := by decide +kernel
theorem kv_hrdrain3 {g : kc_G} (hg : kc_ok g) : kd_holdv g 3 kd_ty 50 [] 0 kv_Trdrain3 := kd_newv hg kd_xk50 rfl rfl rfl rfl (fun h0 => kd_call_r (d0 := 0) hg kd_xt_ok (kd_ctl_r [] (fun q hq => by cases hq)) 2) (kv_rrdrain3 )
def kv_Trdrainp (x : Nat) : kd_Tc := ([(3, 259, 259), (0, 2147483648 + x, 2147483648 + x), (0, 0, 4294967295)], [(260, 2, (0, 2147483648, 2147483648 + x))], [(some (0, 0, 2147483647), [], [])])
theorem kv_rrdrainp : ∀ x, x < 10 → kd_runv kd_ty kd_x50 3 (kd_call kd_ty kd_xt (kd_ctl []) 600 2) [] 0 (kv_Trdrainp x) 600 = true := by decide +kernel
theorem kv_hrdrainp {g : kc_G} (hg : kc_ok g) {x : Nat} (hx : x < 10) : kd_holdv g 3 kd_ty 50 [] 0 (kv_Trdrainp x) := kd_newv hg kd_xk50 rfl rfl rfl rfl (fun h0 => kd_call_r (d0 := 0) hg kd_xt_ok (kd_ctl_r [] (fun q hq => by cases hq)) 2) (kv_rrdrainp x hx)
def kv_Trstones (x : Nat) : kd_Tc := ([(3, 259, 259), (0, 2147483648 + x, 2147483648 + x), (0, 2147483648, 2147483657)], [(260, 0, (0, 2147483648 + x, 2147483653))], [(some (0, 2147483648, 4294967295), [], [(260, 260, 52, 57)])])
theorem kv_rrstones : ∀ x, x < 6 → kd_runv kd_ty kd_x30 3 (kd_call kd_ty kd_xt (kd_ctl []) 600 2) [] 0 (kv_Trstones x) 600 = true := by decide +kernel
theorem kv_hrstones {g : kc_G} (hg : kc_ok g) {x : Nat} (hx : x < 6) : kd_holdv g 3 kd_ty 30 [] 0 (kv_Trstones x) := kd_newv hg kd_xk30 rfl rfl rfl rfl (fun h0 => kd_call_r (d0 := 0) hg kd_xt_ok (kd_ctl_r [] (fun q hq => by cases hq)) 2) (kv_rrstones x hx)
def kv_Trstones0 : kd_Tc := ([(3, 259, 259), (0, 0, 2147483647), (0, 0, 4294967295)], [], [(some (0, 0, 2147483647), [], [])])
theorem kv_rrstones0 : kd_runv kd_ty kd_x30 3 (kd_call kd_ty kd_xt (kd_ctl []) 600 2) [] 0 kv_Trstones0 600 = true := by decide +kernel
theorem kv_hrstones0 {g : kc_G} (hg : kc_ok g) : kd_holdv g 3 kd_ty 30 [] 0 kv_Trstones0 := kd_newv hg kd_xk30 rfl rfl rfl rfl (fun h0 => kd_call_r (d0 := 0) hg kd_xt_ok (kd_ctl_r [] (fun q hq => by cases hq)) 2) (kv_rrstones0 )
def kv_Trstones1 : kd_Tc := ([(3, 259, 259), (0, 2147483654, 4294967295), (0, 0, 4294967295)], [], [(some (0, 0, 2147483647), [], [])])
theorem kv_rrstones1 : kd_runv kd_ty kd_x30 3 (kd_call kd_ty kd_xt (kd_ctl []) 600 2) [] 0 kv_Trstones1 600 = true := by decide +kernel
theorem kv_hrstones1 {g : kc_G} (hg : kc_ok g) : kd_holdv g 3 kd_ty 30 [] 0 kv_Trstones1 := kd_newv hg kd_xk30 rfl rfl rfl rfl (fun h0 => kd_call_r (d0 := 0) hg kd_xt_ok (kd_ctl_r [] (fun q hq => by cases hq)) 2) (kv_rrstones1 )
def kv_Trstones2 : kd_Tc := ([(3, 259, 259), (0, 0, 4294967295), (0, 0, 2147483647)], [], [(some (0, 0, 2147483647), [], [])])
theorem kv_rrstones2 : kd_runv kd_ty kd_x30 3 (kd_call kd_ty kd_xt (kd_ctl []) 600 2) [] 0 kv_Trstones2 600 = true := by decide +kernel
theorem kv_hrstones2 {g : kc_G} (hg : kc_ok g) : kd_holdv g 3 kd_ty 30 [] 0 kv_Trstones2 := kd_newv hg kd_xk30 rfl rfl rfl rfl (fun h0 => kd_call_r (d0 := 0) hg kd_xt_ok (kd_ctl_r [] (fun q hq => by cases hq)) 2) (kv_rrstones2 )
def kv_Trstones3 : kd_Tc := ([(3, 259, 259), (0, 0, 4294967295), (0, 2147483658, 4294967295)], [], [(some (0, 0, 2147483647), [], [])])
theorem kv_rrstones3 : kd_runv kd_ty kd_x30 3 (kd_call kd_ty kd_xt (kd_ctl []) 600 2) [] 0 kv_Trstones3 600 = true := by decide +kernel
theorem kv_hrstones3 {g : kc_G} (hg : kc_ok g) : kd_holdv g 3 kd_ty 30 [] 0 kv_Trstones3 := kd_newv hg kd_xk30 rfl rfl rfl rfl (fun h0 => kd_call_r (d0 := 0) hg kd_xt_ok (kd_ctl_r [] (fun q hq => by cases hq)) 2) (kv_rrstones3 )
def kv_Trstonesp (x : Nat) : kd_Tc := ([(3, 259, 259), (0, 2147483648 + x+1, 2147483648 + x+1), (0, 0, 4294967295)], [(260, 0, (0, 2147483648, 2147483648 + x))], [(some (0, 0, 2147483647), [], [])])
theorem kv_rrstonesp : ∀ x, x < 5 → kd_runv kd_ty kd_x30 3 (kd_call kd_ty kd_xt (kd_ctl []) 600 2) [] 0 (kv_Trstonesp x) 600 = true := by decide +kernel
theorem kv_hrstonesp {g : kc_G} (hg : kc_ok g) {x : Nat} (hx : x < 5) : kd_holdv g 3 kd_ty 30 [] 0 (kv_Trstonesp x) := kd_newv hg kd_xk30 rfl rfl rfl rfl (fun h0 => kd_call_r (d0 := 0) hg kd_xt_ok (kd_ctl_r [] (fun q hq => by cases hq)) 2) (kv_rrstonesp x hx)
