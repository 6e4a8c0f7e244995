/-! ===== mule, load: the answers exactly ===== -/
theorem kv_nox {g : kc_G} {d id n0 k : Nat} {σ : Nat → Nat} {xs : List kc_V} {h : kc_H} (hk : k < 2147483648) (hc : kc_Con g d id xs h (fun xr h' => ∃ p ∈ ([(some (0, 2147483648 - k, 2147483648 - k), [], [])] : List kd_P), kd_rv n0 σ p.1 xr ∧ kd_gF n0 σ p.2.1 h' ∧ kd_wt kd_ty h' ∧ kd_fr p.2.2 h h')) : kc_Con g d id xs h (fun rv h' => ∃ r : Int32, rv = some (.inl r) ∧ r.toInt = -(k : Int) ∧ h' = h) := by
  refine kc_Con_mono hc (fun rv h' hq => ?_)
  obtain ⟨p, p1, p2, -, -, p5⟩ := hq
  obtain rfl := List.mem_singleton.mp p1
  cases rv with
  | none => exact p2.elim
  | some y =>
    obtain ⟨z, rfl, z1, z2⟩ := p2
    refine ⟨z, rfl, ?_, ?_⟩
    · unfold kd_nb at z1 z2
      have := kv_lo z
      omega
    · funext c i
      exact p5 c i (fun q hq => by cases hq)
theorem kv_p0 {x : kc_V} {k : Nat} (hk : k < 1000) (h : kd_g 1 (fun _ => 2147483648 + k) (1, 0, 2147483648) x) : x = .inl (Int32.ofNat k) := by
  obtain ⟨-, z, rfl, e⟩ := h
  have e : kd_nb z + 2147483648 = 2147483648 + k + 2147483648 := e
  congr 1
  apply Int32.toInt_inj.mp
  rw [kx_ti (by omega)]
  unfold kd_nb at e
  have := kv_lo z
  omega
def ku_am (a b c : Int32) (M : Nat) : Int := if 1 ≤ a.toInt ∧ a.toInt ≤ 999 ∧ 0 ≤ b.toInt ∧ b.toInt ≤ 99 ∧ 0 ≤ c.toInt ∧ c.toInt ≤ 99 then (if M < 3 then (M : Int) else -4) else -2
def ku_al (a b c e : Int32) (D L : Nat) : Int := if 1 ≤ a.toInt ∧ a.toInt ≤ 99 ∧ 0 ≤ b.toInt ∧ b.toInt ≤ 1 ∧ 0 ≤ c.toInt ∧ c.toInt ≤ D ∧ 0 ≤ e.toInt ∧ e.toInt ≤ D ∧ ¬ c.toInt = e.toInt then (if L < 10 then (L : Int) else -4) else -2
def kv_XTtmule : kd_Tc := ([(3, 0, 0), (0, 2147483649, 2147484647), (0, 2147483648, 2147483747), (0, 2147483648, 2147483747)], [(1, 1, (1, 0, 2147483648))], [(some (1, 0, 2147483648), [(1, 1, (1, 0, 2147483649))], [(1, 1, 1, 1), (12, 14, 0, 4)])])
theorem kv_Xrtmule : kd_runv kd_ty kd_x32 4 (kd_call kd_ty kd_xt (kd_ctl []) 600 2) [(2147483648, 2147483650)] 1 kv_XTtmule 600 = true := by decide +kernel
theorem kv_Xhtmule {g : kc_G} (hg : kc_ok g) : kd_holdv g 3 kd_ty 32 [(2147483648, 2147483650)] 1 kv_XTtmule := kd_newv hg kd_xk32 rfl rfl rfl rfl (fun h0 => kd_call_r (d0 := 0) hg kd_xt_ok (kd_ctl_r [] (fun q hq => by cases hq)) 2) (kv_Xrtmule )
def kv_XTtmulef : kd_Tc := ([(3, 0, 0), (0, 2147483649, 2147484647), (0, 2147483648, 2147483747), (0, 2147483648, 2147483747)], [(1, 1, (0, 2147483651, 2147483651))], [(some (0, 2147483648 - 4, 2147483648 - 4), [], [])])
theorem kv_Xrtmulef : kd_runv kd_ty kd_x32 4 (kd_call kd_ty kd_xt (kd_ctl []) 600 2) [] 0 kv_XTtmulef 600 = true := by decide +kernel
theorem kv_Xhtmulef {g : kc_G} (hg : kc_ok g) : kd_holdv g 3 kd_ty 32 [] 0 kv_XTtmulef := kd_newv hg kd_xk32 rfl rfl rfl rfl (fun h0 => kd_call_r (d0 := 0) hg kd_xt_ok (kd_ctl_r [] (fun q hq => by cases hq)) 2) (kv_Xrtmulef )
def kv_XTtmule0 : kd_Tc := ([(3, 0, 0), (0, 0, 2147483648), (0, 0, 4294967295), (0, 0, 4294967295)], [], [(some (0, 2147483648 - 2, 2147483648 - 2), [], [])])
theorem kv_Xrtmule0 : kd_runv kd_ty kd_x32 4 (kd_call kd_ty kd_xt (kd_ctl []) 600 2) [] 0 kv_XTtmule0 600 = true := by decide +kernel
theorem kv_Xhtmule0 {g : kc_G} (hg : kc_ok g) : kd_holdv g 3 kd_ty 32 [] 0 kv_XTtmule0 := kd_newv hg kd_xk32 rfl rfl rfl rfl (fun h0 => kd_call_r (d0 := 0) hg kd_xt_ok (kd_ctl_r [] (fun q hq => by cases hq)) 2) (kv_Xrtmule0 )
def kv_XTtmule1 : kd_Tc := ([(3, 0, 0), (0, 2147484648, 4294967295), (0, 0, 4294967295), (0, 0, 4294967295)], [], [(some (0, 2147483648 - 2, 2147483648 - 2), [], [])])
theorem kv_Xrtmule1 : kd_runv kd_ty kd_x32 4 (kd_call kd_ty kd_xt (kd_ctl []) 600 2) [] 0 kv_XTtmule1 600 = true := by decide +kernel
theorem kv_Xhtmule1 {g : kc_G} (hg : kc_ok g) : kd_holdv g 3 kd_ty 32 [] 0 kv_XTtmule1 := kd_newv hg kd_xk32 rfl rfl rfl rfl (fun h0 => kd_call_r (d0 := 0) hg kd_xt_ok (kd_ctl_r [] (fun q hq => by cases hq)) 2) (kv_Xrtmule1 )
def kv_XTtmule2 : kd_Tc := ([(3, 0, 0), (0, 0, 4294967295), (0, 0, 2147483647), (0, 0, 4294967295)], [], [(some (0, 2147483648 - 2, 2147483648 - 2), [], [])])
theorem kv_Xrtmule2 : kd_runv kd_ty kd_x32 4 (kd_call kd_ty kd_xt (kd_ctl []) 600 2) [] 0 kv_XTtmule2 600 = true := by decide +kernel
theorem kv_Xhtmule2 {g : kc_G} (hg : kc_ok g) : kd_holdv g 3 kd_ty 32 [] 0 kv_XTtmule2 := kd_newv hg kd_xk32 rfl rfl rfl rfl (fun h0 => kd_call_r (d0 := 0) hg kd_xt_ok (kd_ctl_r [] (fun q hq => by cases hq)) 2) (kv_Xrtmule2 )
def kv_XTtmule3 : kd_Tc := ([(3, 0, 0), (0, 0, 4294967295), (0, 2147483748, 4294967295), (0, 0, 4294967295)], [], [(some (0, 2147483648 - 2, 2147483648 - 2), [], [])])
theorem kv_Xrtmule3 : kd_runv kd_ty kd_x32 4 (kd_call kd_ty kd_xt (kd_ctl []) 600 2) [] 0 kv_XTtmule3 600 = true := by decide +kernel
theorem kv_Xhtmule3 {g : kc_G} (hg : kc_ok g) : kd_holdv g 3 kd_ty 32 [] 0 kv_XTtmule3 := kd_newv hg kd_xk32 rfl rfl rfl rfl (fun h0 => kd_call_r (d0 := 0) hg kd_xt_ok (kd_ctl_r [] (fun q hq => by cases hq)) 2) (kv_Xrtmule3 )
def kv_XTtmule4 : kd_Tc := ([(3, 0, 0), (0, 0, 4294967295), (0, 0, 4294967295), (0, 0, 2147483647)], [], [(some (0, 2147483648 - 2, 2147483648 - 2), [], [])])
theorem kv_Xrtmule4 : kd_runv kd_ty kd_x32 4 (kd_call kd_ty kd_xt (kd_ctl []) 600 2) [] 0 kv_XTtmule4 600 = true := by decide +kernel
theorem kv_Xhtmule4 {g : kc_G} (hg : kc_ok g) : kd_holdv g 3 kd_ty 32 [] 0 kv_XTtmule4 := kd_newv hg kd_xk32 rfl rfl rfl rfl (fun h0 => kd_call_r (d0 := 0) hg kd_xt_ok (kd_ctl_r [] (fun q hq => by cases hq)) 2) (kv_Xrtmule4 )
def kv_XTtmule5 : kd_Tc := ([(3, 0, 0), (0, 0, 4294967295), (0, 0, 4294967295), (0, 2147483748, 4294967295)], [], [(some (0, 2147483648 - 2, 2147483648 - 2), [], [])])
theorem kv_Xrtmule5 : kd_runv kd_ty kd_x32 4 (kd_call kd_ty kd_xt (kd_ctl []) 600 2) [] 0 kv_XTtmule5 600 = true := by decide +kernel
theorem kv_Xhtmule5 {g : kc_G} (hg : kc_ok g) : kd_holdv g 3 kd_ty 32 [] 0 kv_XTtmule5 := kd_newv hg kd_xk32 rfl rfl rfl rfl (fun h0 => kd_call_r (d0 := 0) hg kd_xt_ok (kd_ctl_r [] (fun q hq => by cases hq)) 2) (kv_Xrtmule5 )
def kv_XTtloadA (x : Nat) : kd_Tc := ([(3, 0, 0), (0, 2147483649, 2147483747), (0, 2147483648, 2147483649), (0, 2147483648 + x+1, 2147483648 + x+1), (0, 2147483648, 2147483648 + x)], [(1, 0, (0, 2147483648 + x+1, 2147483653)), (1, 2, (1, 0, 2147483648))], [(some (1, 0, 2147483648), [(1, 2, (1, 0, 2147483649))], [(1, 1, 2, 2), (16, 25, 0, 6)])])
theorem kv_XrtloadA : ∀ x, x < 5 → kd_runv kd_ty kd_x41 5 (kd_call kd_ty kd_xt (kd_ctl []) 600 3) [(2147483648, 2147483657)] 1 (kv_XTtloadA x) 600 = true := by decide +kernel
theorem kv_XhtloadA {g : kc_G} (hg : kc_ok g) {x : Nat} (hx : x < 5) : kd_holdv g 4 kd_ty 41 [(2147483648, 2147483657)] 1 (kv_XTtloadA x) := kd_newv hg kd_xk41 rfl rfl rfl rfl (fun h0 => kd_call_r (d0 := 0) hg kd_xt_ok (kd_ctl_r [] (fun q hq => by cases hq)) 3) (kv_XrtloadA x hx)
def kv_XTtloadfA (x : Nat) : kd_Tc := ([(3, 0, 0), (0, 2147483649, 2147483747), (0, 2147483648, 2147483649), (0, 2147483648 + x+1, 2147483648 + x+1), (0, 2147483648, 2147483648 + x)], [(1, 0, (0, 2147483648 + x+1, 2147483653)), (1, 2, (0, 2147483658, 2147483658))], [(some (0, 2147483648 - 4, 2147483648 - 4), [], [])])
theorem kv_XrtloadfA : ∀ x, x < 5 → kd_runv kd_ty kd_x41 5 (kd_call kd_ty kd_xt (kd_ctl []) 600 3) [] 0 (kv_XTtloadfA x) 600 = true := by decide +kernel
theorem kv_XhtloadfA {g : kc_G} (hg : kc_ok g) {x : Nat} (hx : x < 5) : kd_holdv g 4 kd_ty 41 [] 0 (kv_XTtloadfA x) := kd_newv hg kd_xk41 rfl rfl rfl rfl (fun h0 => kd_call_r (d0 := 0) hg kd_xt_ok (kd_ctl_r [] (fun q hq => by cases hq)) 3) (kv_XrtloadfA x hx)
def kv_XTtloadB (x : Nat) : kd_Tc := ([(3, 0, 0), (0, 2147483649, 2147483747), (0, 2147483648, 2147483649), (0, 2147483648, 2147483648 + x), (0, 2147483648 + x+1, 2147483648 + x+1)], [(1, 0, (0, 2147483648 + x+1, 2147483653)), (1, 2, (1, 0, 2147483648))], [(some (1, 0, 2147483648), [(1, 2, (1, 0, 2147483649))], [(1, 1, 2, 2), (16, 25, 0, 6)])])
theorem kv_XrtloadB : ∀ x, x < 5 → kd_runv kd_ty kd_x41 5 (kd_call kd_ty kd_xt (kd_ctl []) 600 3) [(2147483648, 2147483657)] 1 (kv_XTtloadB x) 600 = true := by decide +kernel
theorem kv_XhtloadB {g : kc_G} (hg : kc_ok g) {x : Nat} (hx : x < 5) : kd_holdv g 4 kd_ty 41 [(2147483648, 2147483657)] 1 (kv_XTtloadB x) := kd_newv hg kd_xk41 rfl rfl rfl rfl (fun h0 => kd_call_r (d0 := 0) hg kd_xt_ok (kd_ctl_r [] (fun q hq => by cases hq)) 3) (kv_XrtloadB x hx)
def kv_XTtloadfB (x : Nat) : kd_Tc := ([(3, 0, 0), (0, 2147483649, 2147483747), (0, 2147483648, 2147483649), (0, 2147483648, 2147483648 + x), (0, 2147483648 + x+1, 2147483648 + x+1)], [(1, 0, (0, 2147483648 + x+1, 2147483653)), (1, 2, (0, 2147483658, 2147483658))], [(some (0, 2147483648 - 4, 2147483648 - 4), [], [])])
theorem kv_XrtloadfB : ∀ x, x < 5 → kd_runv kd_ty kd_x41 5 (kd_call kd_ty kd_xt (kd_ctl []) 600 3) [] 0 (kv_XTtloadfB x) 600 = true := by decide +kernel
theorem kv_XhtloadfB {g : kc_G} (hg : kc_ok g) {x : Nat} (hx : x < 5) : kd_holdv g 4 kd_ty 41 [] 0 (kv_XTtloadfB x) := kd_newv hg kd_xk41 rfl rfl rfl rfl (fun h0 => kd_call_r (d0 := 0) hg kd_xt_ok (kd_ctl_r [] (fun q hq => by cases hq)) 3) (kv_XrtloadfB x hx)
def kv_XTtload0 : kd_Tc := ([(3, 0, 0), (0, 0, 2147483648), (0, 0, 4294967295), (0, 0, 4294967295), (0, 0, 4294967295)], [], [(some (0, 2147483648 - 2, 2147483648 - 2), [], [])])
theorem kv_Xrtload0 : kd_runv kd_ty kd_x41 5 (kd_call kd_ty kd_xt (kd_ctl []) 600 2) [] 0 kv_XTtload0 600 = true := by decide +kernel
theorem kv_Xhtload0 {g : kc_G} (hg : kc_ok g) : kd_holdv g 3 kd_ty 41 [] 0 kv_XTtload0 := kd_newv hg kd_xk41 rfl rfl rfl rfl (fun h0 => kd_call_r (d0 := 0) hg kd_xt_ok (kd_ctl_r [] (fun q hq => by cases hq)) 2) (kv_Xrtload0 )
def kv_XTtload1 : kd_Tc := ([(3, 0, 0), (0, 2147483748, 4294967295), (0, 0, 4294967295), (0, 0, 4294967295), (0, 0, 4294967295)], [], [(some (0, 2147483648 - 2, 2147483648 - 2), [], [])])
theorem kv_Xrtload1 : kd_runv kd_ty kd_x41 5 (kd_call kd_ty kd_xt (kd_ctl []) 600 2) [] 0 kv_XTtload1 600 = true := by decide +kernel
theorem kv_Xhtload1 {g : kc_G} (hg : kc_ok g) : kd_holdv g 3 kd_ty 41 [] 0 kv_XTtload1 := kd_newv hg kd_xk41 rfl rfl rfl rfl (fun h0 => kd_call_r (d0 := 0) hg kd_xt_ok (kd_ctl_r [] (fun q hq => by cases hq)) 2) (kv_Xrtload1 )
def kv_XTtload2 : kd_Tc := ([(3, 0, 0), (0, 0, 4294967295), (0, 0, 2147483647), (0, 0, 4294967295), (0, 0, 4294967295)], [], [(some (0, 2147483648 - 2, 2147483648 - 2), [], [])])
theorem kv_Xrtload2 : kd_runv kd_ty kd_x41 5 (kd_call kd_ty kd_xt (kd_ctl []) 600 2) [] 0 kv_XTtload2 600 = true := by decide +kernel
theorem kv_Xhtload2 {g : kc_G} (hg : kc_ok g) : kd_holdv g 3 kd_ty 41 [] 0 kv_XTtload2 := kd_newv hg kd_xk41 rfl rfl rfl rfl (fun h0 => kd_call_r (d0 := 0) hg kd_xt_ok (kd_ctl_r [] (fun q hq => by cases hq)) 2) (kv_Xrtload2 )
def kv_XTtload3 : kd_Tc := ([(3, 0, 0), (0, 0, 4294967295), (0, 2147483650, 4294967295), (0, 0, 4294967295), (0, 0, 4294967295)], [], [(some (0, 2147483648 - 2, 2147483648 - 2), [], [])])
theorem kv_Xrtload3 : kd_runv kd_ty kd_x41 5 (kd_call kd_ty kd_xt (kd_ctl []) 600 2) [] 0 kv_XTtload3 600 = true := by decide +kernel
theorem kv_Xhtload3 {g : kc_G} (hg : kc_ok g) : kd_holdv g 3 kd_ty 41 [] 0 kv_XTtload3 := kd_newv hg kd_xk41 rfl rfl rfl rfl (fun h0 => kd_call_r (d0 := 0) hg kd_xt_ok (kd_ctl_r [] (fun q hq => by cases hq)) 2) (kv_Xrtload3 )
def kv_XTtload4 : kd_Tc := ([(3, 0, 0), (0, 0, 4294967295), (0, 0, 4294967295), (0, 0, 2147483647), (0, 0, 4294967295)], [], [(some (0, 2147483648 - 2, 2147483648 - 2), [], [])])
theorem kv_Xrtload4 : kd_runv kd_ty kd_x41 5 (kd_call kd_ty kd_xt (kd_ctl []) 600 3) [] 0 kv_XTtload4 600 = true := by decide +kernel
theorem kv_Xhtload4 {g : kc_G} (hg : kc_ok g) : kd_holdv g 4 kd_ty 41 [] 0 kv_XTtload4 := kd_newv hg kd_xk41 rfl rfl rfl rfl (fun h0 => kd_call_r (d0 := 0) hg kd_xt_ok (kd_ctl_r [] (fun q hq => by cases hq)) 3) (kv_Xrtload4 )
def kv_XTtload5 : kd_Tc := ([(3, 0, 0), (0, 0, 4294967295), (0, 0, 4294967295), (0, 2147483654, 4294967295), (0, 0, 4294967295)], [], [(some (0, 2147483648 - 2, 2147483648 - 2), [], [])])
theorem kv_Xrtload5 : kd_runv kd_ty kd_x41 5 (kd_call kd_ty kd_xt (kd_ctl []) 600 3) [] 0 kv_XTtload5 600 = true := by decide +kernel
theorem kv_Xhtload5 {g : kc_G} (hg : kc_ok g) : kd_holdv g 4 kd_ty 41 [] 0 kv_XTtload5 := kd_newv hg kd_xk41 rfl rfl rfl rfl (fun h0 => kd_call_r (d0 := 0) hg kd_xt_ok (kd_ctl_r [] (fun q hq => by cases hq)) 3) (kv_Xrtload5 )
def kv_XTtload6 : kd_Tc := ([(3, 0, 0), (0, 0, 4294967295), (0, 0, 4294967295), (0, 0, 4294967295), (0, 0, 2147483647)], [], [(some (0, 2147483648 - 2, 2147483648 - 2), [], [])])
theorem kv_Xrtload6 : kd_runv kd_ty kd_x41 5 (kd_call kd_ty kd_xt (kd_ctl []) 600 3) [] 0 kv_XTtload6 600 = true := by decide +kernel
theorem kv_Xhtload6 {g : kc_G} (hg : kc_ok g) : kd_holdv g 4 kd_ty 41 [] 0 kv_XTtload6 := kd_newv hg kd_xk41 rfl rfl rfl rfl (fun h0 => kd_call_r (d0 := 0) hg kd_xt_ok (kd_ctl_r [] (fun q hq => by cases hq)) 3) (kv_Xrtload6 )
def kv_XTtload7 : kd_Tc := ([(3, 0, 0), (0, 0, 4294967295), (0, 0, 4294967295), (0, 0, 4294967295), (0, 2147483654, 4294967295)], [], [(some (0, 2147483648 - 2, 2147483648 - 2), [], [])])
theorem kv_Xrtload7 : kd_runv kd_ty kd_x41 5 (kd_call kd_ty kd_xt (kd_ctl []) 600 3) [] 0 kv_XTtload7 600 = true := by decide +kernel
theorem kv_Xhtload7 {g : kc_G} (hg : kc_ok g) : kd_holdv g 4 kd_ty 41 [] 0 kv_XTtload7 := kd_newv hg kd_xk41 rfl rfl rfl rfl (fun h0 => kd_call_r (d0 := 0) hg kd_xt_ok (kd_ctl_r [] (fun q hq => by cases hq)) 3) (kv_Xrtload7 )
def kv_XTtloadp (x : Nat) : kd_Tc := ([(3, 0, 0), (0, 0, 4294967295), (0, 0, 4294967295), (0, 2147483648 + x+1, 2147483648 + x+1), (0, 0, 4294967295)], [(1, 0, (0, 2147483648, 2147483648 + x))], [(some (0, 2147483648 - 2, 2147483648 - 2), [], [])])
theorem kv_Xrtloadp : ∀ x, x < 5 → kd_runv kd_ty kd_x41 5 (kd_call kd_ty kd_xt (kd_ctl []) 600 3) [] 0 (kv_XTtloadp x) 600 = true := by decide +kernel
theorem kv_Xhtloadp {g : kc_G} (hg : kc_ok g) {x : Nat} (hx : x < 5) : kd_holdv g 4 kd_ty 41 [] 0 (kv_XTtloadp x) := kd_newv hg kd_xk41 rfl rfl rfl rfl (fun h0 => kd_call_r (d0 := 0) hg kd_xt_ok (kd_ctl_r [] (fun q hq => by cases hq)) 3) (kv_Xrtloadp x hx)
def kv_XTtloadq (x : Nat) : kd_Tc := ([(3, 0, 0), (0, 0, 4294967295), (0, 0, 4294967295), (0, 0, 4294967295), (0, 2147483648 + x+1, 2147483648 + x+1)], [(1, 0, (0, 2147483648, 2147483648 + x))], [(some (0, 2147483648 - 2, 2147483648 - 2), [], [])])
theorem kv_Xrtloadq : ∀ x, x < 5 → kd_runv kd_ty kd_x41 5 (kd_call kd_ty kd_xt (kd_ctl []) 600 3) [] 0 (kv_XTtloadq x) 600 = true := by decide +kernel
theorem kv_Xhtloadq {g : kc_G} (hg : kc_ok g) {x : Nat} (hx : x < 5) : kd_holdv g 4 kd_ty 41 [] 0 (kv_XTtloadq x) := kd_newv hg kd_xk41 rfl rfl rfl rfl (fun h0 => kd_call_r (d0 := 0) hg kd_xt_ok (kd_ctl_r [] (fun q hq => by cases hq)) 3) (kv_Xrtloadq x hx)
def kv_XTtloade (x : Nat) : kd_Tc := ([(3, 0, 0), (0, 0, 4294967295), (0, 0, 4294967295), (0, 2147483648 + x, 2147483648 + x), (0, 2147483648 + x, 2147483648 + x)], [], [(some (0, 2147483648 - 2, 2147483648 - 2), [], [])])
theorem kv_Xrtloade : ∀ x, x < 6 → kd_runv kd_ty kd_x41 5 (kd_call kd_ty kd_xt (kd_ctl []) 600 3) [] 0 (kv_XTtloade x) 600 = true := by decide +kernel
theorem kv_Xhtloade {g : kc_G} (hg : kc_ok g) {x : Nat} (hx : x < 6) : kd_holdv g 4 kd_ty 41 [] 0 (kv_XTtloade x) := kd_newv hg kd_xk41 rfl rfl rfl rfl (fun h0 => kd_call_r (d0 := 0) hg kd_xt_ok (kd_ctl_r [] (fun q hq => by cases hq)) 3) (kv_Xrtloade x hx)
def kv_XTrmule : kd_Tc := ([(3, 259, 259), (0, 2147483649, 2147484647), (0, 2147483648, 2147483747), (0, 2147483648, 2147483747)], [(260, 1, (1, 0, 2147483648))], [(some (1, 0, 2147483648), [(260, 1, (1, 0, 2147483649))], [(260, 260, 1, 1), (260, 260, 60, 74)])])
theorem kv_Xrrmule : kd_runv kd_ty kd_x34 5 (kd_call kd_ty kd_xt (kd_ctl []) 600 1) [(2147483648, 2147483650)] 1 kv_XTrmule 600 = true := by decide +kernel
theorem kv_Xhrmule {g : kc_G} (hg : kc_ok g) : kd_holdv g 2 kd_ty 34 [(2147483648, 2147483650)] 1 kv_XTrmule := kd_newv hg kd_xk34 rfl rfl rfl rfl (fun h0 => kd_call_r (d0 := 0) hg kd_xt_ok (kd_ctl_r [] (fun q hq => by cases hq)) 1) (kv_Xrrmule )
def kv_XTrmulef : kd_Tc := ([(3, 259, 259), (0, 2147483649, 2147484647), (0, 2147483648, 2147483747), (0, 2147483648, 2147483747)], [(260, 1, (0, 2147483651, 2147483651))], [(some (0, 2147483648 - 4, 2147483648 - 4), [], [])])
theorem kv_Xrrmulef : kd_runv kd_ty kd_x34 5 (kd_call kd_ty kd_xt (kd_ctl []) 600 1) [] 0 kv_XTrmulef 600 = true := by decide +kernel
theorem kv_Xhrmulef {g : kc_G} (hg : kc_ok g) : kd_holdv g 2 kd_ty 34 [] 0 kv_XTrmulef := kd_newv hg kd_xk34 rfl rfl rfl rfl (fun h0 => kd_call_r (d0 := 0) hg kd_xt_ok (kd_ctl_r [] (fun q hq => by cases hq)) 1) (kv_Xrrmulef )
def kv_XTrmule0 : kd_Tc := ([(3, 259, 259), (0, 0, 2147483648), (0, 0, 4294967295), (0, 0, 4294967295)], [], [(some (0, 2147483648 - 2, 2147483648 - 2), [], [])])
theorem kv_Xrrmule0 : kd_runv kd_ty kd_x34 5 (kd_call kd_ty kd_xt (kd_ctl []) 600 1) [] 0 kv_XTrmule0 600 = true := by decide +kernel
theorem kv_Xhrmule0 {g : kc_G} (hg : kc_ok g) : kd_holdv g 2 kd_ty 34 [] 0 kv_XTrmule0 := kd_newv hg kd_xk34 rfl rfl rfl rfl (fun h0 => kd_call_r (d0 := 0) hg kd_xt_ok (kd_ctl_r [] (fun q hq => by cases hq)) 1) (kv_Xrrmule0 )
def kv_XTrmule1 : kd_Tc := ([(3, 259, 259), (0, 2147484648, 4294967295), (0, 0, 4294967295), (0, 0, 4294967295)], [], [(some (0, 2147483648 - 2, 2147483648 - 2), [], [])])
theorem kv_Xrrmule1 : kd_runv kd_ty kd_x34 5 (kd_call kd_ty kd_xt (kd_ctl []) 600 1) [] 0 kv_XTrmule1 600 = true := by decide +kernel
theorem kv_Xhrmule1 {g : kc_G} (hg : kc_ok g) : kd_holdv g 2 kd_ty 34 [] 0 kv_XTrmule1 := kd_newv hg kd_xk34 rfl rfl rfl rfl (fun h0 => kd_call_r (d0 := 0) hg kd_xt_ok (kd_ctl_r [] (fun q hq => by cases hq)) 1) (kv_Xrrmule1 )
def kv_XTrmule2 : kd_Tc := ([(3, 259, 259), (0, 0, 4294967295), (0, 0, 2147483647), (0, 0, 4294967295)], [], [(some (0, 2147483648 - 2, 2147483648 - 2), [], [])])
theorem kv_Xrrmule2 : kd_runv kd_ty kd_x34 5 (kd_call kd_ty kd_xt (kd_ctl []) 600 1) [] 0 kv_XTrmule2 600 = true := by decide +kernel
theorem kv_Xhrmule2 {g : kc_G} (hg : kc_ok g) : kd_holdv g 2 kd_ty 34 [] 0 kv_XTrmule2 := kd_newv hg kd_xk34 rfl rfl rfl rfl (fun h0 => kd_call_r (d0 := 0) hg kd_xt_ok (kd_ctl_r [] (fun q hq => by cases hq)) 1) (kv_Xrrmule2 )
def kv_XTrmule3 : kd_Tc := ([(3, 259, 259), (0, 0, 4294967295), (0, 2147483748, 4294967295), (0, 0, 4294967295)], [], [(some (0, 2147483648 - 2, 2147483648 - 2), [], [])])
theorem kv_Xrrmule3 : kd_runv kd_ty kd_x34 5 (kd_call kd_ty kd_xt (kd_ctl []) 600 1) [] 0 kv_XTrmule3 600 = true := by decide +kernel
theorem kv_Xhrmule3 {g : kc_G} (hg : kc_ok g) : kd_holdv g 2 kd_ty 34 [] 0 kv_XTrmule3 := kd_newv hg kd_xk34 rfl rfl rfl rfl (fun h0 => kd_call_r (d0 := 0) hg kd_xt_ok (kd_ctl_r [] (fun q hq => by cases hq)) 1) (kv_Xrrmule3 )
def kv_XTrmule4 : kd_Tc := ([(3, 259, 259), (0, 0, 4294967295), (0, 0, 4294967295), (0, 0, 2147483647)], [], [(some (0, 2147483648 - 2, 2147483648 - 2), [], [])])
theorem kv_Xrrmule4 : kd_runv kd_ty kd_x34 5 (kd_call kd_ty kd_xt (kd_ctl []) 600 1) [] 0 kv_XTrmule4 600 = true := by decide +kernel
theorem kv_Xhrmule4 {g : kc_G} (hg : kc_ok g) : kd_holdv g 2 kd_ty 34 [] 0 kv_XTrmule4 := kd_newv hg kd_xk34 rfl rfl rfl rfl (fun h0 => kd_call_r (d0 := 0) hg kd_xt_ok (kd_ctl_r [] (fun q hq => by cases hq)) 1) (kv_Xrrmule4 )
def kv_XTrmule5 : kd_Tc := ([(3, 259, 259), (0, 0, 4294967295), (0, 0, 4294967295), (0, 2147483748, 4294967295)], [], [(some (0, 2147483648 - 2, 2147483648 - 2), [], [])])
theorem kv_Xrrmule5 : kd_runv kd_ty kd_x34 5 (kd_call kd_ty kd_xt (kd_ctl []) 600 1) [] 0 kv_XTrmule5 600 = true := by decide +kernel
theorem kv_Xhrmule5 {g : kc_G} (hg : kc_ok g) : kd_holdv g 2 kd_ty 34 [] 0 kv_XTrmule5 := kd_newv hg kd_xk34 rfl rfl rfl rfl (fun h0 => kd_call_r (d0 := 0) hg kd_xt_ok (kd_ctl_r [] (fun q hq => by cases hq)) 1) (kv_Xrrmule5 )
def kv_XTrloadA (x : Nat) : kd_Tc := ([(3, 259, 259), (0, 2147483649, 2147483747), (0, 2147483648, 2147483649), (0, 2147483648 + x+1, 2147483648 + x+1), (0, 2147483648, 2147483648 + x)], [(260, 0, (0, 2147483648 + x+1, 2147483653)), (260, 2, (1, 0, 2147483648))], [(some (1, 0, 2147483648), [(260, 2, (1, 0, 2147483649))], [(260, 260, 2, 2), (260, 260, 80, 149)])])
theorem kv_XrrloadA : ∀ x, x < 5 → kd_runv kd_ty kd_x43 6 (kd_call kd_ty kd_xt (kd_ctl []) 600 2) [(2147483648, 2147483657)] 1 (kv_XTrloadA x) 600 = true := by decide +kernel
theorem kv_XhrloadA {g : kc_G} (hg : kc_ok g) {x : Nat} (hx : x < 5) : kd_holdv g 3 kd_ty 43 [(2147483648, 2147483657)] 1 (kv_XTrloadA x) := kd_newv hg kd_xk43 rfl rfl rfl rfl (fun h0 => kd_call_r (d0 := 0) hg kd_xt_ok (kd_ctl_r [] (fun q hq => by cases hq)) 2) (kv_XrrloadA x hx)
def kv_XTrloadfA (x : Nat) : kd_Tc := ([(3, 259, 259), (0, 2147483649, 2147483747), (0, 2147483648, 2147483649), (0, 2147483648 + x+1, 2147483648 + x+1), (0, 2147483648, 2147483648 + x)], [(260, 0, (0, 2147483648 + x+1, 2147483653)), (260, 2, (0, 2147483658, 2147483658))], [(some (0, 2147483648 - 4, 2147483648 - 4), [], [])])
theorem kv_XrrloadfA : ∀ x, x < 5 → kd_runv kd_ty kd_x43 6 (kd_call kd_ty kd_xt (kd_ctl []) 600 2) [] 0 (kv_XTrloadfA x) 600 = true := by decide +kernel
theorem kv_XhrloadfA {g : kc_G} (hg : kc_ok g) {x : Nat} (hx : x < 5) : kd_holdv g 3 kd_ty 43 [] 0 (kv_XTrloadfA x) := kd_newv hg kd_xk43 rfl rfl rfl rfl (fun h0 => kd_call_r (d0 := 0) hg kd_xt_ok (kd_ctl_r [] (fun q hq => by cases hq)) 2) (kv_XrrloadfA x hx)
def kv_XTrloadB (x : Nat) : kd_Tc := ([(3, 259, 259), (0, 2147483649, 2147483747), (0, 2147483648, 2147483649), (0, 2147483648, 2147483648 + x), (0, 2147483648 + x+1, 2147483648 + x+1)], [(260, 0, (0, 2147483648 + x+1, 2147483653)), (260, 2, (1, 0, 2147483648))], [(some (1, 0, 2147483648), [(260, 2, (1, 0, 2147483649))], [(260, 260, 2, 2), (260, 260, 80, 149)])])
theorem kv_XrrloadB : ∀ x, x < 5 → kd_runv kd_ty kd_x43 6 (kd_call kd_ty kd_xt (kd_ctl []) 600 2) [(2147483648, 2147483657)] 1 (kv_XTrloadB x) 600 = true := by decide +kernel
theorem kv_XhrloadB {g : kc_G} (hg : kc_ok g) {x : Nat} (hx : x < 5) : kd_holdv g 3 kd_ty 43 [(2147483648, 2147483657)] 1 (kv_XTrloadB x) := kd_newv hg kd_xk43 rfl rfl rfl rfl (fun h0 => kd_call_r (d0 := 0) hg kd_xt_ok (kd_ctl_r [] (fun q hq => by cases hq)) 2) (kv_XrrloadB x hx)
def kv_XTrloadfB (x : Nat) : kd_Tc := ([(3, 259, 259), (0, 2147483649, 2147483747), (0, 2147483648, 2147483649), (0, 2147483648, 2147483648 + x), (0, 2147483648 + x+1, 2147483648 + x+1)], [(260, 0, (0, 2147483648 + x+1, 2147483653)), (260, 2, (0, 2147483658, 2147483658))], [(some (0, 2147483648 - 4, 2147483648 - 4), [], [])])
theorem kv_XrrloadfB : ∀ x, x < 5 → kd_runv kd_ty kd_x43 6 (kd_call kd_ty kd_xt (kd_ctl []) 600 2) [] 0 (kv_XTrloadfB x) 600 = true := by decide +kernel
theorem kv_XhrloadfB {g : kc_G} (hg : kc_ok g) {x : Nat} (hx : x < 5) : kd_holdv g 3 kd_ty 43 [] 0 (kv_XTrloadfB x) := kd_newv hg kd_xk43 rfl rfl rfl rfl (fun h0 => kd_call_r (d0 := 0) hg kd_xt_ok (kd_ctl_r [] (fun q hq => by cases hq)) 2) (kv_XrrloadfB x hx)
def kv_XTrload0 : kd_Tc := ([(3, 259, 259), (0, 0, 2147483648), (0, 0, 4294967295), (0, 0, 4294967295), (0, 0, 4294967295)], [], [(some (0, 2147483648 - 2, 2147483648 - 2), [], [])])
theorem kv_Xrrload0 : kd_runv kd_ty kd_x43 6 (kd_call kd_ty kd_xt (kd_ctl []) 600 1) [] 0 kv_XTrload0 600 = true := by decide +kernel
theorem kv_Xhrload0 {g : kc_G} (hg : kc_ok g) : kd_holdv g 2 kd_ty 43 [] 0 kv_XTrload0 := kd_newv hg kd_xk43 rfl rfl rfl rfl (fun h0 => kd_call_r (d0 := 0) hg kd_xt_ok (kd_ctl_r [] (fun q hq => by cases hq)) 1) (kv_Xrrload0 )
def kv_XTrload1 : kd_Tc := ([(3, 259, 259), (0, 2147483748, 4294967295), (0, 0, 4294967295), (0, 0, 4294967295), (0, 0, 4294967295)], [], [(some (0, 2147483648 - 2, 2147483648 - 2), [], [])])
theorem kv_Xrrload1 : kd_runv kd_ty kd_x43 6 (kd_call kd_ty kd_xt (kd_ctl []) 600 1) [] 0 kv_XTrload1 600 = true := by decide +kernel
theorem kv_Xhrload1 {g : kc_G} (hg : kc_ok g) : kd_holdv g 2 kd_ty 43 [] 0 kv_XTrload1 := kd_newv hg kd_xk43 rfl rfl rfl rfl (fun h0 => kd_call_r (d0 := 0) hg kd_xt_ok (kd_ctl_r [] (fun q hq => by cases hq)) 1) (kv_Xrrload1 )
def kv_XTrload2 : kd_Tc := ([(3, 259, 259), (0, 0, 4294967295), (0, 0, 2147483647), (0, 0, 4294967295), (0, 0, 4294967295)], [], [(some (0, 2147483648 - 2, 2147483648 - 2), [], [])])
theorem kv_Xrrload2 : kd_runv kd_ty kd_x43 6 (kd_call kd_ty kd_xt (kd_ctl []) 600 1) [] 0 kv_XTrload2 600 = true := by decide +kernel
theorem kv_Xhrload2 {g : kc_G} (hg : kc_ok g) : kd_holdv g 2 kd_ty 43 [] 0 kv_XTrload2 := kd_newv hg kd_xk43 rfl rfl rfl rfl (fun h0 => kd_call_r (d0 := 0) hg kd_xt_ok (kd_ctl_r [] (fun q hq => by cases hq)) 1) (kv_Xrrload2 )
def kv_XTrload3 : kd_Tc := ([(3, 259, 259), (0, 0, 4294967295), (0, 2147483650, 4294967295), (0, 0, 4294967295), (0, 0, 4294967295)], [], [(some (0, 2147483648 - 2, 2147483648 - 2), [], [])])
theorem kv_Xrrload3 : kd_runv kd_ty kd_x43 6 (kd_call kd_ty kd_xt (kd_ctl []) 600 1) [] 0 kv_XTrload3 600 = true := by decide +kernel
theorem kv_Xhrload3 {g : kc_G} (hg : kc_ok g) : kd_holdv g 2 kd_ty 43 [] 0 kv_XTrload3 := kd_newv hg kd_xk43 rfl rfl rfl rfl (fun h0 => kd_call_r (d0 := 0) hg kd_xt_ok (kd_ctl_r [] (fun q hq => by cases hq)) 1) (kv_Xrrload3 )
def kv_XTrload4 : kd_Tc := ([(3, 259, 259), (0, 0, 4294967295), (0, 0, 4294967295), (0, 0, 2147483647), (0, 0, 4294967295)], [], [(some (0, 2147483648 - 2, 2147483648 - 2), [], [])])
theorem kv_Xrrload4 : kd_runv kd_ty kd_x43 6 (kd_call kd_ty kd_xt (kd_ctl []) 600 2) [] 0 kv_XTrload4 600 = true := by decide +kernel
theorem kv_Xhrload4 {g : kc_G} (hg : kc_ok g) : kd_holdv g 3 kd_ty 43 [] 0 kv_XTrload4 := kd_newv hg kd_xk43 rfl rfl rfl rfl (fun h0 => kd_call_r (d0 := 0) hg kd_xt_ok (kd_ctl_r [] (fun q hq => by cases hq)) 2) (kv_Xrrload4 )
def kv_XTrload5 : kd_Tc := ([(3, 259, 259), (0, 0, 4294967295), (0, 0, 4294967295), (0, 2147483654, 4294967295), (0, 0, 4294967295)], [], [(some (0, 2147483648 - 2, 2147483648 - 2), [], [])])
theorem kv_Xrrload5 : kd_runv kd_ty kd_x43 6 (kd_call kd_ty kd_xt (kd_ctl []) 600 2) [] 0 kv_XTrload5 600 = true := by decide +kernel
theorem kv_Xhrload5 {g : kc_G} (hg : kc_ok g) : kd_holdv g 3 kd_ty 43 [] 0 kv_XTrload5 := kd_newv hg kd_xk43 rfl rfl rfl rfl (fun h0 => kd_call_r (d0 := 0) hg kd_xt_ok (kd_ctl_r [] (fun q hq => by cases hq)) 2) (kv_Xrrload5 )
def kv_XTrload6 : kd_Tc := ([(3, 259, 259), (0, 0, 4294967295), (0, 0, 4294967295), (0, 0, 4294967295), (0, 0, 2147483647)], [], [(some (0, 2147483648 - 2, 2147483648 - 2), [], [])])
theorem kv_Xrrload6 : kd_runv kd_ty kd_x43 6 (kd_call kd_ty kd_xt (kd_ctl []) 600 2) [] 0 kv_XTrload6 600 = true := by decide +kernel
theorem kv_Xhrload6 {g : kc_G} (hg : kc_ok g) : kd_holdv g 3 kd_ty 43 [] 0 kv_XTrload6 := kd_newv hg kd_xk43 rfl rfl rfl rfl (fun h0 => kd_call_r (d0 := 0) hg kd_xt_ok (kd_ctl_r [] (fun q hq => by cases hq)) 2) (kv_Xrrload6 )
def kv_XTrload7 : kd_Tc := ([(3, 259, 259), (0, 0, 4294967295), (0, 0, 4294967295), (0, 0, 4294967295), (0, 2147483654, 4294967295)], [], [(some (0, 2147483648 - 2, 2147483648 - 2), [], [])])
theorem kv_Xrrload7 : kd_runv kd_ty kd_x43 6 (kd_call kd_ty kd_xt (kd_ctl []) 600 2) [] 0 kv_XTrload7 600 = true := by decide +kernel
theorem kv_Xhrload7 {g : kc_G} (hg : kc_ok g) : kd_holdv g 3 kd_ty 43 [] 0 kv_XTrload7 := kd_newv hg kd_xk43 rfl rfl rfl rfl (fun h0 => kd_call_r (d0 := 0) hg kd_xt_ok (kd_ctl_r [] (fun q hq => by cases hq)) 2) (kv_Xrrload7 )
def kv_XTrloadp (x : Nat) : kd_Tc := ([(3, 259, 259), (0, 0, 4294967295), (0, 0, 4294967295), (0, 2147483648 + x+1, 2147483648 + x+1), (0, 0, 4294967295)], [(260, 0, (0, 2147483648, 2147483648 + x))], [(some (0, 2147483648 - 2, 2147483648 - 2), [], [])])
theorem kv_Xrrloadp : ∀ x, x < 5 → kd_runv kd_ty kd_x43 6 (kd_call kd_ty kd_xt (kd_ctl []) 600 2) [] 0 (kv_XTrloadp x) 600 = true := by decide +kernel
theorem kv_Xhrloadp {g : kc_G} (hg : kc_ok g) {x : Nat} (hx : x < 5) : kd_holdv g 3 kd_ty 43 [] 0 (kv_XTrloadp x) := kd_newv hg kd_xk43 rfl rfl rfl rfl (fun h0 => kd_call_r (d0 := 0) hg kd_xt_ok (kd_ctl_r [] (fun q hq => by cases hq)) 2) (kv_Xrrloadp x hx)
def kv_XTrloadq (x : Nat) : kd_Tc := ([(3, 259, 259), (0, 0, 4294967295), (0, 0, 4294967295), (0, 0, 4294967295), (0, 2147483648 + x+1, 2147483648 + x+1)], [(260, 0, (0, 2147483648, 2147483648 + x))], [(some (0, 2147483648 - 2, 2147483648 - 2), [], [])])
theorem kv_Xrrloadq : ∀ x, x < 5 → kd_runv kd_ty kd_x43 6 (kd_call kd_ty kd_xt (kd_ctl []) 600 2) [] 0 (kv_XTrloadq x) 600 = true := by decide +kernel
theorem kv_Xhrloadq {g : kc_G} (hg : kc_ok g) {x : Nat} (hx : x < 5) : kd_holdv g 3 kd_ty 43 [] 0 (kv_XTrloadq x) := kd_newv hg kd_xk43 rfl rfl rfl rfl (fun h0 => kd_call_r (d0 := 0) hg kd_xt_ok (kd_ctl_r [] (fun q hq => by cases hq)) 2) (kv_Xrrloadq x hx)
def kv_XTrloade (x : Nat) : kd_Tc := ([(3, 259, 259), (0, 0, 4294967295), (0, 0, 4294967295), (0, 2147483648 + x, 2147483648 + x), (0, 2147483648 + x, 2147483648 + x)], [], [(some (0, 2147483648 - 2, 2147483648 - 2), [], [])])
theorem kv_Xrrloade : ∀ x, x < 6 → kd_runv kd_ty kd_x43 6 (kd_call kd_ty kd_xt (kd_ctl []) 600 2) [] 0 (kv_XTrloade x) 600 = true := by decide +kernel
theorem kv_Xhrloade {g : kc_G} (hg : kc_ok g) {x : Nat} (hx : x < 6) : kd_holdv g 3 kd_ty 43 [] 0 (kv_XTrloade x) := kd_newv hg kd_xk43 rfl rfl rfl rfl (fun h0 => kd_call_r (d0 := 0) hg kd_xt_ok (kd_ctl_r [] (fun q hq => by cases hq)) 2) (kv_Xrrloade x hx)
theorem kv_Xtmule {g : kc_G} {h : kc_H} {D M L : Nat} {a b c : Int32} (hg : kc_ok g) (hw : kd_wt kd_ty h) (hC : kv_C h D M L) : kc_Con g 3 32 [.inr (.inr (.inl (some 0))), .inl a, .inl b, .inl c] h (fun rv h' => ∃ r : Int32, rv = some (.inl r) ∧ r.toInt = ku_am a b c M ∧ kd_wt kd_ty h' ∧ kd_fr [(1, 1, 1, 1), (12, 14, 0, 4)] h h' ∧ (((1 ≤ a.toInt ∧ a.toInt ≤ 999 ∧ 0 ≤ b.toInt ∧ b.toInt ≤ 99 ∧ 0 ≤ c.toInt ∧ c.toInt ≤ 99 ∧ M < 3) ∧ 0 ≤ r.toInt ∧ h' 1 1 = .inl (Int32.ofNat (M + 1))) ∨ (¬ (1 ≤ a.toInt ∧ a.toInt ≤ 999 ∧ 0 ≤ b.toInt ∧ b.toInt ≤ 99 ∧ 0 ≤ c.toInt ∧ c.toInt ≤ 99 ∧ M < 3) ∧ r.toInt < 0 ∧ h' = h))) := by
  obtain ⟨hD, hM, hL, eD, eM, eL⟩ := hC
  have tD : (Int32.ofNat D).toInt = D := kx_ti (by omega)
  have tM : (Int32.ofNat M).toInt = M := kx_ti (by omega)
  have tL : (Int32.ofNat L).toInt = L := kx_ti (by omega)
  have alo := kv_lo a
  have ahi := kv_hi a
  have blo := kv_lo b
  have bhi := kv_hi b
  have clo := kv_lo c
  have chi := kv_hi c
  rcases (show (1 ≤ a.toInt ∧ a.toInt ≤ 999 ∧ 0 ≤ b.toInt ∧ b.toInt ≤ 99 ∧ 0 ≤ c.toInt ∧ c.toInt ≤ 99 ∧ M < 3) ∨ (1 ≤ a.toInt ∧ a.toInt ≤ 999 ∧ 0 ≤ b.toInt ∧ b.toInt ≤ 99 ∧ 0 ≤ c.toInt ∧ c.toInt ≤ 99 ∧ M = 3) ∨ a.toInt < 1 ∨ 999 < a.toInt ∨ b.toInt < 0 ∨ 99 < b.toInt ∨ c.toInt < 0 ∨ 99 < c.toInt by omega) with k | k | k | k | k | k | k | k
  · refine kc_Con_mono (kc_Con_le ((kv_Xhtmule hg (fun _ => 2147483648 + M) _ h (kv_bx1 (by omega) (by omega)) hw ⟨⟨0, rfl, by decide, by decide⟩, kv_gi (by omega) (by omega), kv_gi (by omega) (by omega), kv_gi (by omega) (by omega), trivial⟩ (fun q hq => by
      rcases List.mem_cons.mp hq with rfl | hq
      · show kd_g _ _ _ (h 1 1)
        rw [eM]
        exact kv_gv (by omega)
      cases hq))) (by decide)) (fun rv h' hq => ?_)
    obtain ⟨p, p1, p2, hF, hw2, hfr⟩ := hq
    obtain rfl := List.mem_singleton.mp p1
    cases rv with
    | none => exact p2.elim
    | some y =>
    have ey := kv_p0 (by omega) p2
    subst ey
    have e1 := kv_po (by omega) (hF (1, 1, _) List.mem_cons_self)
    exact ⟨_, rfl, by unfold ku_am; rw [if_pos (by omega), if_pos (by omega), tM], hw2, hfr, Or.inl ⟨by omega, by rw [tM]; omega, e1⟩⟩
  · refine kc_Con_mono (kc_Con_le (kv_nox (k := 4) (by decide) (kv_Xhtmulef hg (fun _ => 0) _ h kv_bx0 hw ⟨⟨0, rfl, by decide, by decide⟩, kv_gi (by omega) (by omega), kv_gi (by omega) (by omega), kv_gi (by omega) (by omega), trivial⟩ (fun q hq => by
      rcases List.mem_cons.mp hq with rfl | hq
      · show kd_g _ _ _ (h 1 1)
        rw [eM]
        exact kv_gi (by omega) (by omega)
      cases hq))) (by decide)) (fun rv h' hq => ?_)
    obtain ⟨r, rfl, r0, rfl⟩ := hq
    exact ⟨r, rfl, by unfold ku_am; first | (rw [if_neg (by omega)]; exact r0) | (rw [if_pos (by omega), if_neg (by omega)]; exact r0), hw, fun c i _ => rfl, Or.inr ⟨by omega, by omega, rfl⟩⟩
  · refine kc_Con_mono (kc_Con_le (kv_nox (k := 2) (by decide) (kv_Xhtmule0 hg (fun _ => 0) _ h kv_bx0 hw ⟨⟨0, rfl, by decide, by decide⟩, kv_gi (by omega) (by omega), kv_gi (by omega) (by omega), kv_gi (by omega) (by omega), trivial⟩ (fun q hq => by cases hq))) (by decide)) (fun rv h' hq => ?_)
    obtain ⟨r, rfl, r0, rfl⟩ := hq
    exact ⟨r, rfl, by unfold ku_am; first | (rw [if_neg (by omega)]; exact r0) | (rw [if_pos (by omega), if_neg (by omega)]; exact r0), hw, fun c i _ => rfl, Or.inr ⟨by omega, by omega, rfl⟩⟩
  · refine kc_Con_mono (kc_Con_le (kv_nox (k := 2) (by decide) (kv_Xhtmule1 hg (fun _ => 0) _ h kv_bx0 hw ⟨⟨0, rfl, by decide, by decide⟩, kv_gi (by omega) (by omega), kv_gi (by omega) (by omega), kv_gi (by omega) (by omega), trivial⟩ (fun q hq => by cases hq))) (by decide)) (fun rv h' hq => ?_)
    obtain ⟨r, rfl, r0, rfl⟩ := hq
    exact ⟨r, rfl, by unfold ku_am; first | (rw [if_neg (by omega)]; exact r0) | (rw [if_pos (by omega), if_neg (by omega)]; exact r0), hw, fun c i _ => rfl, Or.inr ⟨by omega, by omega, rfl⟩⟩
  · refine kc_Con_mono (kc_Con_le (kv_nox (k := 2) (by decide) (kv_Xhtmule2 hg (fun _ => 0) _ h kv_bx0 hw ⟨⟨0, rfl, by decide, by decide⟩, kv_gi (by omega) (by omega), kv_gi (by omega) (by omega), kv_gi (by omega) (by omega), trivial⟩ (fun q hq => by cases hq))) (by decide)) (fun rv h' hq => ?_)
    obtain ⟨r, rfl, r0, rfl⟩ := hq
    exact ⟨r, rfl, by unfold ku_am; first | (rw [if_neg (by omega)]; exact r0) | (rw [if_pos (by omega), if_neg (by omega)]; exact r0), hw, fun c i _ => rfl, Or.inr ⟨by omega, by omega, rfl⟩⟩
  · refine kc_Con_mono (kc_Con_le (kv_nox (k := 2) (by decide) (kv_Xhtmule3 hg (fun _ => 0) _ h kv_bx0 hw ⟨⟨0, rfl, by decide, by decide⟩, kv_gi (by omega) (by omega), kv_gi (by omega) (by omega), kv_gi (by omega) (by omega), trivial⟩ (fun q hq => by cases hq))) (by decide)) (fun rv h' hq => ?_)
    obtain ⟨r, rfl, r0, rfl⟩ := hq
    exact ⟨r, rfl, by unfold ku_am; first | (rw [if_neg (by omega)]; exact r0) | (rw [if_pos (by omega), if_neg (by omega)]; exact r0), hw, fun c i _ => rfl, Or.inr ⟨by omega, by omega, rfl⟩⟩
  · refine kc_Con_mono (kc_Con_le (kv_nox (k := 2) (by decide) (kv_Xhtmule4 hg (fun _ => 0) _ h kv_bx0 hw ⟨⟨0, rfl, by decide, by decide⟩, kv_gi (by omega) (by omega), kv_gi (by omega) (by omega), kv_gi (by omega) (by omega), trivial⟩ (fun q hq => by cases hq))) (by decide)) (fun rv h' hq => ?_)
    obtain ⟨r, rfl, r0, rfl⟩ := hq
    exact ⟨r, rfl, by unfold ku_am; first | (rw [if_neg (by omega)]; exact r0) | (rw [if_pos (by omega), if_neg (by omega)]; exact r0), hw, fun c i _ => rfl, Or.inr ⟨by omega, by omega, rfl⟩⟩
  · refine kc_Con_mono (kc_Con_le (kv_nox (k := 2) (by decide) (kv_Xhtmule5 hg (fun _ => 0) _ h kv_bx0 hw ⟨⟨0, rfl, by decide, by decide⟩, kv_gi (by omega) (by omega), kv_gi (by omega) (by omega), kv_gi (by omega) (by omega), trivial⟩ (fun q hq => by cases hq))) (by decide)) (fun rv h' hq => ?_)
    obtain ⟨r, rfl, r0, rfl⟩ := hq
    exact ⟨r, rfl, by unfold ku_am; first | (rw [if_neg (by omega)]; exact r0) | (rw [if_pos (by omega), if_neg (by omega)]; exact r0), hw, fun c i _ => rfl, Or.inr ⟨by omega, by omega, rfl⟩⟩
theorem kv_Xtload {g : kc_G} {h : kc_H} {D M L : Nat} {a b c e : Int32} (hg : kc_ok g) (hw : kd_wt kd_ty h) (hC : kv_C h D M L) : kc_Con g 4 41 [.inr (.inr (.inl (some 0))), .inl a, .inl b, .inl c, .inl e] h (fun rv h' => ∃ r : Int32, rv = some (.inl r) ∧ r.toInt = ku_al a b c e D L ∧ kd_wt kd_ty h' ∧ kd_fr [(1, 1, 2, 2), (16, 25, 0, 6)] h h' ∧ (((1 ≤ a.toInt ∧ a.toInt ≤ 99 ∧ 0 ≤ b.toInt ∧ b.toInt ≤ 1 ∧ 0 ≤ c.toInt ∧ c.toInt ≤ D ∧ 0 ≤ e.toInt ∧ e.toInt ≤ D ∧ ¬ c.toInt = e.toInt ∧ L < 10) ∧ 0 ≤ r.toInt ∧ h' 1 2 = .inl (Int32.ofNat (L + 1))) ∨ (¬ (1 ≤ a.toInt ∧ a.toInt ≤ 99 ∧ 0 ≤ b.toInt ∧ b.toInt ≤ 1 ∧ 0 ≤ c.toInt ∧ c.toInt ≤ D ∧ 0 ≤ e.toInt ∧ e.toInt ≤ D ∧ ¬ c.toInt = e.toInt ∧ L < 10) ∧ r.toInt < 0 ∧ h' = h))) := by
  obtain ⟨hD, hM, hL, eD, eM, eL⟩ := hC
  have tD : (Int32.ofNat D).toInt = D := kx_ti (by omega)
  have tM : (Int32.ofNat M).toInt = M := kx_ti (by omega)
  have tL : (Int32.ofNat L).toInt = L := kx_ti (by omega)
  have alo := kv_lo a
  have ahi := kv_hi a
  have blo := kv_lo b
  have bhi := kv_hi b
  have clo := kv_lo c
  have chi := kv_hi c
  have elo := kv_lo e
  have ehi := kv_hi e
  rcases (show (1 ≤ a.toInt ∧ a.toInt ≤ 99 ∧ 0 ≤ b.toInt ∧ b.toInt ≤ 1 ∧ 0 ≤ c.toInt ∧ c.toInt ≤ D ∧ 0 ≤ e.toInt ∧ e.toInt ≤ D ∧ e.toInt < c.toInt ∧ L < 10) ∨ (1 ≤ a.toInt ∧ a.toInt ≤ 99 ∧ 0 ≤ b.toInt ∧ b.toInt ≤ 1 ∧ 0 ≤ c.toInt ∧ c.toInt ≤ D ∧ 0 ≤ e.toInt ∧ e.toInt ≤ D ∧ e.toInt < c.toInt ∧ L = 10) ∨ (1 ≤ a.toInt ∧ a.toInt ≤ 99 ∧ 0 ≤ b.toInt ∧ b.toInt ≤ 1 ∧ 0 ≤ c.toInt ∧ c.toInt ≤ D ∧ 0 ≤ e.toInt ∧ e.toInt ≤ D ∧ c.toInt < e.toInt ∧ L < 10) ∨ (1 ≤ a.toInt ∧ a.toInt ≤ 99 ∧ 0 ≤ b.toInt ∧ b.toInt ≤ 1 ∧ 0 ≤ c.toInt ∧ c.toInt ≤ D ∧ 0 ≤ e.toInt ∧ e.toInt ≤ D ∧ c.toInt < e.toInt ∧ L = 10) ∨ a.toInt < 1 ∨ 99 < a.toInt ∨ b.toInt < 0 ∨ 1 < b.toInt ∨ c.toInt < 0 ∨ 5 < c.toInt ∨ e.toInt < 0 ∨ 5 < e.toInt ∨ (D < c.toInt ∧ c.toInt ≤ 5) ∨ (D < e.toInt ∧ e.toInt ≤ 5) ∨ (0 ≤ c.toInt ∧ c.toInt ≤ 5 ∧ c.toInt = e.toInt) by omega) with k | k | k | k | k | k | k | k | k | k | k | k | k | k | k
  · refine kc_Con_mono (kc_Con_le ((kv_XhtloadA (x := (c.toInt - 1).toNat) hg (by omega) (fun _ => 2147483648 + L) _ h (kv_bx1 (by omega) (by omega)) hw ⟨⟨0, rfl, by decide, by decide⟩, kv_gi (by omega) (by omega), kv_gi (by omega) (by omega), kv_gi (by omega) (by omega), kv_gi (by omega) (by omega), trivial⟩ (fun q hq => by
      rcases List.mem_cons.mp hq with rfl | hq
      · show kd_g _ _ _ (h 1 0)
        rw [eD]
        exact kv_gi (by omega) (by omega)
      rcases List.mem_cons.mp hq with rfl | hq
      · show kd_g _ _ _ (h 1 2)
        rw [eL]
        exact kv_gv (by omega)
      cases hq))) (by decide)) (fun rv h' hq => ?_)
    obtain ⟨p, p1, p2, hF, hw2, hfr⟩ := hq
    obtain rfl := List.mem_singleton.mp p1
    cases rv with
    | none => exact p2.elim
    | some y =>
    have ey := kv_p0 (by omega) p2
    subst ey
    have e1 := kv_po (by omega) (hF (1, 2, _) List.mem_cons_self)
    exact ⟨_, rfl, by unfold ku_al; rw [if_pos (by omega), if_pos (by omega), tL], hw2, hfr, Or.inl ⟨by omega, by rw [tL]; omega, e1⟩⟩
  · refine kc_Con_mono (kc_Con_le (kv_nox (k := 4) (by decide) (kv_XhtloadfA (x := (c.toInt - 1).toNat) hg (by omega) (fun _ => 0) _ h kv_bx0 hw ⟨⟨0, rfl, by decide, by decide⟩, kv_gi (by omega) (by omega), kv_gi (by omega) (by omega), kv_gi (by omega) (by omega), kv_gi (by omega) (by omega), trivial⟩ (fun q hq => by
      rcases List.mem_cons.mp hq with rfl | hq
      · show kd_g _ _ _ (h 1 0)
        rw [eD]
        exact kv_gi (by omega) (by omega)
      rcases List.mem_cons.mp hq with rfl | hq
      · show kd_g _ _ _ (h 1 2)
        rw [eL]
        exact kv_gi (by omega) (by omega)
      cases hq))) (by decide)) (fun rv h' hq => ?_)
    obtain ⟨r, rfl, r0, rfl⟩ := hq
    exact ⟨r, rfl, by unfold ku_al; first | (rw [if_neg (by omega)]; exact r0) | (rw [if_pos (by omega), if_neg (by omega)]; exact r0), hw, fun c i _ => rfl, Or.inr ⟨by omega, by omega, rfl⟩⟩
  · refine kc_Con_mono (kc_Con_le ((kv_XhtloadB (x := (e.toInt - 1).toNat) hg (by omega) (fun _ => 2147483648 + L) _ h (kv_bx1 (by omega) (by omega)) hw ⟨⟨0, rfl, by decide, by decide⟩, kv_gi (by omega) (by omega), kv_gi (by omega) (by omega), kv_gi (by omega) (by omega), kv_gi (by omega) (by omega), trivial⟩ (fun q hq => by
      rcases List.mem_cons.mp hq with rfl | hq
      · show kd_g _ _ _ (h 1 0)
        rw [eD]
        exact kv_gi (by omega) (by omega)
      rcases List.mem_cons.mp hq with rfl | hq
      · show kd_g _ _ _ (h 1 2)
        rw [eL]
        exact kv_gv (by omega)
      cases hq))) (by decide)) (fun rv h' hq => ?_)
    obtain ⟨p, p1, p2, hF, hw2, hfr⟩ := hq
    obtain rfl := List.mem_singleton.mp p1
    cases rv with
    | none => exact p2.elim
    | some y =>
    have ey := kv_p0 (by omega) p2
    subst ey
    have e1 := kv_po (by omega) (hF (1, 2, _) List.mem_cons_self)
    exact ⟨_, rfl, by unfold ku_al; rw [if_pos (by omega), if_pos (by omega), tL], hw2, hfr, Or.inl ⟨by omega, by rw [tL]; omega, e1⟩⟩
  · refine kc_Con_mono (kc_Con_le (kv_nox (k := 4) (by decide) (kv_XhtloadfB (x := (e.toInt - 1).toNat) hg (by omega) (fun _ => 0) _ h kv_bx0 hw ⟨⟨0, rfl, by decide, by decide⟩, kv_gi (by omega) (by omega), kv_gi (by omega) (by omega), kv_gi (by omega) (by omega), kv_gi (by omega) (by omega), trivial⟩ (fun q hq => by
      rcases List.mem_cons.mp hq with rfl | hq
      · show kd_g _ _ _ (h 1 0)
        rw [eD]
        exact kv_gi (by omega) (by omega)
      rcases List.mem_cons.mp hq with rfl | hq
      · show kd_g _ _ _ (h 1 2)
        rw [eL]
        exact kv_gi (by omega) (by omega)
      cases hq))) (by decide)) (fun rv h' hq => ?_)
    obtain ⟨r, rfl, r0, rfl⟩ := hq
    exact ⟨r, rfl, by unfold ku_al; first | (rw [if_neg (by omega)]; exact r0) | (rw [if_pos (by omega), if_neg (by omega)]; exact r0), hw, fun c i _ => rfl, Or.inr ⟨by omega, by omega, rfl⟩⟩
  · refine kc_Con_mono (kc_Con_le (kv_nox (k := 2) (by decide) (kv_Xhtload0 hg (fun _ => 0) _ h kv_bx0 hw ⟨⟨0, rfl, by decide, by decide⟩, kv_gi (by omega) (by omega), kv_gi (by omega) (by omega), kv_gi (by omega) (by omega), kv_gi (by omega) (by omega), trivial⟩ (fun q hq => by cases hq))) (by decide)) (fun rv h' hq => ?_)
    obtain ⟨r, rfl, r0, rfl⟩ := hq
    exact ⟨r, rfl, by unfold ku_al; first | (rw [if_neg (by omega)]; exact r0) | (rw [if_pos (by omega), if_neg (by omega)]; exact r0), hw, fun c i _ => rfl, Or.inr ⟨by omega, by omega, rfl⟩⟩
  · refine kc_Con_mono (kc_Con_le (kv_nox (k := 2) (by decide) (kv_Xhtload1 hg (fun _ => 0) _ h kv_bx0 hw ⟨⟨0, rfl, by decide, by decide⟩, kv_gi (by omega) (by omega), kv_gi (by omega) (by omega), kv_gi (by omega) (by omega), kv_gi (by omega) (by omega), trivial⟩ (fun q hq => by cases hq))) (by decide)) (fun rv h' hq => ?_)
    obtain ⟨r, rfl, r0, rfl⟩ := hq
    exact ⟨r, rfl, by unfold ku_al; first | (rw [if_neg (by omega)]; exact r0) | (rw [if_pos (by omega), if_neg (by omega)]; exact r0), hw, fun c i _ => rfl, Or.inr ⟨by omega, by omega, rfl⟩⟩
  · refine kc_Con_mono (kc_Con_le (kv_nox (k := 2) (by decide) (kv_Xhtload2 hg (fun _ => 0) _ h kv_bx0 hw ⟨⟨0, rfl, by decide, by decide⟩, kv_gi (by omega) (by omega), kv_gi (by omega) (by omega), kv_gi (by omega) (by omega), kv_gi (by omega) (by omega), trivial⟩ (fun q hq => by cases hq))) (by decide)) (fun rv h' hq => ?_)
    obtain ⟨r, rfl, r0, rfl⟩ := hq
    exact ⟨r, rfl, by unfold ku_al; first | (rw [if_neg (by omega)]; exact r0) | (rw [if_pos (by omega), if_neg (by omega)]; exact r0), hw, fun c i _ => rfl, Or.inr ⟨by omega, by omega, rfl⟩⟩
  · refine kc_Con_mono (kc_Con_le (kv_nox (k := 2) (by decide) (kv_Xhtload3 hg (fun _ => 0) _ h kv_bx0 hw ⟨⟨0, rfl, by decide, by decide⟩, kv_gi (by omega) (by omega), kv_gi (by omega) (by omega), kv_gi (by omega) (by omega), kv_gi (by omega) (by omega), trivial⟩ (fun q hq => by cases hq))) (by decide)) (fun rv h' hq => ?_)
    obtain ⟨r, rfl, r0, rfl⟩ := hq
    exact ⟨r, rfl, by unfold ku_al; first | (rw [if_neg (by omega)]; exact r0) | (rw [if_pos (by omega), if_neg (by omega)]; exact r0), hw, fun c i _ => rfl, Or.inr ⟨by omega, by omega, rfl⟩⟩
  · refine kc_Con_mono (kc_Con_le (kv_nox (k := 2) (by decide) (kv_Xhtload4 hg (fun _ => 0) _ h kv_bx0 hw ⟨⟨0, rfl, by decide, by decide⟩, kv_gi (by omega) (by omega), kv_gi (by omega) (by omega), kv_gi (by omega) (by omega), kv_gi (by omega) (by omega), trivial⟩ (fun q hq => by cases hq))) (by decide)) (fun rv h' hq => ?_)
    obtain ⟨r, rfl, r0, rfl⟩ := hq
    exact ⟨r, rfl, by unfold ku_al; first | (rw [if_neg (by omega)]; exact r0) | (rw [if_pos (by omega), if_neg (by omega)]; exact r0), hw, fun c i _ => rfl, Or.inr ⟨by omega, by omega, rfl⟩⟩
  · refine kc_Con_mono (kc_Con_le (kv_nox (k := 2) (by decide) (kv_Xhtload5 hg (fun _ => 0) _ h kv_bx0 hw ⟨⟨0, rfl, by decide, by decide⟩, kv_gi (by omega) (by omega), kv_gi (by omega) (by omega), kv_gi (by omega) (by omega), kv_gi (by omega) (by omega), trivial⟩ (fun q hq => by cases hq))) (by decide)) (fun rv h' hq => ?_)
    obtain ⟨r, rfl, r0, rfl⟩ := hq
    exact ⟨r, rfl, by unfold ku_al; first | (rw [if_neg (by omega)]; exact r0) | (rw [if_pos (by omega), if_neg (by omega)]; exact r0), hw, fun c i _ => rfl, Or.inr ⟨by omega, by omega, rfl⟩⟩
  · refine kc_Con_mono (kc_Con_le (kv_nox (k := 2) (by decide) (kv_Xhtload6 hg (fun _ => 0) _ h kv_bx0 hw ⟨⟨0, rfl, by decide, by decide⟩, kv_gi (by omega) (by omega), kv_gi (by omega) (by omega), kv_gi (by omega) (by omega), kv_gi (by omega) (by omega), trivial⟩ (fun q hq => by cases hq))) (by decide)) (fun rv h' hq => ?_)
    obtain ⟨r, rfl, r0, rfl⟩ := hq
    exact ⟨r, rfl, by unfold ku_al; first | (rw [if_neg (by omega)]; exact r0) | (rw [if_pos (by omega), if_neg (by omega)]; exact r0), hw, fun c i _ => rfl, Or.inr ⟨by omega, by omega, rfl⟩⟩
  · refine kc_Con_mono (kc_Con_le (kv_nox (k := 2) (by decide) (kv_Xhtload7 hg (fun _ => 0) _ h kv_bx0 hw ⟨⟨0, rfl, by decide, by decide⟩, kv_gi (by omega) (by omega), kv_gi (by omega) (by omega), kv_gi (by omega) (by omega), kv_gi (by omega) (by omega), trivial⟩ (fun q hq => by cases hq))) (by decide)) (fun rv h' hq => ?_)
    obtain ⟨r, rfl, r0, rfl⟩ := hq
    exact ⟨r, rfl, by unfold ku_al; first | (rw [if_neg (by omega)]; exact r0) | (rw [if_pos (by omega), if_neg (by omega)]; exact r0), hw, fun c i _ => rfl, Or.inr ⟨by omega, by omega, rfl⟩⟩
  · refine kc_Con_mono (kc_Con_le (kv_nox (k := 2) (by decide) (kv_Xhtloadp (x := (c.toInt - 1).toNat) hg (by omega) (fun _ => 0) _ h kv_bx0 hw ⟨⟨0, rfl, by decide, by decide⟩, kv_gi (by omega) (by omega), kv_gi (by omega) (by omega), kv_gi (by omega) (by omega), kv_gi (by omega) (by omega), trivial⟩ (fun q hq => by
      rcases List.mem_cons.mp hq with rfl | hq
      · show kd_g _ _ _ (h 1 0)
        rw [eD]
        exact kv_gi (by omega) (by omega)
      cases hq))) (by decide)) (fun rv h' hq => ?_)
    obtain ⟨r, rfl, r0, rfl⟩ := hq
    exact ⟨r, rfl, by unfold ku_al; first | (rw [if_neg (by omega)]; exact r0) | (rw [if_pos (by omega), if_neg (by omega)]; exact r0), hw, fun c i _ => rfl, Or.inr ⟨by omega, by omega, rfl⟩⟩
  · refine kc_Con_mono (kc_Con_le (kv_nox (k := 2) (by decide) (kv_Xhtloadq (x := (e.toInt - 1).toNat) hg (by omega) (fun _ => 0) _ h kv_bx0 hw ⟨⟨0, rfl, by decide, by decide⟩, kv_gi (by omega) (by omega), kv_gi (by omega) (by omega), kv_gi (by omega) (by omega), kv_gi (by omega) (by omega), trivial⟩ (fun q hq => by
      rcases List.mem_cons.mp hq with rfl | hq
      · show kd_g _ _ _ (h 1 0)
        rw [eD]
        exact kv_gi (by omega) (by omega)
      cases hq))) (by decide)) (fun rv h' hq => ?_)
    obtain ⟨r, rfl, r0, rfl⟩ := hq
    exact ⟨r, rfl, by unfold ku_al; first | (rw [if_neg (by omega)]; exact r0) | (rw [if_pos (by omega), if_neg (by omega)]; exact r0), hw, fun c i _ => rfl, Or.inr ⟨by omega, by omega, rfl⟩⟩
  · refine kc_Con_mono (kc_Con_le (kv_nox (k := 2) (by decide) (kv_Xhtloade (x := c.toInt.toNat) hg (by omega) (fun _ => 0) _ h kv_bx0 hw ⟨⟨0, rfl, by decide, by decide⟩, kv_gi (by omega) (by omega), kv_gi (by omega) (by omega), kv_gi (by omega) (by omega), kv_gi (by omega) (by omega), trivial⟩ (fun q hq => by cases hq))) (by decide)) (fun rv h' hq => ?_)
    obtain ⟨r, rfl, r0, rfl⟩ := hq
    exact ⟨r, rfl, by unfold ku_al; first | (rw [if_neg (by omega)]; exact r0) | (rw [if_pos (by omega), if_neg (by omega)]; exact r0), hw, fun c i _ => rfl, Or.inr ⟨by omega, by omega, rfl⟩⟩
theorem kv_Xrmule {g : kc_G} {h : kc_H} {D M L : Nat} {a b c : Int32} (hg : kc_ok g) (hw : kd_wt kd_ty h) (hC : kv_R h D M L) : kc_Con g 2 34 [.inr (.inr (.inl (some 259))), .inl a, .inl b, .inl c] h (fun rv h' => ∃ r : Int32, rv = some (.inl r) ∧ r.toInt = ku_am a b c M ∧ kd_wt kd_ty h' ∧ kd_fr [(260, 260, 1, 1), (260, 260, 60, 74)] h h' ∧ (((1 ≤ a.toInt ∧ a.toInt ≤ 999 ∧ 0 ≤ b.toInt ∧ b.toInt ≤ 99 ∧ 0 ≤ c.toInt ∧ c.toInt ≤ 99 ∧ M < 3) ∧ 0 ≤ r.toInt ∧ h' 260 1 = .inl (Int32.ofNat (M + 1))) ∨ (¬ (1 ≤ a.toInt ∧ a.toInt ≤ 999 ∧ 0 ≤ b.toInt ∧ b.toInt ≤ 99 ∧ 0 ≤ c.toInt ∧ c.toInt ≤ 99 ∧ M < 3) ∧ r.toInt < 0 ∧ h' = h))) := by
  obtain ⟨hD, hM, hL, eD, eM, eL⟩ := hC
  have tD : (Int32.ofNat D).toInt = D := kx_ti (by omega)
  have tM : (Int32.ofNat M).toInt = M := kx_ti (by omega)
  have tL : (Int32.ofNat L).toInt = L := kx_ti (by omega)
  have alo := kv_lo a
  have ahi := kv_hi a
  have blo := kv_lo b
  have bhi := kv_hi b
  have clo := kv_lo c
  have chi := kv_hi c
  rcases (show (1 ≤ a.toInt ∧ a.toInt ≤ 999 ∧ 0 ≤ b.toInt ∧ b.toInt ≤ 99 ∧ 0 ≤ c.toInt ∧ c.toInt ≤ 99 ∧ M < 3) ∨ (1 ≤ a.toInt ∧ a.toInt ≤ 999 ∧ 0 ≤ b.toInt ∧ b.toInt ≤ 99 ∧ 0 ≤ c.toInt ∧ c.toInt ≤ 99 ∧ M = 3) ∨ a.toInt < 1 ∨ 999 < a.toInt ∨ b.toInt < 0 ∨ 99 < b.toInt ∨ c.toInt < 0 ∨ 99 < c.toInt by omega) with k | k | k | k | k | k | k | k
  · refine kc_Con_mono (kc_Con_le ((kv_Xhrmule hg (fun _ => 2147483648 + M) _ h (kv_bx1 (by omega) (by omega)) hw ⟨⟨259, rfl, by decide, by decide⟩, kv_gi (by omega) (by omega), kv_gi (by omega) (by omega), kv_gi (by omega) (by omega), trivial⟩ (fun q hq => by
      rcases List.mem_cons.mp hq with rfl | hq
      · show kd_g _ _ _ (h 260 1)
        rw [eM]
        exact kv_gv (by omega)
      cases hq))) (by decide)) (fun rv h' hq => ?_)
    obtain ⟨p, p1, p2, hF, hw2, hfr⟩ := hq
    obtain rfl := List.mem_singleton.mp p1
    cases rv with
    | none => exact p2.elim
    | some y =>
    have ey := kv_p0 (by omega) p2
    subst ey
    have e1 := kv_po (by omega) (hF (260, 1, _) List.mem_cons_self)
    exact ⟨_, rfl, by unfold ku_am; rw [if_pos (by omega), if_pos (by omega), tM], hw2, hfr, Or.inl ⟨by omega, by rw [tM]; omega, e1⟩⟩
  · refine kc_Con_mono (kc_Con_le (kv_nox (k := 4) (by decide) (kv_Xhrmulef hg (fun _ => 0) _ h kv_bx0 hw ⟨⟨259, rfl, by decide, by decide⟩, kv_gi (by omega) (by omega), kv_gi (by omega) (by omega), kv_gi (by omega) (by omega), trivial⟩ (fun q hq => by
      rcases List.mem_cons.mp hq with rfl | hq
      · show kd_g _ _ _ (h 260 1)
        rw [eM]
        exact kv_gi (by omega) (by omega)
      cases hq))) (by decide)) (fun rv h' hq => ?_)
    obtain ⟨r, rfl, r0, rfl⟩ := hq
    exact ⟨r, rfl, by unfold ku_am; first | (rw [if_neg (by omega)]; exact r0) | (rw [if_pos (by omega), if_neg (by omega)]; exact r0), hw, fun c i _ => rfl, Or.inr ⟨by omega, by omega, rfl⟩⟩
  · refine kc_Con_mono (kc_Con_le (kv_nox (k := 2) (by decide) (kv_Xhrmule0 hg (fun _ => 0) _ h kv_bx0 hw ⟨⟨259, rfl, by decide, by decide⟩, kv_gi (by omega) (by omega), kv_gi (by omega) (by omega), kv_gi (by omega) (by omega), trivial⟩ (fun q hq => by cases hq))) (by decide)) (fun rv h' hq => ?_)
    obtain ⟨r, rfl, r0, rfl⟩ := hq
    exact ⟨r, rfl, by unfold ku_am; first | (rw [if_neg (by omega)]; exact r0) | (rw [if_pos (by omega), if_neg (by omega)]; exact r0), hw, fun c i _ => rfl, Or.inr ⟨by omega, by omega, rfl⟩⟩
  · refine kc_Con_mono (kc_Con_le (kv_nox (k := 2) (by decide) (kv_Xhrmule1 hg (fun _ => 0) _ h kv_bx0 hw ⟨⟨259, rfl, by decide, by decide⟩, kv_gi (by omega) (by omega), kv_gi (by omega) (by omega), kv_gi (by omega) (by omega), trivial⟩ (fun q hq => by cases hq))) (by decide)) (fun rv h' hq => ?_)
    obtain ⟨r, rfl, r0, rfl⟩ := hq
    exact ⟨r, rfl, by unfold ku_am; first | (rw [if_neg (by omega)]; exact r0) | (rw [if_pos (by omega), if_neg (by omega)]; exact r0), hw, fun c i _ => rfl, Or.inr ⟨by omega, by omega, rfl⟩⟩
  · refine kc_Con_mono (kc_Con_le (kv_nox (k := 2) (by decide) (kv_Xhrmule2 hg (fun _ => 0) _ h kv_bx0 hw ⟨⟨259, rfl, by decide, by decide⟩, kv_gi (by omega) (by omega), kv_gi (by omega) (by omega), kv_gi (by omega) (by omega), trivial⟩ (fun q hq => by cases hq))) (by decide)) (fun rv h' hq => ?_)
    obtain ⟨r, rfl, r0, rfl⟩ := hq
    exact ⟨r, rfl, by unfold ku_am; first | (rw [if_neg (by omega)]; exact r0) | (rw [if_pos (by omega), if_neg (by omega)]; exact r0), hw, fun c i _ => rfl, Or.inr ⟨by omega, by omega, rfl⟩⟩
  · refine kc_Con_mono (kc_Con_le (kv_nox (k := 2) (by decide) (kv_Xhrmule3 hg (fun _ => 0) _ h kv_bx0 hw ⟨⟨259, rfl, by decide, by decide⟩, kv_gi (by omega) (by omega), kv_gi (by omega) (by omega), kv_gi (by omega) (by omega), trivial⟩ (fun q hq => by cases hq))) (by decide)) (fun rv h' hq => ?_)
    obtain ⟨r, rfl, r0, rfl⟩ := hq
    exact ⟨r, rfl, by unfold ku_am; first | (rw [if_neg (by omega)]; exact r0) | (rw [if_pos (by omega), if_neg (by omega)]; exact r0), hw, fun c i _ => rfl, Or.inr ⟨by omega, by omega, rfl⟩⟩
  · refine kc_Con_mono (kc_Con_le (kv_nox (k := 2) (by decide) (kv_Xhrmule4 hg (fun _ => 0) _ h kv_bx0 hw ⟨⟨259, rfl, by decide, by decide⟩, kv_gi (by omega) (by omega), kv_gi (by omega) (by omega), kv_gi (by omega) (by omega), trivial⟩ (fun q hq => by cases hq))) (by decide)) (fun rv h' hq => ?_)
    obtain ⟨r, rfl, r0, rfl⟩ := hq
    exact ⟨r, rfl, by unfold ku_am; first | (rw [if_neg (by omega)]; exact r0) | (rw [if_pos (by omega), if_neg (by omega)]; exact r0), hw, fun c i _ => rfl, Or.inr ⟨by omega, by omega, rfl⟩⟩
  · refine kc_Con_mono (kc_Con_le (kv_nox (k := 2) (by decide) (kv_Xhrmule5 hg (fun _ => 0) _ h kv_bx0 hw ⟨⟨259, rfl, by decide, by decide⟩, kv_gi (by omega) (by omega), kv_gi (by omega) (by omega), kv_gi (by omega) (by omega), trivial⟩ (fun q hq => by cases hq))) (by decide)) (fun rv h' hq => ?_)
    obtain ⟨r, rfl, r0, rfl⟩ := hq
    exact ⟨r, rfl, by unfold ku_am; first | (rw [if_neg (by omega)]; exact r0) | (rw [if_pos (by omega), if_neg (by omega)]; exact r0), hw, fun c i _ => rfl, Or.inr ⟨by omega, by omega, rfl⟩⟩
theorem kv_Xrload {g : kc_G} {h : kc_H} {D M L : Nat} {a b c e : Int32} (hg : kc_ok g) (hw : kd_wt kd_ty h) (hC : kv_R h D M L) : kc_Con g 3 43 [.inr (.inr (.inl (some 259))), .inl a, .inl b, .inl c, .inl e] h (fun rv h' => ∃ r : Int32, rv = some (.inl r) ∧ r.toInt = ku_al a b c e D L ∧ kd_wt kd_ty h' ∧ kd_fr [(260, 260, 2, 2), (260, 260, 80, 149)] h h' ∧ (((1 ≤ a.toInt ∧ a.toInt ≤ 99 ∧ 0 ≤ b.toInt ∧ b.toInt ≤ 1 ∧ 0 ≤ c.toInt ∧ c.toInt ≤ D ∧ 0 ≤ e.toInt ∧ e.toInt ≤ D ∧ ¬ c.toInt = e.toInt ∧ L < 10) ∧ 0 ≤ r.toInt ∧ h' 260 2 = .inl (Int32.ofNat (L + 1))) ∨ (¬ (1 ≤ a.toInt ∧ a.toInt ≤ 99 ∧ 0 ≤ b.toInt ∧ b.toInt ≤ 1 ∧ 0 ≤ c.toInt ∧ c.toInt ≤ D ∧ 0 ≤ e.toInt ∧ e.toInt ≤ D ∧ ¬ c.toInt = e.toInt ∧ L < 10) ∧ r.toInt < 0 ∧ h' = h))) := by
  obtain ⟨hD, hM, hL, eD, eM, eL⟩ := hC
  have tD : (Int32.ofNat D).toInt = D := kx_ti (by omega)
  have tM : (Int32.ofNat M).toInt = M := kx_ti (by omega)
  have tL : (Int32.ofNat L).toInt = L := kx_ti (by omega)
  have alo := kv_lo a
  have ahi := kv_hi a
  have blo := kv_lo b
  have bhi := kv_hi b
  have clo := kv_lo c
  have chi := kv_hi c
  have elo := kv_lo e
  have ehi := kv_hi e
  rcases (show (1 ≤ a.toInt ∧ a.toInt ≤ 99 ∧ 0 ≤ b.toInt ∧ b.toInt ≤ 1 ∧ 0 ≤ c.toInt ∧ c.toInt ≤ D ∧ 0 ≤ e.toInt ∧ e.toInt ≤ D ∧ e.toInt < c.toInt ∧ L < 10) ∨ (1 ≤ a.toInt ∧ a.toInt ≤ 99 ∧ 0 ≤ b.toInt ∧ b.toInt ≤ 1 ∧ 0 ≤ c.toInt ∧ c.toInt ≤ D ∧ 0 ≤ e.toInt ∧ e.toInt ≤ D ∧ e.toInt < c.toInt ∧ L = 10) ∨ (1 ≤ a.toInt ∧ a.toInt ≤ 99 ∧ 0 ≤ b.toInt ∧ b.toInt ≤ 1 ∧ 0 ≤ c.toInt ∧ c.toInt ≤ D ∧ 0 ≤ e.toInt ∧ e.toInt ≤ D ∧ c.toInt < e.toInt ∧ L < 10) ∨ (1 ≤ a.toInt ∧ a.toInt ≤ 99 ∧ 0 ≤ b.toInt ∧ b.toInt ≤ 1 ∧ 0 ≤ c.toInt ∧ c.toInt ≤ D ∧ 0 ≤ e.toInt ∧ e.toInt ≤ D ∧ c.toInt < e.toInt ∧ L = 10) ∨ a.toInt < 1 ∨ 99 < a.toInt ∨ b.toInt < 0 ∨ 1 < b.toInt ∨ c.toInt < 0 ∨ 5 < c.toInt ∨ e.toInt < 0 ∨ 5 < e.toInt ∨ (D < c.toInt ∧ c.toInt ≤ 5) ∨ (D < e.toInt ∧ e.toInt ≤ 5) ∨ (0 ≤ c.toInt ∧ c.toInt ≤ 5 ∧ c.toInt = e.toInt) by omega) with k | k | k | k | k | k | k | k | k | k | k | k | k | k | k
  · refine kc_Con_mono (kc_Con_le ((kv_XhrloadA (x := (c.toInt - 1).toNat) hg (by omega) (fun _ => 2147483648 + L) _ h (kv_bx1 (by omega) (by omega)) hw ⟨⟨259, rfl, by decide, by decide⟩, kv_gi (by omega) (by omega), kv_gi (by omega) (by omega), kv_gi (by omega) (by omega), kv_gi (by omega) (by omega), trivial⟩ (fun q hq => by
      rcases List.mem_cons.mp hq with rfl | hq
      · show kd_g _ _ _ (h 260 0)
        rw [eD]
        exact kv_gi (by omega) (by omega)
      rcases List.mem_cons.mp hq with rfl | hq
      · show kd_g _ _ _ (h 260 2)
        rw [eL]
        exact kv_gv (by omega)
      cases hq))) (by decide)) (fun rv h' hq => ?_)
    obtain ⟨p, p1, p2, hF, hw2, hfr⟩ := hq
    obtain rfl := List.mem_singleton.mp p1
    cases rv with
    | none => exact p2.elim
    | some y =>
    have ey := kv_p0 (by omega) p2
    subst ey
    have e1 := kv_po (by omega) (hF (260, 2, _) List.mem_cons_self)
    exact ⟨_, rfl, by unfold ku_al; rw [if_pos (by omega), if_pos (by omega), tL], hw2, hfr, Or.inl ⟨by omega, by rw [tL]; omega, e1⟩⟩
  · refine kc_Con_mono (kc_Con_le (kv_nox (k := 4) (by decide) (kv_XhrloadfA (x := (c.toInt - 1).toNat) hg (by omega) (fun _ => 0) _ h kv_bx0 hw ⟨⟨259, rfl, by decide, by decide⟩, kv_gi (by omega) (by omega), kv_gi (by omega) (by omega), kv_gi (by omega) (by omega), kv_gi (by omega) (by omega), trivial⟩ (fun q hq => by
      rcases List.mem_cons.mp hq with rfl | hq
      · show kd_g _ _ _ (h 260 0)
        rw [eD]
        exact kv_gi (by omega) (by omega)
      rcases List.mem_cons.mp hq with rfl | hq
      · show kd_g _ _ _ (h 260 2)
        rw [eL]
        exact kv_gi (by omega) (by omega)
      cases hq))) (by decide)) (fun rv h' hq => ?_)
    obtain ⟨r, rfl, r0, rfl⟩ := hq
    exact ⟨r, rfl, by unfold ku_al; first | (rw [if_neg (by omega)]; exact r0) | (rw [if_pos (by omega), if_neg (by omega)]; exact r0), hw, fun c i _ => rfl, Or.inr ⟨by omega, by omega, rfl⟩⟩
  · refine kc_Con_mono (kc_Con_le ((kv_XhrloadB (x := (e.toInt - 1).toNat) hg (by omega) (fun _ => 2147483648 + L) _ h (kv_bx1 (by omega) (by omega)) hw ⟨⟨259, rfl, by decide, by decide⟩, kv_gi (by omega) (by omega), kv_gi (by omega) (by omega), kv_gi (by omega) (by omega), kv_gi (by omega) (by omega), trivial⟩ (fun q hq => by
      rcases List.mem_cons.mp hq with rfl | hq
      · show kd_g _ _ _ (h 260 0)
        rw [eD]
        exact kv_gi (by omega) (by omega)
      rcases List.mem_cons.mp hq with rfl | hq
      · show kd_g _ _ _ (h 260 2)
        rw [eL]
        exact kv_gv (by omega)
      cases hq))) (by decide)) (fun rv h' hq => ?_)
    obtain ⟨p, p1, p2, hF, hw2, hfr⟩ := hq
    obtain rfl := List.mem_singleton.mp p1
    cases rv with
    | none => exact p2.elim
    | some y =>
    have ey := kv_p0 (by omega) p2
    subst ey
    have e1 := kv_po (by omega) (hF (260, 2, _) List.mem_cons_self)
    exact ⟨_, rfl, by unfold ku_al; rw [if_pos (by omega), if_pos (by omega), tL], hw2, hfr, Or.inl ⟨by omega, by rw [tL]; omega, e1⟩⟩
  · refine kc_Con_mono (kc_Con_le (kv_nox (k := 4) (by decide) (kv_XhrloadfB (x := (e.toInt - 1).toNat) hg (by omega) (fun _ => 0) _ h kv_bx0 hw ⟨⟨259, rfl, by decide, by decide⟩, kv_gi (by omega) (by omega), kv_gi (by omega) (by omega), kv_gi (by omega) (by omega), kv_gi (by omega) (by omega), trivial⟩ (fun q hq => by
      rcases List.mem_cons.mp hq with rfl | hq
      · show kd_g _ _ _ (h 260 0)
        rw [eD]
        exact kv_gi (by omega) (by omega)
      rcases List.mem_cons.mp hq with rfl | hq
      · show kd_g _ _ _ (h 260 2)
        rw [eL]
        exact kv_gi (by omega) (by omega)
      cases hq))) (by decide)) (fun rv h' hq => ?_)
    obtain ⟨r, rfl, r0, rfl⟩ := hq
    exact ⟨r, rfl, by unfold ku_al; first | (rw [if_neg (by omega)]; exact r0) | (rw [if_pos (by omega), if_neg (by omega)]; exact r0), hw, fun c i _ => rfl, Or.inr ⟨by omega, by omega, rfl⟩⟩
  · refine kc_Con_mono (kc_Con_le (kv_nox (k := 2) (by decide) (kv_Xhrload0 hg (fun _ => 0) _ h kv_bx0 hw ⟨⟨259, rfl, by decide, by decide⟩, kv_gi (by omega) (by omega), kv_gi (by omega) (by omega), kv_gi (by omega) (by omega), kv_gi (by omega) (by omega), trivial⟩ (fun q hq => by cases hq))) (by decide)) (fun rv h' hq => ?_)
    obtain ⟨r, rfl, r0, rfl⟩ := hq
    exact ⟨r, rfl, by unfold ku_al; first | (rw [if_neg (by omega)]; exact r0) | (rw [if_pos (by omega), if_neg (by omega)]; exact r0), hw, fun c i _ => rfl, Or.inr ⟨by omega, by omega, rfl⟩⟩
  · refine kc_Con_mono (kc_Con_le (kv_nox (k := 2) (by decide) (kv_Xhrload1 hg (fun _ => 0) _ h kv_bx0 hw ⟨⟨259, rfl, by decide, by decide⟩, kv_gi (by omega) (by omega), kv_gi (by omega) (by omega), kv_gi (by omega) (by omega), kv_gi (by omega) (by omega), trivial⟩ (fun q hq => by cases hq))) (by decide)) (fun rv h' hq => ?_)
    obtain ⟨r, rfl, r0, rfl⟩ := hq
    exact ⟨r, rfl, by unfold ku_al; first | (rw [if_neg (by omega)]; exact r0) | (rw [if_pos (by omega), if_neg (by omega)]; exact r0), hw, fun c i _ => rfl, Or.inr ⟨by omega, by omega, rfl⟩⟩
  · refine kc_Con_mono (kc_Con_le (kv_nox (k := 2) (by decide) (kv_Xhrload2 hg (fun _ => 0) _ h kv_bx0 hw ⟨⟨259, rfl, by decide, by decide⟩, kv_gi (by omega) (by omega), kv_gi (by omega) (by omega), kv_gi (by omega) (by omega), kv_gi (by omega) (by omega), trivial⟩ (fun q hq => by cases hq))) (by decide)) (fun rv h' hq => ?_)
    obtain ⟨r, rfl, r0, rfl⟩ := hq
    exact ⟨r, rfl, by unfold ku_al; first | (rw [if_neg (by omega)]; exact r0) | (rw [if_pos (by omega), if_neg (by omega)]; exact r0), hw, fun c i _ => rfl, Or.inr ⟨by omega, by omega, rfl⟩⟩
  · refine kc_Con_mono (kc_Con_le (kv_nox (k := 2) (by decide) (kv_Xhrload3 hg (fun _ => 0) _ h kv_bx0 hw ⟨⟨259, rfl, by decide, by decide⟩, kv_gi (by omega) (by omega), kv_gi (by omega) (by omega), kv_gi (by omega) (by omega), kv_gi (by omega) (by omega), trivial⟩ (fun q hq => by cases hq))) (by decide)) (fun rv h' hq => ?_)
    obtain ⟨r, rfl, r0, rfl⟩ := hq
    exact ⟨r, rfl, by unfold ku_al; first | (rw [if_neg (by omega)]; exact r0) | (rw [if_pos (by omega), if_neg (by omega)]; exact r0), hw, fun c i _ => rfl, Or.inr ⟨by omega, by omega, rfl⟩⟩
  · refine kc_Con_mono (kc_Con_le (kv_nox (k := 2) (by decide) (kv_Xhrload4 hg (fun _ => 0) _ h kv_bx0 hw ⟨⟨259, rfl, by decide, by decide⟩, kv_gi (by omega) (by omega), kv_gi (by omega) (by omega), kv_gi (by omega) (by omega), kv_gi (by omega) (by omega), trivial⟩ (fun q hq => by cases hq))) (by decide)) (fun rv h' hq => ?_)
    obtain ⟨r, rfl, r0, rfl⟩ := hq
    exact ⟨r, rfl, by unfold ku_al; first | (rw [if_neg (by omega)]; exact r0) | (rw [if_pos (by omega), if_neg (by omega)]; exact r0), hw, fun c i _ => rfl, Or.inr ⟨by omega, by omega, rfl⟩⟩
  · refine kc_Con_mono (kc_Con_le (kv_nox (k := 2) (by decide) (kv_Xhrload5 hg (fun _ => 0) _ h kv_bx0 hw ⟨⟨259, rfl, by decide, by decide⟩, kv_gi (by omega) (by omega), kv_gi (by omega) (by omega), kv_gi (by omega) (by omega), kv_gi (by omega) (by omega), trivial⟩ (fun q hq => by cases hq))) (by decide)) (fun rv h' hq => ?_)
    obtain ⟨r, rfl, r0, rfl⟩ := hq
    exact ⟨r, rfl, by unfold ku_al; first | (rw [if_neg (by omega)]; exact r0) | (rw [if_pos (by omega), if_neg (by omega)]; exact r0), hw, fun c i _ => rfl, Or.inr ⟨by omega, by omega, rfl⟩⟩
  · refine kc_Con_mono (kc_Con_le (kv_nox (k := 2) (by decide) (kv_Xhrload6 hg (fun _ => 0) _ h kv_bx0 hw ⟨⟨259, rfl, by decide, by decide⟩, kv_gi (by omega) (by omega), kv_gi (by omega) (by omega), kv_gi (by omega) (by omega), kv_gi (by omega) (by omega), trivial⟩ (fun q hq => by cases hq))) (by decide)) (fun rv h' hq => ?_)
    obtain ⟨r, rfl, r0, rfl⟩ := hq
    exact ⟨r, rfl, by unfold ku_al; first | (rw [if_neg (by omega)]; exact r0) | (rw [if_pos (by omega), if_neg (by omega)]; exact r0), hw, fun c i _ => rfl, Or.inr ⟨by omega, by omega, rfl⟩⟩
  · refine kc_Con_mono (kc_Con_le (kv_nox (k := 2) (by decide) (kv_Xhrload7 hg (fun _ => 0) _ h kv_bx0 hw ⟨⟨259, rfl, by decide, by decide⟩, kv_gi (by omega) (by omega), kv_gi (by omega) (by omega), kv_gi (by omega) (by omega), kv_gi (by omega) (by omega), trivial⟩ (fun q hq => by cases hq))) (by decide)) (fun rv h' hq => ?_)
    obtain ⟨r, rfl, r0, rfl⟩ := hq
    exact ⟨r, rfl, by unfold ku_al; first | (rw [if_neg (by omega)]; exact r0) | (rw [if_pos (by omega), if_neg (by omega)]; exact r0), hw, fun c i _ => rfl, Or.inr ⟨by omega, by omega, rfl⟩⟩
  · refine kc_Con_mono (kc_Con_le (kv_nox (k := 2) (by decide) (kv_Xhrloadp (x := (c.toInt - 1).toNat) hg (by omega) (fun _ => 0) _ h kv_bx0 hw ⟨⟨259, rfl, by decide, by decide⟩, kv_gi (by omega) (by omega), kv_gi (by omega) (by omega), kv_gi (by omega) (by omega), kv_gi (by omega) (by omega), trivial⟩ (fun q hq => by
      rcases List.mem_cons.mp hq with rfl | hq
      · show kd_g _ _ _ (h 260 0)
        rw [eD]
        exact kv_gi (by omega) (by omega)
      cases hq))) (by decide)) (fun rv h' hq => ?_)
    obtain ⟨r, rfl, r0, rfl⟩ := hq
    exact ⟨r, rfl, by unfold ku_al; first | (rw [if_neg (by omega)]; exact r0) | (rw [if_pos (by omega), if_neg (by omega)]; exact r0), hw, fun c i _ => rfl, Or.inr ⟨by omega, by omega, rfl⟩⟩
  · refine kc_Con_mono (kc_Con_le (kv_nox (k := 2) (by decide) (kv_Xhrloadq (x := (e.toInt - 1).toNat) hg (by omega) (fun _ => 0) _ h kv_bx0 hw ⟨⟨259, rfl, by decide, by decide⟩, kv_gi (by omega) (by omega), kv_gi (by omega) (by omega), kv_gi (by omega) (by omega), kv_gi (by omega) (by omega), trivial⟩ (fun q hq => by
      rcases List.mem_cons.mp hq with rfl | hq
      · show kd_g _ _ _ (h 260 0)
        rw [eD]
        exact kv_gi (by omega) (by omega)
      cases hq))) (by decide)) (fun rv h' hq => ?_)
    obtain ⟨r, rfl, r0, rfl⟩ := hq
    exact ⟨r, rfl, by unfold ku_al; first | (rw [if_neg (by omega)]; exact r0) | (rw [if_pos (by omega), if_neg (by omega)]; exact r0), hw, fun c i _ => rfl, Or.inr ⟨by omega, by omega, rfl⟩⟩
  · refine kc_Con_mono (kc_Con_le (kv_nox (k := 2) (by decide) (kv_Xhrloade (x := c.toInt.toNat) hg (by omega) (fun _ => 0) _ h kv_bx0 hw ⟨⟨259, rfl, by decide, by decide⟩, kv_gi (by omega) (by omega), kv_gi (by omega) (by omega), kv_gi (by omega) (by omega), kv_gi (by omega) (by omega), trivial⟩ (fun q hq => by cases hq))) (by decide)) (fun rv h' hq => ?_)
    obtain ⟨r, rfl, r0, rfl⟩ := hq
    exact ⟨r, rfl, by unfold ku_al; first | (rw [if_neg (by omega)]; exact r0) | (rw [if_pos (by omega), if_neg (by omega)]; exact r0), hw, fun c i _ => rfl, Or.inr ⟨by omega, by omega, rfl⟩⟩
