def tt_F : Int × Int := (-2147483648, 2147483647)
noncomputable def tt_k (fuel d : Nat) (a b : Int) : Bool := match wk_go wk_mt 5 wk_m0 (fun _ _ _ _ _ _ _ => false) (wk_run wk_mt 5 fuel d) fuel [tt_F, tt_F, tt_F, tt_F, tt_F, (a, b)] 18 wk_AL1 [] wk_AH1 289 10466 with
  | some l => l.all fun f => match f.2.1 with
    | some (.inl (1, 1)) => true
    | _ => false
  | _ => false
set_option maxRecDepth 100000 in
theorem tt_4 : tt_k 100000 10 33 33 = true := by decide +kernel
