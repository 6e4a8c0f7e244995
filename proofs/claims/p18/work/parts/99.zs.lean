/-! ===== the law's loop ===== -/
theorem kL_inc (i : Nat) : Int32.ofNat i + Int32.ofInt 5 = Int32.ofNat (i + 5) := by
  rw [Int32.ofNat_add]
  rfl
set_option maxRecDepth 20000 in
theorem kL_next {g : kc_G} {p : Program} {e : Env} {R : Room} {s : State} {m : MethodId} {args : Array Value} {below : List Frame} {meth : Method} {c : Code} {as : List Nat} {Z : State → Prop} {h : kc_H} {i : Nat} (hg : kc_ok g) (hF : kc_fix g 40 wk_mL p R s m args meth c) (hnc : 289 ≤ R.cells) (hns : 10466 ≤ R.slots) (hL : kc_gL g < 2147483000) (hi : i + 5 ≤ kc_gL g) (hI : fu_I h) (hK : ∀ h', fu_I h' → kL_Ev g wk_mL p e R s m args below meth c as 289 10466 Z 18 [(3, .inl (Int32.ofNat (i + 5))), (2, .inr (.inr (.inl (some 259)))), (1, .inr (.inr (.inl (some 0)))), (0, .inr (.inr (.inr 0)))] [] h') : kL_Ev g wk_mL p e R s m args below meth c as 289 10466 Z 1207 [(3, .inl (Int32.ofNat i)), (2, .inr (.inr (.inl (some 259)))), (1, .inr (.inr (.inl (some 0)))), (0, .inr (.inr (.inr 0)))] [] h := by
  refine kL_go hF 2 (pc' := 18) (L' := [(3, .inl ((Int32.ofNat i) + Int32.ofInt 5)), (2, .inr (.inr (.inl (some 259)))), (1, .inr (.inr (.inl (some 0)))), (0, .inr (.inr (.inr 0)))]) (S' := []) (by with_unfolding_all rfl) ?_
  rw [kL_inc]
  exact hK h hI
set_option maxRecDepth 20000 in
theorem kL_0 {g : kc_G} {p : Program} {e : Env} {R : Room} {s : State} {m : MethodId} {args : Array Value} {below : List Frame} {meth : Method} {c : Code} {as : List Nat} {Z : State → Prop} {h : kc_H} {i : Nat} (hg : kc_ok g) (hF : kc_fix g 40 wk_mL p R s m args meth c) (hnc : 289 ≤ R.cells) (hns : 10466 ≤ R.slots) (hL : kc_gL g < 2147483000) (hi : i + 5 ≤ kc_gL g) (hI : fu_I h) (hK : ∀ h', fu_I h' → kL_Ev g wk_mL p e R s m args below meth c as 289 10466 Z 18 [(3, .inl (Int32.ofNat (i + 5))), (2, .inr (.inr (.inl (some 259)))), (1, .inr (.inr (.inl (some 0)))), (0, .inr (.inr (.inr 0)))] [] h') : kL_Ev g wk_mL p e R s m args below meth c as 289 10466 Z 196 [(3, .inl (Int32.ofNat i)), (2, .inr (.inr (.inl (some 259)))), (1, .inr (.inr (.inl (some 0)))), (0, .inr (.inr (.inr 0)))] [] h := by
  refine kL_go hF 1 (pc' := 197) (L' := [(3, .inl (Int32.ofNat i)), (2, .inr (.inr (.inl (some 259)))), (1, .inr (.inr (.inl (some 0)))), (0, .inr (.inr (.inr 0)))]) (S' := [.inr (.inr (.inl (some 0)))]) (by with_unfolding_all rfl) ?_
  refine kL_call hF hnc hns (M2 := wk_m13) (av := [.inr (.inr (.inl (some 0)))]) (r := []) rfl rfl (kc_Con_le (fU_Xdoor hg hI) (by decide)) (fun rv h1 hq => ?_)
  obtain ⟨z, rfl, hq⟩ := hq
  show kL_Ev g wk_mL p e R s m args below meth c as 289 10466 Z 200 [(3, .inl (Int32.ofNat i)), (2, .inr (.inr (.inl (some 259)))), (1, .inr (.inr (.inl (some 0)))), (0, .inr (.inr (.inr 0)))] [.inl z] h1
  refine kL_go hF 2 (pc' := 202) (L' := [(3, .inl (Int32.ofNat i)), (2, .inr (.inr (.inl (some 259)))), (1, .inr (.inr (.inl (some 0)))), (0, .inr (.inr (.inr 0)))]) (S' := [.inr (.inr (.inl (some 259)))]) (by with_unfolding_all rfl) ?_
  refine kL_call hF hnc hns (M2 := wk_m15) (av := [.inr (.inr (.inl (some 259)))]) (r := []) rfl rfl (kc_Con_le (hq) (by decide)) (fun rv h2 hq2 => ?_)
  obtain ⟨rfl, hI2⟩ := hq2
  have hzz : ∃ z2, z2 = z := ⟨z, rfl⟩
  obtain ⟨z2, rfl⟩ := hzz
  show kL_Ev g wk_mL p e R s m args below meth c as 289 10466 Z 205 [(3, .inl (Int32.ofNat i)), (2, .inr (.inr (.inl (some 259)))), (1, .inr (.inr (.inl (some 0)))), (0, .inr (.inr (.inr 0)))] [.inl z2] h2
  refine kL_go hF 2 (pc' := 1207) (L' := [(3, .inl (Int32.ofNat i)), (2, .inr (.inr (.inl (some 259)))), (1, .inr (.inr (.inl (some 0)))), (0, .inr (.inr (.inr 0)))]) (S' := []) (by with_unfolding_all rfl) ?_
  exact kL_next hg hF hnc hns hL hi hI2 hK
set_option maxRecDepth 20000 in
theorem kL_1 {g : kc_G} {p : Program} {e : Env} {R : Room} {s : State} {m : MethodId} {args : Array Value} {below : List Frame} {meth : Method} {c : Code} {as : List Nat} {Z : State → Prop} {h : kc_H} {i : Nat} (hg : kc_ok g) (hF : kc_fix g 40 wk_mL p R s m args meth c) (hnc : 289 ≤ R.cells) (hns : 10466 ≤ R.slots) (hL : kc_gL g < 2147483000) (hi : i + 5 ≤ kc_gL g) (hI : fu_I h) (hK : ∀ h', fu_I h' → kL_Ev g wk_mL p e R s m args below meth c as 289 10466 Z 18 [(3, .inl (Int32.ofNat (i + 5))), (2, .inr (.inr (.inl (some 259)))), (1, .inr (.inr (.inl (some 0)))), (0, .inr (.inr (.inr 0)))] [] h') : kL_Ev g wk_mL p e R s m args below meth c as 289 10466 Z 209 [(3, .inl (Int32.ofNat i)), (2, .inr (.inr (.inl (some 259)))), (1, .inr (.inr (.inl (some 0)))), (0, .inr (.inr (.inr 0)))] [] h := by
  refine kL_go hF 5 (pc' := 214) (L' := [(3, .inl (Int32.ofNat i)), (2, .inr (.inr (.inl (some 259)))), (1, .inr (.inr (.inl (some 0)))), (0, .inr (.inr (.inr 0)))]) (S' := [.inl ((Int32.ofNat i) + (Int32.ofNat 1)), .inr (.inr (.inr 0)), .inr (.inr (.inl (some 0)))]) (by with_unfolding_all rfl) ?_
  rw [← Int32.ofNat_add]
  refine kL_sc hF hnc hns (j := i + 1) rfl (by omega) (by omega) ?_
  refine kL_go hF 4 (pc' := 219) (L' := [(3, .inl (Int32.ofNat i)), (2, .inr (.inr (.inl (some 259)))), (1, .inr (.inr (.inl (some 0)))), (0, .inr (.inr (.inr 0)))]) (S' := [.inl ((Int32.ofNat i) + (Int32.ofNat 2)), .inr (.inr (.inr 0)), .inl (kc_gs g (i + 1)), .inr (.inr (.inl (some 0)))]) (by with_unfolding_all rfl) ?_
  rw [← Int32.ofNat_add]
  refine kL_sc hF hnc hns (j := i + 2) rfl (by omega) (by omega) ?_
  refine kL_go hF 4 (pc' := 224) (L' := [(3, .inl (Int32.ofNat i)), (2, .inr (.inr (.inl (some 259)))), (1, .inr (.inr (.inl (some 0)))), (0, .inr (.inr (.inr 0)))]) (S' := [.inl ((Int32.ofNat i) + (Int32.ofNat 3)), .inr (.inr (.inr 0)), .inl (kc_gs g (i + 2)), .inl (kc_gs g (i + 1)), .inr (.inr (.inl (some 0)))]) (by with_unfolding_all rfl) ?_
  rw [← Int32.ofNat_add]
  refine kL_sc hF hnc hns (j := i + 3) rfl (by omega) (by omega) ?_
  refine kL_call hF hnc hns (M2 := wk_m16) (av := [.inr (.inr (.inl (some 0))), .inl (kc_gs g (i + 1)), .inl (kc_gs g (i + 2)), .inl (kc_gs g (i + 3))]) (r := []) rfl rfl (kc_Con_le (fU_Xway hg hI) (by decide)) (fun rv h1 hq => ?_)
  obtain ⟨z, rfl, hq⟩ := hq
  show kL_Ev g wk_mL p e R s m args below meth c as 289 10466 Z 228 [(3, .inl (Int32.ofNat i)), (2, .inr (.inr (.inl (some 259)))), (1, .inr (.inr (.inl (some 0)))), (0, .inr (.inr (.inr 0)))] [.inl z] h1
  refine kL_go hF 6 (pc' := 234) (L' := [(3, .inl (Int32.ofNat i)), (2, .inr (.inr (.inl (some 259)))), (1, .inr (.inr (.inl (some 0)))), (0, .inr (.inr (.inr 0)))]) (S' := [.inl ((Int32.ofNat i) + (Int32.ofNat 1)), .inr (.inr (.inr 0)), .inr (.inr (.inl (some 259)))]) (by with_unfolding_all rfl) ?_
  rw [← Int32.ofNat_add]
  refine kL_sc hF hnc hns (j := i + 1) rfl (by omega) (by omega) ?_
  refine kL_go hF 4 (pc' := 239) (L' := [(3, .inl (Int32.ofNat i)), (2, .inr (.inr (.inl (some 259)))), (1, .inr (.inr (.inl (some 0)))), (0, .inr (.inr (.inr 0)))]) (S' := [.inl ((Int32.ofNat i) + (Int32.ofNat 2)), .inr (.inr (.inr 0)), .inl (kc_gs g (i + 1)), .inr (.inr (.inl (some 259)))]) (by with_unfolding_all rfl) ?_
  rw [← Int32.ofNat_add]
  refine kL_sc hF hnc hns (j := i + 2) rfl (by omega) (by omega) ?_
  refine kL_go hF 4 (pc' := 244) (L' := [(3, .inl (Int32.ofNat i)), (2, .inr (.inr (.inl (some 259)))), (1, .inr (.inr (.inl (some 0)))), (0, .inr (.inr (.inr 0)))]) (S' := [.inl ((Int32.ofNat i) + (Int32.ofNat 3)), .inr (.inr (.inr 0)), .inl (kc_gs g (i + 2)), .inl (kc_gs g (i + 1)), .inr (.inr (.inl (some 259)))]) (by with_unfolding_all rfl) ?_
  rw [← Int32.ofNat_add]
  refine kL_sc hF hnc hns (j := i + 3) rfl (by omega) (by omega) ?_
  refine kL_call hF hnc hns (M2 := wk_m20) (av := [.inr (.inr (.inl (some 259))), .inl (kc_gs g (i + 1)), .inl (kc_gs g (i + 2)), .inl (kc_gs g (i + 3))]) (r := []) rfl rfl (kc_Con_le (hq) (by decide)) (fun rv h2 hq2 => ?_)
  obtain ⟨rfl, hI2⟩ := hq2
  have hzz : ∃ z2, z2 = z := ⟨z, rfl⟩
  obtain ⟨z2, rfl⟩ := hzz
  show kL_Ev g wk_mL p e R s m args below meth c as 289 10466 Z 248 [(3, .inl (Int32.ofNat i)), (2, .inr (.inr (.inl (some 259)))), (1, .inr (.inr (.inl (some 0)))), (0, .inr (.inr (.inr 0)))] [.inl z2] h2
  refine kL_go hF 2 (pc' := 1207) (L' := [(3, .inl (Int32.ofNat i)), (2, .inr (.inr (.inl (some 259)))), (1, .inr (.inr (.inl (some 0)))), (0, .inr (.inr (.inr 0)))]) (S' := []) (by with_unfolding_all rfl) ?_
  exact kL_next hg hF hnc hns hL hi hI2 hK
set_option maxRecDepth 20000 in
theorem kL_2 {g : kc_G} {p : Program} {e : Env} {R : Room} {s : State} {m : MethodId} {args : Array Value} {below : List Frame} {meth : Method} {c : Code} {as : List Nat} {Z : State → Prop} {h : kc_H} {i : Nat} (hg : kc_ok g) (hF : kc_fix g 40 wk_mL p R s m args meth c) (hnc : 289 ≤ R.cells) (hns : 10466 ≤ R.slots) (hL : kc_gL g < 2147483000) (hi : i + 5 ≤ kc_gL g) (hI : fu_I h) (hK : ∀ h', fu_I h' → kL_Ev g wk_mL p e R s m args below meth c as 289 10466 Z 18 [(3, .inl (Int32.ofNat (i + 5))), (2, .inr (.inr (.inl (some 259)))), (1, .inr (.inr (.inl (some 0)))), (0, .inr (.inr (.inr 0)))] [] h') : kL_Ev g wk_mL p e R s m args below meth c as 289 10466 Z 252 [(3, .inl (Int32.ofNat i)), (2, .inr (.inr (.inl (some 259)))), (1, .inr (.inr (.inl (some 0)))), (0, .inr (.inr (.inr 0)))] [] h := by
  refine kL_go hF 5 (pc' := 257) (L' := [(3, .inl (Int32.ofNat i)), (2, .inr (.inr (.inl (some 259)))), (1, .inr (.inr (.inl (some 0)))), (0, .inr (.inr (.inr 0)))]) (S' := [.inl ((Int32.ofNat i) + (Int32.ofNat 1)), .inr (.inr (.inr 0)), .inr (.inr (.inl (some 0)))]) (by with_unfolding_all rfl) ?_
  rw [← Int32.ofNat_add]
  refine kL_sc hF hnc hns (j := i + 1) rfl (by omega) (by omega) ?_
  refine kL_call hF hnc hns (M2 := wk_m23) (av := [.inr (.inr (.inl (some 0))), .inl (kc_gs g (i + 1))]) (r := []) rfl rfl (kc_Con_le (fU_Xford hg hI) (by decide)) (fun rv h1 hq => ?_)
  obtain ⟨z, rfl, hq⟩ := hq
  show kL_Ev g wk_mL p e R s m args below meth c as 289 10466 Z 261 [(3, .inl (Int32.ofNat i)), (2, .inr (.inr (.inl (some 259)))), (1, .inr (.inr (.inl (some 0)))), (0, .inr (.inr (.inr 0)))] [.inl z] h1
  refine kL_go hF 6 (pc' := 267) (L' := [(3, .inl (Int32.ofNat i)), (2, .inr (.inr (.inl (some 259)))), (1, .inr (.inr (.inl (some 0)))), (0, .inr (.inr (.inr 0)))]) (S' := [.inl ((Int32.ofNat i) + (Int32.ofNat 1)), .inr (.inr (.inr 0)), .inr (.inr (.inl (some 259)))]) (by with_unfolding_all rfl) ?_
  rw [← Int32.ofNat_add]
  refine kL_sc hF hnc hns (j := i + 1) rfl (by omega) (by omega) ?_
  refine kL_call hF hnc hns (M2 := wk_m26) (av := [.inr (.inr (.inl (some 259))), .inl (kc_gs g (i + 1))]) (r := []) rfl rfl (kc_Con_le (hq) (by decide)) (fun rv h2 hq2 => ?_)
  obtain ⟨rfl, hI2⟩ := hq2
  have hzz : ∃ z2, z2 = z := ⟨z, rfl⟩
  obtain ⟨z2, rfl⟩ := hzz
  show kL_Ev g wk_mL p e R s m args below meth c as 289 10466 Z 271 [(3, .inl (Int32.ofNat i)), (2, .inr (.inr (.inl (some 259)))), (1, .inr (.inr (.inl (some 0)))), (0, .inr (.inr (.inr 0)))] [.inl z2] h2
  refine kL_go hF 2 (pc' := 1207) (L' := [(3, .inl (Int32.ofNat i)), (2, .inr (.inr (.inl (some 259)))), (1, .inr (.inr (.inl (some 0)))), (0, .inr (.inr (.inr 0)))]) (S' := []) (by with_unfolding_all rfl) ?_
  exact kL_next hg hF hnc hns hL hi hI2 hK
set_option maxRecDepth 20000 in
theorem kL_3 {g : kc_G} {p : Program} {e : Env} {R : Room} {s : State} {m : MethodId} {args : Array Value} {below : List Frame} {meth : Method} {c : Code} {as : List Nat} {Z : State → Prop} {h : kc_H} {i : Nat} (hg : kc_ok g) (hF : kc_fix g 40 wk_mL p R s m args meth c) (hnc : 289 ≤ R.cells) (hns : 10466 ≤ R.slots) (hL : kc_gL g < 2147483000) (hi : i + 5 ≤ kc_gL g) (hI : fu_I h) (hK : ∀ h', fu_I h' → kL_Ev g wk_mL p e R s m args below meth c as 289 10466 Z 18 [(3, .inl (Int32.ofNat (i + 5))), (2, .inr (.inr (.inl (some 259)))), (1, .inr (.inr (.inl (some 0)))), (0, .inr (.inr (.inr 0)))] [] h') : kL_Ev g wk_mL p e R s m args below meth c as 289 10466 Z 275 [(3, .inl (Int32.ofNat i)), (2, .inr (.inr (.inl (some 259)))), (1, .inr (.inr (.inl (some 0)))), (0, .inr (.inr (.inr 0)))] [] h := by
  refine kL_go hF 5 (pc' := 280) (L' := [(3, .inl (Int32.ofNat i)), (2, .inr (.inr (.inl (some 259)))), (1, .inr (.inr (.inl (some 0)))), (0, .inr (.inr (.inr 0)))]) (S' := [.inl ((Int32.ofNat i) + (Int32.ofNat 1)), .inr (.inr (.inr 0)), .inr (.inr (.inl (some 0)))]) (by with_unfolding_all rfl) ?_
  rw [← Int32.ofNat_add]
  refine kL_sc hF hnc hns (j := i + 1) rfl (by omega) (by omega) ?_
  refine kL_go hF 4 (pc' := 285) (L' := [(3, .inl (Int32.ofNat i)), (2, .inr (.inr (.inl (some 259)))), (1, .inr (.inr (.inl (some 0)))), (0, .inr (.inr (.inr 0)))]) (S' := [.inl ((Int32.ofNat i) + (Int32.ofNat 2)), .inr (.inr (.inr 0)), .inl (kc_gs g (i + 1)), .inr (.inr (.inl (some 0)))]) (by with_unfolding_all rfl) ?_
  rw [← Int32.ofNat_add]
  refine kL_sc hF hnc hns (j := i + 2) rfl (by omega) (by omega) ?_
  refine kL_call hF hnc hns (M2 := wk_m28) (av := [.inr (.inr (.inl (some 0))), .inl (kc_gs g (i + 1)), .inl (kc_gs g (i + 2))]) (r := []) rfl rfl (kc_Con_le (fU_Xstones hg hI) (by decide)) (fun rv h1 hq => ?_)
  obtain ⟨z, rfl, hq⟩ := hq
  show kL_Ev g wk_mL p e R s m args below meth c as 289 10466 Z 289 [(3, .inl (Int32.ofNat i)), (2, .inr (.inr (.inl (some 259)))), (1, .inr (.inr (.inl (some 0)))), (0, .inr (.inr (.inr 0)))] [.inl z] h1
  refine kL_go hF 6 (pc' := 295) (L' := [(3, .inl (Int32.ofNat i)), (2, .inr (.inr (.inl (some 259)))), (1, .inr (.inr (.inl (some 0)))), (0, .inr (.inr (.inr 0)))]) (S' := [.inl ((Int32.ofNat i) + (Int32.ofNat 1)), .inr (.inr (.inr 0)), .inr (.inr (.inl (some 259)))]) (by with_unfolding_all rfl) ?_
  rw [← Int32.ofNat_add]
  refine kL_sc hF hnc hns (j := i + 1) rfl (by omega) (by omega) ?_
  refine kL_go hF 4 (pc' := 300) (L' := [(3, .inl (Int32.ofNat i)), (2, .inr (.inr (.inl (some 259)))), (1, .inr (.inr (.inl (some 0)))), (0, .inr (.inr (.inr 0)))]) (S' := [.inl ((Int32.ofNat i) + (Int32.ofNat 2)), .inr (.inr (.inr 0)), .inl (kc_gs g (i + 1)), .inr (.inr (.inl (some 259)))]) (by with_unfolding_all rfl) ?_
  rw [← Int32.ofNat_add]
  refine kL_sc hF hnc hns (j := i + 2) rfl (by omega) (by omega) ?_
  refine kL_call hF hnc hns (M2 := wk_m30) (av := [.inr (.inr (.inl (some 259))), .inl (kc_gs g (i + 1)), .inl (kc_gs g (i + 2))]) (r := []) rfl rfl (kc_Con_le (hq) (by decide)) (fun rv h2 hq2 => ?_)
  obtain ⟨rfl, hI2⟩ := hq2
  have hzz : ∃ z2, z2 = z := ⟨z, rfl⟩
  obtain ⟨z2, rfl⟩ := hzz
  show kL_Ev g wk_mL p e R s m args below meth c as 289 10466 Z 304 [(3, .inl (Int32.ofNat i)), (2, .inr (.inr (.inl (some 259)))), (1, .inr (.inr (.inl (some 0)))), (0, .inr (.inr (.inr 0)))] [.inl z2] h2
  refine kL_go hF 2 (pc' := 1207) (L' := [(3, .inl (Int32.ofNat i)), (2, .inr (.inr (.inl (some 259)))), (1, .inr (.inr (.inl (some 0)))), (0, .inr (.inr (.inr 0)))]) (S' := []) (by with_unfolding_all rfl) ?_
  exact kL_next hg hF hnc hns hL hi hI2 hK
set_option maxRecDepth 20000 in
theorem kL_4 {g : kc_G} {p : Program} {e : Env} {R : Room} {s : State} {m : MethodId} {args : Array Value} {below : List Frame} {meth : Method} {c : Code} {as : List Nat} {Z : State → Prop} {h : kc_H} {i : Nat} (hg : kc_ok g) (hF : kc_fix g 40 wk_mL p R s m args meth c) (hnc : 289 ≤ R.cells) (hns : 10466 ≤ R.slots) (hL : kc_gL g < 2147483000) (hi : i + 5 ≤ kc_gL g) (hI : fu_I h) (hK : ∀ h', fu_I h' → kL_Ev g wk_mL p e R s m args below meth c as 289 10466 Z 18 [(3, .inl (Int32.ofNat (i + 5))), (2, .inr (.inr (.inl (some 259)))), (1, .inr (.inr (.inl (some 0)))), (0, .inr (.inr (.inr 0)))] [] h') : kL_Ev g wk_mL p e R s m args below meth c as 289 10466 Z 308 [(3, .inl (Int32.ofNat i)), (2, .inr (.inr (.inl (some 259)))), (1, .inr (.inr (.inl (some 0)))), (0, .inr (.inr (.inr 0)))] [] h := by
  refine kL_go hF 5 (pc' := 313) (L' := [(3, .inl (Int32.ofNat i)), (2, .inr (.inr (.inl (some 259)))), (1, .inr (.inr (.inl (some 0)))), (0, .inr (.inr (.inr 0)))]) (S' := [.inl ((Int32.ofNat i) + (Int32.ofNat 1)), .inr (.inr (.inr 0)), .inr (.inr (.inl (some 0)))]) (by with_unfolding_all rfl) ?_
  rw [← Int32.ofNat_add]
  refine kL_sc hF hnc hns (j := i + 1) rfl (by omega) (by omega) ?_
  refine kL_go hF 4 (pc' := 318) (L' := [(3, .inl (Int32.ofNat i)), (2, .inr (.inr (.inl (some 259)))), (1, .inr (.inr (.inl (some 0)))), (0, .inr (.inr (.inr 0)))]) (S' := [.inl ((Int32.ofNat i) + (Int32.ofNat 2)), .inr (.inr (.inr 0)), .inl (kc_gs g (i + 1)), .inr (.inr (.inl (some 0)))]) (by with_unfolding_all rfl) ?_
  rw [← Int32.ofNat_add]
  refine kL_sc hF hnc hns (j := i + 2) rfl (by omega) (by omega) ?_
  refine kL_go hF 4 (pc' := 323) (L' := [(3, .inl (Int32.ofNat i)), (2, .inr (.inr (.inl (some 259)))), (1, .inr (.inr (.inl (some 0)))), (0, .inr (.inr (.inr 0)))]) (S' := [.inl ((Int32.ofNat i) + (Int32.ofNat 3)), .inr (.inr (.inr 0)), .inl (kc_gs g (i + 2)), .inl (kc_gs g (i + 1)), .inr (.inr (.inl (some 0)))]) (by with_unfolding_all rfl) ?_
  rw [← Int32.ofNat_add]
  refine kL_sc hF hnc hns (j := i + 3) rfl (by omega) (by omega) ?_
  refine kL_call hF hnc hns (M2 := wk_m32) (av := [.inr (.inr (.inl (some 0))), .inl (kc_gs g (i + 1)), .inl (kc_gs g (i + 2)), .inl (kc_gs g (i + 3))]) (r := []) rfl rfl (kc_Con_le (fU_Xmule hg hI) (by decide)) (fun rv h1 hq => ?_)
  obtain ⟨z, rfl, hq⟩ := hq
  show kL_Ev g wk_mL p e R s m args below meth c as 289 10466 Z 327 [(3, .inl (Int32.ofNat i)), (2, .inr (.inr (.inl (some 259)))), (1, .inr (.inr (.inl (some 0)))), (0, .inr (.inr (.inr 0)))] [.inl z] h1
  refine kL_go hF 6 (pc' := 333) (L' := [(3, .inl (Int32.ofNat i)), (2, .inr (.inr (.inl (some 259)))), (1, .inr (.inr (.inl (some 0)))), (0, .inr (.inr (.inr 0)))]) (S' := [.inl ((Int32.ofNat i) + (Int32.ofNat 1)), .inr (.inr (.inr 0)), .inr (.inr (.inl (some 259)))]) (by with_unfolding_all rfl) ?_
  rw [← Int32.ofNat_add]
  refine kL_sc hF hnc hns (j := i + 1) rfl (by omega) (by omega) ?_
  refine kL_go hF 4 (pc' := 338) (L' := [(3, .inl (Int32.ofNat i)), (2, .inr (.inr (.inl (some 259)))), (1, .inr (.inr (.inl (some 0)))), (0, .inr (.inr (.inr 0)))]) (S' := [.inl ((Int32.ofNat i) + (Int32.ofNat 2)), .inr (.inr (.inr 0)), .inl (kc_gs g (i + 1)), .inr (.inr (.inl (some 259)))]) (by with_unfolding_all rfl) ?_
  rw [← Int32.ofNat_add]
  refine kL_sc hF hnc hns (j := i + 2) rfl (by omega) (by omega) ?_
  refine kL_go hF 4 (pc' := 343) (L' := [(3, .inl (Int32.ofNat i)), (2, .inr (.inr (.inl (some 259)))), (1, .inr (.inr (.inl (some 0)))), (0, .inr (.inr (.inr 0)))]) (S' := [.inl ((Int32.ofNat i) + (Int32.ofNat 3)), .inr (.inr (.inr 0)), .inl (kc_gs g (i + 2)), .inl (kc_gs g (i + 1)), .inr (.inr (.inl (some 259)))]) (by with_unfolding_all rfl) ?_
  rw [← Int32.ofNat_add]
  refine kL_sc hF hnc hns (j := i + 3) rfl (by omega) (by omega) ?_
  refine kL_call hF hnc hns (M2 := wk_m34) (av := [.inr (.inr (.inl (some 259))), .inl (kc_gs g (i + 1)), .inl (kc_gs g (i + 2)), .inl (kc_gs g (i + 3))]) (r := []) rfl rfl (kc_Con_le (hq) (by decide)) (fun rv h2 hq2 => ?_)
  obtain ⟨rfl, hI2⟩ := hq2
  have hzz : ∃ z2, z2 = z := ⟨z, rfl⟩
  obtain ⟨z2, rfl⟩ := hzz
  show kL_Ev g wk_mL p e R s m args below meth c as 289 10466 Z 347 [(3, .inl (Int32.ofNat i)), (2, .inr (.inr (.inl (some 259)))), (1, .inr (.inr (.inl (some 0)))), (0, .inr (.inr (.inr 0)))] [.inl z2] h2
  refine kL_go hF 2 (pc' := 1207) (L' := [(3, .inl (Int32.ofNat i)), (2, .inr (.inr (.inl (some 259)))), (1, .inr (.inr (.inl (some 0)))), (0, .inr (.inr (.inr 0)))]) (S' := []) (by with_unfolding_all rfl) ?_
  exact kL_next hg hF hnc hns hL hi hI2 hK
set_option maxRecDepth 20000 in
theorem kL_5 {g : kc_G} {p : Program} {e : Env} {R : Room} {s : State} {m : MethodId} {args : Array Value} {below : List Frame} {meth : Method} {c : Code} {as : List Nat} {Z : State → Prop} {h : kc_H} {i : Nat} (hg : kc_ok g) (hF : kc_fix g 40 wk_mL p R s m args meth c) (hnc : 289 ≤ R.cells) (hns : 10466 ≤ R.slots) (hL : kc_gL g < 2147483000) (hi : i + 5 ≤ kc_gL g) (hI : fu_I h) (hK : ∀ h', fu_I h' → kL_Ev g wk_mL p e R s m args below meth c as 289 10466 Z 18 [(3, .inl (Int32.ofNat (i + 5))), (2, .inr (.inr (.inl (some 259)))), (1, .inr (.inr (.inl (some 0)))), (0, .inr (.inr (.inr 0)))] [] h') : kL_Ev g wk_mL p e R s m args below meth c as 289 10466 Z 351 [(3, .inl (Int32.ofNat i)), (2, .inr (.inr (.inl (some 259)))), (1, .inr (.inr (.inl (some 0)))), (0, .inr (.inr (.inr 0)))] [] h := by
  refine kL_go hF 5 (pc' := 356) (L' := [(3, .inl (Int32.ofNat i)), (2, .inr (.inr (.inl (some 259)))), (1, .inr (.inr (.inl (some 0)))), (0, .inr (.inr (.inr 0)))]) (S' := [.inl ((Int32.ofNat i) + (Int32.ofNat 1)), .inr (.inr (.inr 0)), .inr (.inr (.inl (some 0)))]) (by with_unfolding_all rfl) ?_
  rw [← Int32.ofNat_add]
  refine kL_sc hF hnc hns (j := i + 1) rfl (by omega) (by omega) ?_
  refine kL_go hF 4 (pc' := 361) (L' := [(3, .inl (Int32.ofNat i)), (2, .inr (.inr (.inl (some 259)))), (1, .inr (.inr (.inl (some 0)))), (0, .inr (.inr (.inr 0)))]) (S' := [.inl ((Int32.ofNat i) + (Int32.ofNat 2)), .inr (.inr (.inr 0)), .inl (kc_gs g (i + 1)), .inr (.inr (.inl (some 0)))]) (by with_unfolding_all rfl) ?_
  rw [← Int32.ofNat_add]
  refine kL_sc hF hnc hns (j := i + 2) rfl (by omega) (by omega) ?_
  refine kL_go hF 4 (pc' := 366) (L' := [(3, .inl (Int32.ofNat i)), (2, .inr (.inr (.inl (some 259)))), (1, .inr (.inr (.inl (some 0)))), (0, .inr (.inr (.inr 0)))]) (S' := [.inl ((Int32.ofNat i) + (Int32.ofNat 3)), .inr (.inr (.inr 0)), .inl (kc_gs g (i + 2)), .inl (kc_gs g (i + 1)), .inr (.inr (.inl (some 0)))]) (by with_unfolding_all rfl) ?_
  rw [← Int32.ofNat_add]
  refine kL_sc hF hnc hns (j := i + 3) rfl (by omega) (by omega) ?_
  refine kL_call hF hnc hns (M2 := wk_m35) (av := [.inr (.inr (.inl (some 0))), .inl (kc_gs g (i + 1)), .inl (kc_gs g (i + 2)), .inl (kc_gs g (i + 3))]) (r := []) rfl rfl (kc_Con_le (fU_Xlame hg hI) (by decide)) (fun rv h1 hq => ?_)
  obtain ⟨z, rfl, hq⟩ := hq
  show kL_Ev g wk_mL p e R s m args below meth c as 289 10466 Z 370 [(3, .inl (Int32.ofNat i)), (2, .inr (.inr (.inl (some 259)))), (1, .inr (.inr (.inl (some 0)))), (0, .inr (.inr (.inr 0)))] [.inl z] h1
  refine kL_go hF 6 (pc' := 376) (L' := [(3, .inl (Int32.ofNat i)), (2, .inr (.inr (.inl (some 259)))), (1, .inr (.inr (.inl (some 0)))), (0, .inr (.inr (.inr 0)))]) (S' := [.inl ((Int32.ofNat i) + (Int32.ofNat 1)), .inr (.inr (.inr 0)), .inr (.inr (.inl (some 259)))]) (by with_unfolding_all rfl) ?_
  rw [← Int32.ofNat_add]
  refine kL_sc hF hnc hns (j := i + 1) rfl (by omega) (by omega) ?_
  refine kL_go hF 4 (pc' := 381) (L' := [(3, .inl (Int32.ofNat i)), (2, .inr (.inr (.inl (some 259)))), (1, .inr (.inr (.inl (some 0)))), (0, .inr (.inr (.inr 0)))]) (S' := [.inl ((Int32.ofNat i) + (Int32.ofNat 2)), .inr (.inr (.inr 0)), .inl (kc_gs g (i + 1)), .inr (.inr (.inl (some 259)))]) (by with_unfolding_all rfl) ?_
  rw [← Int32.ofNat_add]
  refine kL_sc hF hnc hns (j := i + 2) rfl (by omega) (by omega) ?_
  refine kL_go hF 4 (pc' := 386) (L' := [(3, .inl (Int32.ofNat i)), (2, .inr (.inr (.inl (some 259)))), (1, .inr (.inr (.inl (some 0)))), (0, .inr (.inr (.inr 0)))]) (S' := [.inl ((Int32.ofNat i) + (Int32.ofNat 3)), .inr (.inr (.inr 0)), .inl (kc_gs g (i + 2)), .inl (kc_gs g (i + 1)), .inr (.inr (.inl (some 259)))]) (by with_unfolding_all rfl) ?_
  rw [← Int32.ofNat_add]
  refine kL_sc hF hnc hns (j := i + 3) rfl (by omega) (by omega) ?_
  refine kL_call hF hnc hns (M2 := wk_m39) (av := [.inr (.inr (.inl (some 259))), .inl (kc_gs g (i + 1)), .inl (kc_gs g (i + 2)), .inl (kc_gs g (i + 3))]) (r := []) rfl rfl (kc_Con_le (hq) (by decide)) (fun rv h2 hq2 => ?_)
  obtain ⟨rfl, hI2⟩ := hq2
  have hzz : ∃ z2, z2 = z := ⟨z, rfl⟩
  obtain ⟨z2, rfl⟩ := hzz
  show kL_Ev g wk_mL p e R s m args below meth c as 289 10466 Z 390 [(3, .inl (Int32.ofNat i)), (2, .inr (.inr (.inl (some 259)))), (1, .inr (.inr (.inl (some 0)))), (0, .inr (.inr (.inr 0)))] [.inl z2] h2
  refine kL_go hF 2 (pc' := 1207) (L' := [(3, .inl (Int32.ofNat i)), (2, .inr (.inr (.inl (some 259)))), (1, .inr (.inr (.inl (some 0)))), (0, .inr (.inr (.inr 0)))]) (S' := []) (by with_unfolding_all rfl) ?_
  exact kL_next hg hF hnc hns hL hi hI2 hK
set_option maxRecDepth 20000 in
theorem kL_6 {g : kc_G} {p : Program} {e : Env} {R : Room} {s : State} {m : MethodId} {args : Array Value} {below : List Frame} {meth : Method} {c : Code} {as : List Nat} {Z : State → Prop} {h : kc_H} {i : Nat} (hg : kc_ok g) (hF : kc_fix g 40 wk_mL p R s m args meth c) (hnc : 289 ≤ R.cells) (hns : 10466 ≤ R.slots) (hL : kc_gL g < 2147483000) (hi : i + 5 ≤ kc_gL g) (hI : fu_I h) (hK : ∀ h', fu_I h' → kL_Ev g wk_mL p e R s m args below meth c as 289 10466 Z 18 [(3, .inl (Int32.ofNat (i + 5))), (2, .inr (.inr (.inl (some 259)))), (1, .inr (.inr (.inl (some 0)))), (0, .inr (.inr (.inr 0)))] [] h') : kL_Ev g wk_mL p e R s m args below meth c as 289 10466 Z 394 [(3, .inl (Int32.ofNat i)), (2, .inr (.inr (.inl (some 259)))), (1, .inr (.inr (.inl (some 0)))), (0, .inr (.inr (.inr 0)))] [] h := by
  refine kL_go hF 5 (pc' := 399) (L' := [(3, .inl (Int32.ofNat i)), (2, .inr (.inr (.inl (some 259)))), (1, .inr (.inr (.inl (some 0)))), (0, .inr (.inr (.inr 0)))]) (S' := [.inl ((Int32.ofNat i) + (Int32.ofNat 1)), .inr (.inr (.inr 0)), .inr (.inr (.inl (some 0)))]) (by with_unfolding_all rfl) ?_
  rw [← Int32.ofNat_add]
  refine kL_sc hF hnc hns (j := i + 1) rfl (by omega) (by omega) ?_
  refine kL_go hF 4 (pc' := 404) (L' := [(3, .inl (Int32.ofNat i)), (2, .inr (.inr (.inl (some 259)))), (1, .inr (.inr (.inl (some 0)))), (0, .inr (.inr (.inr 0)))]) (S' := [.inl ((Int32.ofNat i) + (Int32.ofNat 2)), .inr (.inr (.inr 0)), .inl (kc_gs g (i + 1)), .inr (.inr (.inl (some 0)))]) (by with_unfolding_all rfl) ?_
  rw [← Int32.ofNat_add]
  refine kL_sc hF hnc hns (j := i + 2) rfl (by omega) (by omega) ?_
  refine kL_go hF 4 (pc' := 409) (L' := [(3, .inl (Int32.ofNat i)), (2, .inr (.inr (.inl (some 259)))), (1, .inr (.inr (.inl (some 0)))), (0, .inr (.inr (.inr 0)))]) (S' := [.inl ((Int32.ofNat i) + (Int32.ofNat 3)), .inr (.inr (.inr 0)), .inl (kc_gs g (i + 2)), .inl (kc_gs g (i + 1)), .inr (.inr (.inl (some 0)))]) (by with_unfolding_all rfl) ?_
  rw [← Int32.ofNat_add]
  refine kL_sc hF hnc hns (j := i + 3) rfl (by omega) (by omega) ?_
  refine kL_go hF 4 (pc' := 414) (L' := [(3, .inl (Int32.ofNat i)), (2, .inr (.inr (.inl (some 259)))), (1, .inr (.inr (.inl (some 0)))), (0, .inr (.inr (.inr 0)))]) (S' := [.inl ((Int32.ofNat i) + (Int32.ofNat 4)), .inr (.inr (.inr 0)), .inl (kc_gs g (i + 3)), .inl (kc_gs g (i + 2)), .inl (kc_gs g (i + 1)), .inr (.inr (.inl (some 0)))]) (by with_unfolding_all rfl) ?_
  rw [← Int32.ofNat_add]
  refine kL_sc hF hnc hns (j := i + 4) rfl (by omega) (by omega) ?_
  refine kL_call hF hnc hns (M2 := wk_m41) (av := [.inr (.inr (.inl (some 0))), .inl (kc_gs g (i + 1)), .inl (kc_gs g (i + 2)), .inl (kc_gs g (i + 3)), .inl (kc_gs g (i + 4))]) (r := []) rfl rfl (kc_Con_le (fU_Xload hg hI) (by decide)) (fun rv h1 hq => ?_)
  obtain ⟨z, rfl, hq⟩ := hq
  show kL_Ev g wk_mL p e R s m args below meth c as 289 10466 Z 418 [(3, .inl (Int32.ofNat i)), (2, .inr (.inr (.inl (some 259)))), (1, .inr (.inr (.inl (some 0)))), (0, .inr (.inr (.inr 0)))] [.inl z] h1
  refine kL_go hF 6 (pc' := 424) (L' := [(3, .inl (Int32.ofNat i)), (2, .inr (.inr (.inl (some 259)))), (1, .inr (.inr (.inl (some 0)))), (0, .inr (.inr (.inr 0)))]) (S' := [.inl ((Int32.ofNat i) + (Int32.ofNat 1)), .inr (.inr (.inr 0)), .inr (.inr (.inl (some 259)))]) (by with_unfolding_all rfl) ?_
  rw [← Int32.ofNat_add]
  refine kL_sc hF hnc hns (j := i + 1) rfl (by omega) (by omega) ?_
  refine kL_go hF 4 (pc' := 429) (L' := [(3, .inl (Int32.ofNat i)), (2, .inr (.inr (.inl (some 259)))), (1, .inr (.inr (.inl (some 0)))), (0, .inr (.inr (.inr 0)))]) (S' := [.inl ((Int32.ofNat i) + (Int32.ofNat 2)), .inr (.inr (.inr 0)), .inl (kc_gs g (i + 1)), .inr (.inr (.inl (some 259)))]) (by with_unfolding_all rfl) ?_
  rw [← Int32.ofNat_add]
  refine kL_sc hF hnc hns (j := i + 2) rfl (by omega) (by omega) ?_
  refine kL_go hF 4 (pc' := 434) (L' := [(3, .inl (Int32.ofNat i)), (2, .inr (.inr (.inl (some 259)))), (1, .inr (.inr (.inl (some 0)))), (0, .inr (.inr (.inr 0)))]) (S' := [.inl ((Int32.ofNat i) + (Int32.ofNat 3)), .inr (.inr (.inr 0)), .inl (kc_gs g (i + 2)), .inl (kc_gs g (i + 1)), .inr (.inr (.inl (some 259)))]) (by with_unfolding_all rfl) ?_
  rw [← Int32.ofNat_add]
  refine kL_sc hF hnc hns (j := i + 3) rfl (by omega) (by omega) ?_
  refine kL_go hF 4 (pc' := 439) (L' := [(3, .inl (Int32.ofNat i)), (2, .inr (.inr (.inl (some 259)))), (1, .inr (.inr (.inl (some 0)))), (0, .inr (.inr (.inr 0)))]) (S' := [.inl ((Int32.ofNat i) + (Int32.ofNat 4)), .inr (.inr (.inr 0)), .inl (kc_gs g (i + 3)), .inl (kc_gs g (i + 2)), .inl (kc_gs g (i + 1)), .inr (.inr (.inl (some 259)))]) (by with_unfolding_all rfl) ?_
  rw [← Int32.ofNat_add]
  refine kL_sc hF hnc hns (j := i + 4) rfl (by omega) (by omega) ?_
  refine kL_call hF hnc hns (M2 := wk_m43) (av := [.inr (.inr (.inl (some 259))), .inl (kc_gs g (i + 1)), .inl (kc_gs g (i + 2)), .inl (kc_gs g (i + 3)), .inl (kc_gs g (i + 4))]) (r := []) rfl rfl (kc_Con_le (hq) (by decide)) (fun rv h2 hq2 => ?_)
  obtain ⟨rfl, hI2⟩ := hq2
  have hzz : ∃ z2, z2 = z := ⟨z, rfl⟩
  obtain ⟨z2, rfl⟩ := hzz
  show kL_Ev g wk_mL p e R s m args below meth c as 289 10466 Z 443 [(3, .inl (Int32.ofNat i)), (2, .inr (.inr (.inl (some 259)))), (1, .inr (.inr (.inl (some 0)))), (0, .inr (.inr (.inr 0)))] [.inl z2] h2
  refine kL_go hF 2 (pc' := 1207) (L' := [(3, .inl (Int32.ofNat i)), (2, .inr (.inr (.inl (some 259)))), (1, .inr (.inr (.inl (some 0)))), (0, .inr (.inr (.inr 0)))]) (S' := []) (by with_unfolding_all rfl) ?_
  exact kL_next hg hF hnc hns hL hi hI2 hK
set_option maxRecDepth 20000 in
theorem kL_7 {g : kc_G} {p : Program} {e : Env} {R : Room} {s : State} {m : MethodId} {args : Array Value} {below : List Frame} {meth : Method} {c : Code} {as : List Nat} {Z : State → Prop} {h : kc_H} {i : Nat} (hg : kc_ok g) (hF : kc_fix g 40 wk_mL p R s m args meth c) (hnc : 289 ≤ R.cells) (hns : 10466 ≤ R.slots) (hL : kc_gL g < 2147483000) (hi : i + 5 ≤ kc_gL g) (hI : fu_I h) (hK : ∀ h', fu_I h' → kL_Ev g wk_mL p e R s m args below meth c as 289 10466 Z 18 [(3, .inl (Int32.ofNat (i + 5))), (2, .inr (.inr (.inl (some 259)))), (1, .inr (.inr (.inl (some 0)))), (0, .inr (.inr (.inr 0)))] [] h') : kL_Ev g wk_mL p e R s m args below meth c as 289 10466 Z 447 [(3, .inl (Int32.ofNat i)), (2, .inr (.inr (.inl (some 259)))), (1, .inr (.inr (.inl (some 0)))), (0, .inr (.inr (.inr 0)))] [] h := by
  refine kL_go hF 5 (pc' := 452) (L' := [(3, .inl (Int32.ofNat i)), (2, .inr (.inr (.inl (some 259)))), (1, .inr (.inr (.inl (some 0)))), (0, .inr (.inr (.inr 0)))]) (S' := [.inl ((Int32.ofNat i) + (Int32.ofNat 1)), .inr (.inr (.inr 0)), .inr (.inr (.inl (some 0)))]) (by with_unfolding_all rfl) ?_
  rw [← Int32.ofNat_add]
  refine kL_sc hF hnc hns (j := i + 1) rfl (by omega) (by omega) ?_
  refine kL_go hF 4 (pc' := 457) (L' := [(3, .inl (Int32.ofNat i)), (2, .inr (.inr (.inl (some 259)))), (1, .inr (.inr (.inl (some 0)))), (0, .inr (.inr (.inr 0)))]) (S' := [.inl ((Int32.ofNat i) + (Int32.ofNat 2)), .inr (.inr (.inr 0)), .inl (kc_gs g (i + 1)), .inr (.inr (.inl (some 0)))]) (by with_unfolding_all rfl) ?_
  rw [← Int32.ofNat_add]
  refine kL_sc hF hnc hns (j := i + 2) rfl (by omega) (by omega) ?_
  refine kL_call hF hnc hns (M2 := wk_m44) (av := [.inr (.inr (.inl (some 0))), .inl (kc_gs g (i + 1)), .inl (kc_gs g (i + 2))]) (r := []) rfl rfl (kc_Con_le (fU_Xask hg hI) (by decide)) (fun rv h1 hq => ?_)
  obtain ⟨z, rfl, hq⟩ := hq
  show kL_Ev g wk_mL p e R s m args below meth c as 289 10466 Z 461 [(3, .inl (Int32.ofNat i)), (2, .inr (.inr (.inl (some 259)))), (1, .inr (.inr (.inl (some 0)))), (0, .inr (.inr (.inr 0)))] [.inl z] h1
  refine kL_go hF 6 (pc' := 467) (L' := [(3, .inl (Int32.ofNat i)), (2, .inr (.inr (.inl (some 259)))), (1, .inr (.inr (.inl (some 0)))), (0, .inr (.inr (.inr 0)))]) (S' := [.inl ((Int32.ofNat i) + (Int32.ofNat 1)), .inr (.inr (.inr 0)), .inr (.inr (.inl (some 259)))]) (by with_unfolding_all rfl) ?_
  rw [← Int32.ofNat_add]
  refine kL_sc hF hnc hns (j := i + 1) rfl (by omega) (by omega) ?_
  refine kL_go hF 4 (pc' := 472) (L' := [(3, .inl (Int32.ofNat i)), (2, .inr (.inr (.inl (some 259)))), (1, .inr (.inr (.inl (some 0)))), (0, .inr (.inr (.inr 0)))]) (S' := [.inl ((Int32.ofNat i) + (Int32.ofNat 2)), .inr (.inr (.inr 0)), .inl (kc_gs g (i + 1)), .inr (.inr (.inl (some 259)))]) (by with_unfolding_all rfl) ?_
  rw [← Int32.ofNat_add]
  refine kL_sc hF hnc hns (j := i + 2) rfl (by omega) (by omega) ?_
  refine kL_call hF hnc hns (M2 := wk_m47) (av := [.inr (.inr (.inl (some 259))), .inl (kc_gs g (i + 1)), .inl (kc_gs g (i + 2))]) (r := []) rfl rfl (kc_Con_le (hq) (by decide)) (fun rv h2 hq2 => ?_)
  obtain ⟨rfl, hI2⟩ := hq2
  have hzz : ∃ z2, z2 = z := ⟨z, rfl⟩
  obtain ⟨z2, rfl⟩ := hzz
  show kL_Ev g wk_mL p e R s m args below meth c as 289 10466 Z 476 [(3, .inl (Int32.ofNat i)), (2, .inr (.inr (.inl (some 259)))), (1, .inr (.inr (.inl (some 0)))), (0, .inr (.inr (.inr 0)))] [.inl z2] h2
  refine kL_go hF 2 (pc' := 1207) (L' := [(3, .inl (Int32.ofNat i)), (2, .inr (.inr (.inl (some 259)))), (1, .inr (.inr (.inl (some 0)))), (0, .inr (.inr (.inr 0)))]) (S' := []) (by with_unfolding_all rfl) ?_
  exact kL_next hg hF hnc hns hL hi hI2 hK
set_option maxRecDepth 20000 in
theorem kL_8 {g : kc_G} {p : Program} {e : Env} {R : Room} {s : State} {m : MethodId} {args : Array Value} {below : List Frame} {meth : Method} {c : Code} {as : List Nat} {Z : State → Prop} {h : kc_H} {i : Nat} (hg : kc_ok g) (hF : kc_fix g 40 wk_mL p R s m args meth c) (hnc : 289 ≤ R.cells) (hns : 10466 ≤ R.slots) (hL : kc_gL g < 2147483000) (hi : i + 5 ≤ kc_gL g) (hI : fu_I h) (hK : ∀ h', fu_I h' → kL_Ev g wk_mL p e R s m args below meth c as 289 10466 Z 18 [(3, .inl (Int32.ofNat (i + 5))), (2, .inr (.inr (.inl (some 259)))), (1, .inr (.inr (.inl (some 0)))), (0, .inr (.inr (.inr 0)))] [] h') : kL_Ev g wk_mL p e R s m args below meth c as 289 10466 Z 480 [(3, .inl (Int32.ofNat i)), (2, .inr (.inr (.inl (some 259)))), (1, .inr (.inr (.inl (some 0)))), (0, .inr (.inr (.inr 0)))] [] h := by
  refine kL_go hF 5 (pc' := 485) (L' := [(3, .inl (Int32.ofNat i)), (2, .inr (.inr (.inl (some 259)))), (1, .inr (.inr (.inl (some 0)))), (0, .inr (.inr (.inr 0)))]) (S' := [.inl ((Int32.ofNat i) + (Int32.ofNat 1)), .inr (.inr (.inr 0)), .inr (.inr (.inl (some 0)))]) (by with_unfolding_all rfl) ?_
  rw [← Int32.ofNat_add]
  refine kL_sc hF hnc hns (j := i + 1) rfl (by omega) (by omega) ?_
  refine kL_go hF 4 (pc' := 490) (L' := [(3, .inl (Int32.ofNat i)), (2, .inr (.inr (.inl (some 259)))), (1, .inr (.inr (.inl (some 0)))), (0, .inr (.inr (.inr 0)))]) (S' := [.inl ((Int32.ofNat i) + (Int32.ofNat 2)), .inr (.inr (.inr 0)), .inl (kc_gs g (i + 1)), .inr (.inr (.inl (some 0)))]) (by with_unfolding_all rfl) ?_
  rw [← Int32.ofNat_add]
  refine kL_sc hF hnc hns (j := i + 2) rfl (by omega) (by omega) ?_
  refine kL_call hF hnc hns (M2 := wk_m49) (av := [.inr (.inr (.inl (some 0))), .inl (kc_gs g (i + 1)), .inl (kc_gs g (i + 2))]) (r := []) rfl rfl (kc_Con_le (fU_Xdrain hg hI) (by decide)) (fun rv h1 hq => ?_)
  obtain ⟨z, rfl, hq⟩ := hq
  show kL_Ev g wk_mL p e R s m args below meth c as 289 10466 Z 494 [(3, .inl (Int32.ofNat i)), (2, .inr (.inr (.inl (some 259)))), (1, .inr (.inr (.inl (some 0)))), (0, .inr (.inr (.inr 0)))] [.inl z] h1
  refine kL_go hF 6 (pc' := 500) (L' := [(3, .inl (Int32.ofNat i)), (2, .inr (.inr (.inl (some 259)))), (1, .inr (.inr (.inl (some 0)))), (0, .inr (.inr (.inr 0)))]) (S' := [.inl ((Int32.ofNat i) + (Int32.ofNat 1)), .inr (.inr (.inr 0)), .inr (.inr (.inl (some 259)))]) (by with_unfolding_all rfl) ?_
  rw [← Int32.ofNat_add]
  refine kL_sc hF hnc hns (j := i + 1) rfl (by omega) (by omega) ?_
  refine kL_go hF 4 (pc' := 505) (L' := [(3, .inl (Int32.ofNat i)), (2, .inr (.inr (.inl (some 259)))), (1, .inr (.inr (.inl (some 0)))), (0, .inr (.inr (.inr 0)))]) (S' := [.inl ((Int32.ofNat i) + (Int32.ofNat 2)), .inr (.inr (.inr 0)), .inl (kc_gs g (i + 1)), .inr (.inr (.inl (some 259)))]) (by with_unfolding_all rfl) ?_
  rw [← Int32.ofNat_add]
  refine kL_sc hF hnc hns (j := i + 2) rfl (by omega) (by omega) ?_
  refine kL_call hF hnc hns (M2 := wk_m50) (av := [.inr (.inr (.inl (some 259))), .inl (kc_gs g (i + 1)), .inl (kc_gs g (i + 2))]) (r := []) rfl rfl (kc_Con_le (hq) (by decide)) (fun rv h2 hq2 => ?_)
  obtain ⟨rfl, hI2⟩ := hq2
  have hzz : ∃ z2, z2 = z := ⟨z, rfl⟩
  obtain ⟨z2, rfl⟩ := hzz
  show kL_Ev g wk_mL p e R s m args below meth c as 289 10466 Z 509 [(3, .inl (Int32.ofNat i)), (2, .inr (.inr (.inl (some 259)))), (1, .inr (.inr (.inl (some 0)))), (0, .inr (.inr (.inr 0)))] [.inl z2] h2
  refine kL_go hF 2 (pc' := 1207) (L' := [(3, .inl (Int32.ofNat i)), (2, .inr (.inr (.inl (some 259)))), (1, .inr (.inr (.inl (some 0)))), (0, .inr (.inr (.inr 0)))]) (S' := []) (by with_unfolding_all rfl) ?_
  exact kL_next hg hF hnc hns hL hi hI2 hK
set_option maxRecDepth 20000 in
theorem kL_9 {g : kc_G} {p : Program} {e : Env} {R : Room} {s : State} {m : MethodId} {args : Array Value} {below : List Frame} {meth : Method} {c : Code} {as : List Nat} {Z : State → Prop} {h : kc_H} {i : Nat} (hg : kc_ok g) (hF : kc_fix g 40 wk_mL p R s m args meth c) (hnc : 289 ≤ R.cells) (hns : 10466 ≤ R.slots) (hL : kc_gL g < 2147483000) (hi : i + 5 ≤ kc_gL g) (hI : fu_I h) (hK : ∀ h', fu_I h' → kL_Ev g wk_mL p e R s m args below meth c as 289 10466 Z 18 [(3, .inl (Int32.ofNat (i + 5))), (2, .inr (.inr (.inl (some 259)))), (1, .inr (.inr (.inl (some 0)))), (0, .inr (.inr (.inr 0)))] [] h') : kL_Ev g wk_mL p e R s m args below meth c as 289 10466 Z 513 [(3, .inl (Int32.ofNat i)), (2, .inr (.inr (.inl (some 259)))), (1, .inr (.inr (.inl (some 0)))), (0, .inr (.inr (.inr 0)))] [] h := by
  refine kL_go hF 5 (pc' := 518) (L' := [(3, .inl (Int32.ofNat i)), (2, .inr (.inr (.inl (some 259)))), (1, .inr (.inr (.inl (some 0)))), (0, .inr (.inr (.inr 0)))]) (S' := [.inl ((Int32.ofNat i) + (Int32.ofNat 1)), .inr (.inr (.inr 0)), .inr (.inr (.inl (some 0)))]) (by with_unfolding_all rfl) ?_
  rw [← Int32.ofNat_add]
  refine kL_sc hF hnc hns (j := i + 1) rfl (by omega) (by omega) ?_
  refine kL_go hF 4 (pc' := 523) (L' := [(3, .inl (Int32.ofNat i)), (2, .inr (.inr (.inl (some 259)))), (1, .inr (.inr (.inl (some 0)))), (0, .inr (.inr (.inr 0)))]) (S' := [.inl ((Int32.ofNat i) + (Int32.ofNat 2)), .inr (.inr (.inr 0)), .inl (kc_gs g (i + 1)), .inr (.inr (.inl (some 0)))]) (by with_unfolding_all rfl) ?_
  rw [← Int32.ofNat_add]
  refine kL_sc hF hnc hns (j := i + 2) rfl (by omega) (by omega) ?_
  refine kL_call hF hnc hns (M2 := wk_m51) (av := [.inr (.inr (.inl (some 0))), .inl (kc_gs g (i + 1)), .inl (kc_gs g (i + 2))]) (r := []) rfl rfl (kc_Con_le (fU_Xput hg hI) (by decide)) (fun rv h1 hq => ?_)
  obtain ⟨z, rfl, hq⟩ := hq
  show kL_Ev g wk_mL p e R s m args below meth c as 289 10466 Z 527 [(3, .inl (Int32.ofNat i)), (2, .inr (.inr (.inl (some 259)))), (1, .inr (.inr (.inl (some 0)))), (0, .inr (.inr (.inr 0)))] [.inl z] h1
  refine kL_go hF 6 (pc' := 533) (L' := [(3, .inl (Int32.ofNat i)), (2, .inr (.inr (.inl (some 259)))), (1, .inr (.inr (.inl (some 0)))), (0, .inr (.inr (.inr 0)))]) (S' := [.inl ((Int32.ofNat i) + (Int32.ofNat 1)), .inr (.inr (.inr 0)), .inr (.inr (.inl (some 259)))]) (by with_unfolding_all rfl) ?_
  rw [← Int32.ofNat_add]
  refine kL_sc hF hnc hns (j := i + 1) rfl (by omega) (by omega) ?_
  refine kL_go hF 4 (pc' := 538) (L' := [(3, .inl (Int32.ofNat i)), (2, .inr (.inr (.inl (some 259)))), (1, .inr (.inr (.inl (some 0)))), (0, .inr (.inr (.inr 0)))]) (S' := [.inl ((Int32.ofNat i) + (Int32.ofNat 2)), .inr (.inr (.inr 0)), .inl (kc_gs g (i + 1)), .inr (.inr (.inl (some 259)))]) (by with_unfolding_all rfl) ?_
  rw [← Int32.ofNat_add]
  refine kL_sc hF hnc hns (j := i + 2) rfl (by omega) (by omega) ?_
  refine kL_call hF hnc hns (M2 := wk_m53) (av := [.inr (.inr (.inl (some 259))), .inl (kc_gs g (i + 1)), .inl (kc_gs g (i + 2))]) (r := []) rfl rfl (kc_Con_le (hq) (by decide)) (fun rv h2 hq2 => ?_)
  obtain ⟨rfl, hI2⟩ := hq2
  have hzz : ∃ z2, z2 = z := ⟨z, rfl⟩
  obtain ⟨z2, rfl⟩ := hzz
  show kL_Ev g wk_mL p e R s m args below meth c as 289 10466 Z 542 [(3, .inl (Int32.ofNat i)), (2, .inr (.inr (.inl (some 259)))), (1, .inr (.inr (.inl (some 0)))), (0, .inr (.inr (.inr 0)))] [.inl z2] h2
  refine kL_go hF 2 (pc' := 1207) (L' := [(3, .inl (Int32.ofNat i)), (2, .inr (.inr (.inl (some 259)))), (1, .inr (.inr (.inl (some 0)))), (0, .inr (.inr (.inr 0)))]) (S' := []) (by with_unfolding_all rfl) ?_
  exact kL_next hg hF hnc hns hL hi hI2 hK
set_option maxRecDepth 20000 in
theorem kL_10 {g : kc_G} {p : Program} {e : Env} {R : Room} {s : State} {m : MethodId} {args : Array Value} {below : List Frame} {meth : Method} {c : Code} {as : List Nat} {Z : State → Prop} {h : kc_H} {i : Nat} (hg : kc_ok g) (hF : kc_fix g 40 wk_mL p R s m args meth c) (hnc : 289 ≤ R.cells) (hns : 10466 ≤ R.slots) (hL : kc_gL g < 2147483000) (hi : i + 5 ≤ kc_gL g) (hI : fu_I h) (hK : ∀ h', fu_I h' → kL_Ev g wk_mL p e R s m args below meth c as 289 10466 Z 18 [(3, .inl (Int32.ofNat (i + 5))), (2, .inr (.inr (.inl (some 259)))), (1, .inr (.inr (.inl (some 0)))), (0, .inr (.inr (.inr 0)))] [] h') : kL_Ev g wk_mL p e R s m args below meth c as 289 10466 Z 546 [(3, .inl (Int32.ofNat i)), (2, .inr (.inr (.inl (some 259)))), (1, .inr (.inr (.inl (some 0)))), (0, .inr (.inr (.inr 0)))] [] h := by
  refine kL_go hF 5 (pc' := 551) (L' := [(3, .inl (Int32.ofNat i)), (2, .inr (.inr (.inl (some 259)))), (1, .inr (.inr (.inl (some 0)))), (0, .inr (.inr (.inr 0)))]) (S' := [.inl ((Int32.ofNat i) + (Int32.ofNat 1)), .inr (.inr (.inr 0)), .inr (.inr (.inl (some 0)))]) (by with_unfolding_all rfl) ?_
  rw [← Int32.ofNat_add]
  refine kL_sc hF hnc hns (j := i + 1) rfl (by omega) (by omega) ?_
  refine kL_go hF 4 (pc' := 556) (L' := [(3, .inl (Int32.ofNat i)), (2, .inr (.inr (.inl (some 259)))), (1, .inr (.inr (.inl (some 0)))), (0, .inr (.inr (.inr 0)))]) (S' := [.inl ((Int32.ofNat i) + (Int32.ofNat 2)), .inr (.inr (.inr 0)), .inl (kc_gs g (i + 1)), .inr (.inr (.inl (some 0)))]) (by with_unfolding_all rfl) ?_
  rw [← Int32.ofNat_add]
  refine kL_sc hF hnc hns (j := i + 2) rfl (by omega) (by omega) ?_
  refine kL_go hF 7 (pc' := 565) (L' := [(3, .inl (Int32.ofNat i)), (2, .inr (.inr (.inl (some 259)))), (1, .inr (.inr (.inl (some 0)))), (0, .inr (.inr (.inr 0)))]) (S' := [.inl ((Int32.ofNat i) + (Int32.ofNat 3)), .inr (.inr (.inr 0)), .inr (.inl (((kc_gs g (i + 2)).toInt64) <<< ((Int32.ofNat 32).toInt64 &&& 63))), .inl (kc_gs g (i + 1)), .inr (.inr (.inl (some 0)))]) (by with_unfolding_all rfl) ?_
  rw [← Int32.ofNat_add]
  refine kL_sc hF hnc hns (j := i + 3) rfl (by omega) (by omega) ?_
  refine kL_go hF 8 (pc' := 576) (L' := [(3, .inl (Int32.ofNat i)), (2, .inr (.inr (.inl (some 259)))), (1, .inr (.inr (.inl (some 0)))), (0, .inr (.inr (.inr 0)))]) (S' := [.inl ((Int32.ofNat i) + (Int32.ofNat 4)), .inr (.inr (.inr 0)), .inr (.inl ((((kc_gs g (i + 2)).toInt64) <<< ((Int32.ofNat 32).toInt64 &&& 63)) ||| (((kc_gs g (i + 3)).toInt64) &&& (Int64.ofNat 4294967295)))), .inl (kc_gs g (i + 1)), .inr (.inr (.inl (some 0)))]) (by with_unfolding_all rfl) ?_
  rw [← Int32.ofNat_add]
  refine kL_sc hF hnc hns (j := i + 4) rfl (by omega) (by omega) ?_
  refine kL_call hF hnc hns (M2 := wk_m54) (av := [.inr (.inr (.inl (some 0))), .inl (kc_gs g (i + 1)), .inr (.inl ((((kc_gs g (i + 2)).toInt64) <<< ((Int32.ofNat 32).toInt64 &&& 63)) ||| (((kc_gs g (i + 3)).toInt64) &&& (Int64.ofNat 4294967295)))), .inl (kc_gs g (i + 4))]) (r := []) rfl rfl (kc_Con_le (fU_Xtype hg hI) (by decide)) (fun rv h1 hq => ?_)
  obtain ⟨z, rfl, hq⟩ := hq
  show kL_Ev g wk_mL p e R s m args below meth c as 289 10466 Z 580 [(3, .inl (Int32.ofNat i)), (2, .inr (.inr (.inl (some 259)))), (1, .inr (.inr (.inl (some 0)))), (0, .inr (.inr (.inr 0)))] [.inl z] h1
  refine kL_go hF 6 (pc' := 586) (L' := [(3, .inl (Int32.ofNat i)), (2, .inr (.inr (.inl (some 259)))), (1, .inr (.inr (.inl (some 0)))), (0, .inr (.inr (.inr 0)))]) (S' := [.inl ((Int32.ofNat i) + (Int32.ofNat 1)), .inr (.inr (.inr 0)), .inr (.inr (.inl (some 259)))]) (by with_unfolding_all rfl) ?_
  rw [← Int32.ofNat_add]
  refine kL_sc hF hnc hns (j := i + 1) rfl (by omega) (by omega) ?_
  refine kL_go hF 4 (pc' := 591) (L' := [(3, .inl (Int32.ofNat i)), (2, .inr (.inr (.inl (some 259)))), (1, .inr (.inr (.inl (some 0)))), (0, .inr (.inr (.inr 0)))]) (S' := [.inl ((Int32.ofNat i) + (Int32.ofNat 2)), .inr (.inr (.inr 0)), .inl (kc_gs g (i + 1)), .inr (.inr (.inl (some 259)))]) (by with_unfolding_all rfl) ?_
  rw [← Int32.ofNat_add]
  refine kL_sc hF hnc hns (j := i + 2) rfl (by omega) (by omega) ?_
  refine kL_go hF 7 (pc' := 600) (L' := [(3, .inl (Int32.ofNat i)), (2, .inr (.inr (.inl (some 259)))), (1, .inr (.inr (.inl (some 0)))), (0, .inr (.inr (.inr 0)))]) (S' := [.inl ((Int32.ofNat i) + (Int32.ofNat 3)), .inr (.inr (.inr 0)), .inr (.inl (((kc_gs g (i + 2)).toInt64) <<< ((Int32.ofNat 32).toInt64 &&& 63))), .inl (kc_gs g (i + 1)), .inr (.inr (.inl (some 259)))]) (by with_unfolding_all rfl) ?_
  rw [← Int32.ofNat_add]
  refine kL_sc hF hnc hns (j := i + 3) rfl (by omega) (by omega) ?_
  refine kL_go hF 8 (pc' := 611) (L' := [(3, .inl (Int32.ofNat i)), (2, .inr (.inr (.inl (some 259)))), (1, .inr (.inr (.inl (some 0)))), (0, .inr (.inr (.inr 0)))]) (S' := [.inl ((Int32.ofNat i) + (Int32.ofNat 4)), .inr (.inr (.inr 0)), .inr (.inl ((((kc_gs g (i + 2)).toInt64) <<< ((Int32.ofNat 32).toInt64 &&& 63)) ||| (((kc_gs g (i + 3)).toInt64) &&& (Int64.ofNat 4294967295)))), .inl (kc_gs g (i + 1)), .inr (.inr (.inl (some 259)))]) (by with_unfolding_all rfl) ?_
  rw [← Int32.ofNat_add]
  refine kL_sc hF hnc hns (j := i + 4) rfl (by omega) (by omega) ?_
  refine kL_call hF hnc hns (M2 := wk_m56) (av := [.inr (.inr (.inl (some 259))), .inl (kc_gs g (i + 1)), .inr (.inl ((((kc_gs g (i + 2)).toInt64) <<< ((Int32.ofNat 32).toInt64 &&& 63)) ||| (((kc_gs g (i + 3)).toInt64) &&& (Int64.ofNat 4294967295)))), .inl (kc_gs g (i + 4))]) (r := []) rfl rfl (kc_Con_le (hq) (by decide)) (fun rv h2 hq2 => ?_)
  obtain ⟨rfl, hI2⟩ := hq2
  have hzz : ∃ z2, z2 = z := ⟨z, rfl⟩
  obtain ⟨z2, rfl⟩ := hzz
  show kL_Ev g wk_mL p e R s m args below meth c as 289 10466 Z 615 [(3, .inl (Int32.ofNat i)), (2, .inr (.inr (.inl (some 259)))), (1, .inr (.inr (.inl (some 0)))), (0, .inr (.inr (.inr 0)))] [.inl z2] h2
  refine kL_go hF 2 (pc' := 1207) (L' := [(3, .inl (Int32.ofNat i)), (2, .inr (.inr (.inl (some 259)))), (1, .inr (.inr (.inl (some 0)))), (0, .inr (.inr (.inr 0)))]) (S' := []) (by with_unfolding_all rfl) ?_
  exact kL_next hg hF hnc hns hL hi hI2 hK
set_option maxRecDepth 20000 in
theorem kL_11 {g : kc_G} {p : Program} {e : Env} {R : Room} {s : State} {m : MethodId} {args : Array Value} {below : List Frame} {meth : Method} {c : Code} {as : List Nat} {Z : State → Prop} {h : kc_H} {i : Nat} (hg : kc_ok g) (hF : kc_fix g 40 wk_mL p R s m args meth c) (hnc : 289 ≤ R.cells) (hns : 10466 ≤ R.slots) (hL : kc_gL g < 2147483000) (hi : i + 5 ≤ kc_gL g) (hI : fu_I h) (hK : ∀ h', fu_I h' → kL_Ev g wk_mL p e R s m args below meth c as 289 10466 Z 18 [(3, .inl (Int32.ofNat (i + 5))), (2, .inr (.inr (.inl (some 259)))), (1, .inr (.inr (.inl (some 0)))), (0, .inr (.inr (.inr 0)))] [] h') : kL_Ev g wk_mL p e R s m args below meth c as 289 10466 Z 619 [(3, .inl (Int32.ofNat i)), (2, .inr (.inr (.inl (some 259)))), (1, .inr (.inr (.inl (some 0)))), (0, .inr (.inr (.inr 0)))] [] h := by
  refine kL_go hF 5 (pc' := 624) (L' := [(3, .inl (Int32.ofNat i)), (2, .inr (.inr (.inl (some 259)))), (1, .inr (.inr (.inl (some 0)))), (0, .inr (.inr (.inr 0)))]) (S' := [.inl ((Int32.ofNat i) + (Int32.ofNat 1)), .inr (.inr (.inr 0)), .inr (.inr (.inl (some 0)))]) (by with_unfolding_all rfl) ?_
  rw [← Int32.ofNat_add]
  refine kL_sc hF hnc hns (j := i + 1) rfl (by omega) (by omega) ?_
  refine kL_call hF hnc hns (M2 := wk_m58) (av := [.inr (.inr (.inl (some 0))), .inl (kc_gs g (i + 1))]) (r := []) rfl rfl (kc_Con_le (fU_Xclear hg hI) (by decide)) (fun rv h1 hq => ?_)
  obtain ⟨z, rfl, hq⟩ := hq
  show kL_Ev g wk_mL p e R s m args below meth c as 289 10466 Z 628 [(3, .inl (Int32.ofNat i)), (2, .inr (.inr (.inl (some 259)))), (1, .inr (.inr (.inl (some 0)))), (0, .inr (.inr (.inr 0)))] [.inl z] h1
  refine kL_go hF 6 (pc' := 634) (L' := [(3, .inl (Int32.ofNat i)), (2, .inr (.inr (.inl (some 259)))), (1, .inr (.inr (.inl (some 0)))), (0, .inr (.inr (.inr 0)))]) (S' := [.inl ((Int32.ofNat i) + (Int32.ofNat 1)), .inr (.inr (.inr 0)), .inr (.inr (.inl (some 259)))]) (by with_unfolding_all rfl) ?_
  rw [← Int32.ofNat_add]
  refine kL_sc hF hnc hns (j := i + 1) rfl (by omega) (by omega) ?_
  refine kL_call hF hnc hns (M2 := wk_m59) (av := [.inr (.inr (.inl (some 259))), .inl (kc_gs g (i + 1))]) (r := []) rfl rfl (kc_Con_le (hq) (by decide)) (fun rv h2 hq2 => ?_)
  obtain ⟨rfl, hI2⟩ := hq2
  have hzz : ∃ z2, z2 = z := ⟨z, rfl⟩
  obtain ⟨z2, rfl⟩ := hzz
  show kL_Ev g wk_mL p e R s m args below meth c as 289 10466 Z 638 [(3, .inl (Int32.ofNat i)), (2, .inr (.inr (.inl (some 259)))), (1, .inr (.inr (.inl (some 0)))), (0, .inr (.inr (.inr 0)))] [.inl z2] h2
  refine kL_go hF 2 (pc' := 1207) (L' := [(3, .inl (Int32.ofNat i)), (2, .inr (.inr (.inl (some 259)))), (1, .inr (.inr (.inl (some 0)))), (0, .inr (.inr (.inr 0)))]) (S' := []) (by with_unfolding_all rfl) ?_
  exact kL_next hg hF hnc hns hL hi hI2 hK
set_option maxRecDepth 20000 in
theorem kL_12 {g : kc_G} {p : Program} {e : Env} {R : Room} {s : State} {m : MethodId} {args : Array Value} {below : List Frame} {meth : Method} {c : Code} {as : List Nat} {Z : State → Prop} {h : kc_H} {i : Nat} (hg : kc_ok g) (hF : kc_fix g 40 wk_mL p R s m args meth c) (hnc : 289 ≤ R.cells) (hns : 10466 ≤ R.slots) (hL : kc_gL g < 2147483000) (hi : i + 5 ≤ kc_gL g) (hI : fu_I h) (hK : ∀ h', fu_I h' → kL_Ev g wk_mL p e R s m args below meth c as 289 10466 Z 18 [(3, .inl (Int32.ofNat (i + 5))), (2, .inr (.inr (.inl (some 259)))), (1, .inr (.inr (.inl (some 0)))), (0, .inr (.inr (.inr 0)))] [] h') : kL_Ev g wk_mL p e R s m args below meth c as 289 10466 Z 642 [(3, .inl (Int32.ofNat i)), (2, .inr (.inr (.inl (some 259)))), (1, .inr (.inr (.inl (some 0)))), (0, .inr (.inr (.inr 0)))] [] h := by
  refine kL_go hF 5 (pc' := 647) (L' := [(3, .inl (Int32.ofNat i)), (2, .inr (.inr (.inl (some 259)))), (1, .inr (.inr (.inl (some 0)))), (0, .inr (.inr (.inr 0)))]) (S' := [.inl ((Int32.ofNat i) + (Int32.ofNat 1)), .inr (.inr (.inr 0)), .inr (.inr (.inl (some 0)))]) (by with_unfolding_all rfl) ?_
  rw [← Int32.ofNat_add]
  refine kL_sc hF hnc hns (j := i + 1) rfl (by omega) (by omega) ?_
  refine kL_call hF hnc hns (M2 := wk_m60) (av := [.inr (.inr (.inl (some 0))), .inl (kc_gs g (i + 1))]) (r := []) rfl rfl (kc_Con_le (fU_cfault hg hI) (by decide)) (fun rv h1 hq => ?_)
  obtain ⟨⟨z, rfl⟩, hI1⟩ := hq
  show kL_Ev g wk_mL p e R s m args below meth c as 289 10466 Z 651 [(3, .inl (Int32.ofNat i)), (2, .inr (.inr (.inl (some 259)))), (1, .inr (.inr (.inl (some 0)))), (0, .inr (.inr (.inr 0)))] [.inl z] h1
  refine kL_go hF 6 (pc' := 657) (L' := [(3, .inl (Int32.ofNat i)), (2, .inr (.inr (.inl (some 259)))), (1, .inr (.inr (.inl (some 0)))), (0, .inr (.inr (.inr 0)))]) (S' := [.inl ((Int32.ofNat i) + (Int32.ofNat 1)), .inr (.inr (.inr 0)), .inr (.inr (.inl (some 259)))]) (by with_unfolding_all rfl) ?_
  rw [← Int32.ofNat_add]
  refine kL_sc hF hnc hns (j := i + 1) rfl (by omega) (by omega) ?_
  refine kL_call hF hnc hns (M2 := wk_m63) (av := [.inr (.inr (.inl (some 259))), .inl (kc_gs g (i + 1))]) (r := []) rfl rfl (kc_Con_le (fU_rfault hg hI1) (by decide)) (fun rv h2 hq2 => ?_)
  obtain ⟨⟨z2, rfl⟩, hI2⟩ := hq2
  show kL_Ev g wk_mL p e R s m args below meth c as 289 10466 Z 661 [(3, .inl (Int32.ofNat i)), (2, .inr (.inr (.inl (some 259)))), (1, .inr (.inr (.inl (some 0)))), (0, .inr (.inr (.inr 0)))] [.inl z2] h2
  refine kL_go hF 2 (pc' := 1207) (L' := [(3, .inl (Int32.ofNat i)), (2, .inr (.inr (.inl (some 259)))), (1, .inr (.inr (.inl (some 0)))), (0, .inr (.inr (.inr 0)))]) (S' := []) (by with_unfolding_all rfl) ?_
  exact kL_next hg hF hnc hns hL hi hI2 hK
set_option maxRecDepth 20000 in
theorem kL_13 {g : kc_G} {p : Program} {e : Env} {R : Room} {s : State} {m : MethodId} {args : Array Value} {below : List Frame} {meth : Method} {c : Code} {as : List Nat} {Z : State → Prop} {h : kc_H} {i : Nat} (hg : kc_ok g) (hF : kc_fix g 40 wk_mL p R s m args meth c) (hnc : 289 ≤ R.cells) (hns : 10466 ≤ R.slots) (hL : kc_gL g < 2147483000) (hi : i + 5 ≤ kc_gL g) (hI : fu_I h) (hK : ∀ h', fu_I h' → kL_Ev g wk_mL p e R s m args below meth c as 289 10466 Z 18 [(3, .inl (Int32.ofNat (i + 5))), (2, .inr (.inr (.inl (some 259)))), (1, .inr (.inr (.inl (some 0)))), (0, .inr (.inr (.inr 0)))] [] h') : kL_Ev g wk_mL p e R s m args below meth c as 289 10466 Z 665 [(3, .inl (Int32.ofNat i)), (2, .inr (.inr (.inl (some 259)))), (1, .inr (.inr (.inl (some 0)))), (0, .inr (.inr (.inr 0)))] [] h := by
  refine kL_go hF 1 (pc' := 666) (L' := [(3, .inl (Int32.ofNat i)), (2, .inr (.inr (.inl (some 259)))), (1, .inr (.inr (.inl (some 0)))), (0, .inr (.inr (.inr 0)))]) (S' := [.inr (.inr (.inl (some 0)))]) (by with_unfolding_all rfl) ?_
  refine kL_call hF hnc hns (M2 := wk_m67) (av := [.inr (.inr (.inl (some 0)))]) (r := []) rfl rfl (kc_Con_le (fU_day hg hI) (by decide)) (fun rv h1 hq => ?_)
  obtain ⟨⟨z, rfl⟩, hq⟩ := hq
  show kL_Ev g wk_mL p e R s m args below meth c as 289 10466 Z 669 [(3, .inl (Int32.ofNat i)), (2, .inr (.inr (.inl (some 259)))), (1, .inr (.inr (.inl (some 0)))), (0, .inr (.inr (.inr 0)))] [.inl z] h1
  refine kL_go hF 2 (pc' := 671) (L' := [(3, .inl (Int32.ofNat i)), (2, .inr (.inr (.inl (some 259)))), (1, .inr (.inr (.inl (some 0)))), (0, .inr (.inr (.inr 0)))]) (S' := [.inr (.inr (.inl (some 259)))]) (by with_unfolding_all rfl) ?_
  refine kL_call hF hnc hns (M2 := wk_m71) (av := [.inr (.inr (.inl (some 259)))]) (r := []) rfl rfl (kc_Con_le (hq) (by decide)) (fun rv h2 hq2 => ?_)
  obtain ⟨⟨z2, rfl⟩, hI2⟩ := hq2
  show kL_Ev g wk_mL p e R s m args below meth c as 289 10466 Z 674 [(3, .inl (Int32.ofNat i)), (2, .inr (.inr (.inl (some 259)))), (1, .inr (.inr (.inl (some 0)))), (0, .inr (.inr (.inr 0)))] [.inl z2] h2
  refine kL_go hF 2 (pc' := 1207) (L' := [(3, .inl (Int32.ofNat i)), (2, .inr (.inr (.inl (some 259)))), (1, .inr (.inr (.inl (some 0)))), (0, .inr (.inr (.inr 0)))]) (S' := []) (by with_unfolding_all rfl) ?_
  exact kL_next hg hF hnc hns hL hi hI2 hK
set_option maxRecDepth 20000 in
theorem kL_14 {g : kc_G} {p : Program} {e : Env} {R : Room} {s : State} {m : MethodId} {args : Array Value} {below : List Frame} {meth : Method} {c : Code} {as : List Nat} {Z : State → Prop} {h : kc_H} {i : Nat} (hg : kc_ok g) (hF : kc_fix g 40 wk_mL p R s m args meth c) (hnc : 289 ≤ R.cells) (hns : 10466 ≤ R.slots) (hL : kc_gL g < 2147483000) (hi : i + 5 ≤ kc_gL g) (hI : fu_I h) (hK : ∀ h', fu_I h' → kL_Ev g wk_mL p e R s m args below meth c as 289 10466 Z 18 [(3, .inl (Int32.ofNat (i + 5))), (2, .inr (.inr (.inl (some 259)))), (1, .inr (.inr (.inl (some 0)))), (0, .inr (.inr (.inr 0)))] [] h') : kL_Ev g wk_mL p e R s m args below meth c as 289 10466 Z 678 [(3, .inl (Int32.ofNat i)), (2, .inr (.inr (.inl (some 259)))), (1, .inr (.inr (.inl (some 0)))), (0, .inr (.inr (.inr 0)))] [] h := by
  refine kL_go hF 5 (pc' := 683) (L' := [(3, .inl (Int32.ofNat i)), (2, .inr (.inr (.inl (some 259)))), (1, .inr (.inr (.inl (some 0)))), (0, .inr (.inr (.inr 0)))]) (S' := [.inl ((Int32.ofNat i) + (Int32.ofNat 1)), .inr (.inr (.inr 0)), .inr (.inr (.inl (some 0)))]) (by with_unfolding_all rfl) ?_
  rw [← Int32.ofNat_add]
  refine kL_sc hF hnc hns (j := i + 1) rfl (by omega) (by omega) ?_
  refine kL_call hF hnc hns (M2 := wk_m72) (av := [.inr (.inr (.inl (some 0))), .inl (kc_gs g (i + 1))]) (r := []) rfl rfl (kc_Con_le (fU_crun hg hI) (by decide)) (fun rv h1 hq => ?_)
  obtain ⟨⟨z, rfl⟩, hI1⟩ := hq
  show kL_Ev g wk_mL p e R s m args below meth c as 289 10466 Z 687 [(3, .inl (Int32.ofNat i)), (2, .inr (.inr (.inl (some 259)))), (1, .inr (.inr (.inl (some 0)))), (0, .inr (.inr (.inr 0)))] [.inl z] h1
  refine kL_go hF 6 (pc' := 693) (L' := [(3, .inl (Int32.ofNat i)), (2, .inr (.inr (.inl (some 259)))), (1, .inr (.inr (.inl (some 0)))), (0, .inr (.inr (.inr 0)))]) (S' := [.inl ((Int32.ofNat i) + (Int32.ofNat 1)), .inr (.inr (.inr 0)), .inr (.inr (.inl (some 259)))]) (by with_unfolding_all rfl) ?_
  rw [← Int32.ofNat_add]
  refine kL_sc hF hnc hns (j := i + 1) rfl (by omega) (by omega) ?_
  refine kL_call hF hnc hns (M2 := wk_m77) (av := [.inr (.inr (.inl (some 259))), .inl (kc_gs g (i + 1))]) (r := []) rfl rfl (kc_Con_le (fU_rrun hg hI1) (by decide)) (fun rv h2 hq2 => ?_)
  obtain ⟨⟨z2, rfl⟩, hI2⟩ := hq2
  show kL_Ev g wk_mL p e R s m args below meth c as 289 10466 Z 697 [(3, .inl (Int32.ofNat i)), (2, .inr (.inr (.inl (some 259)))), (1, .inr (.inr (.inl (some 0)))), (0, .inr (.inr (.inr 0)))] [.inl z2] h2
  refine kL_go hF 2 (pc' := 1207) (L' := [(3, .inl (Int32.ofNat i)), (2, .inr (.inr (.inl (some 259)))), (1, .inr (.inr (.inl (some 0)))), (0, .inr (.inr (.inr 0)))]) (S' := []) (by with_unfolding_all rfl) ?_
  exact kL_next hg hF hnc hns hL hi hI2 hK
set_option maxRecDepth 20000 in
theorem kL_15 {g : kc_G} {p : Program} {e : Env} {R : Room} {s : State} {m : MethodId} {args : Array Value} {below : List Frame} {meth : Method} {c : Code} {as : List Nat} {Z : State → Prop} {h : kc_H} {i : Nat} (hg : kc_ok g) (hF : kc_fix g 40 wk_mL p R s m args meth c) (hnc : 289 ≤ R.cells) (hns : 10466 ≤ R.slots) (hL : kc_gL g < 2147483000) (hi : i + 5 ≤ kc_gL g) (hI : fu_I h) (hK : ∀ h', fu_I h' → kL_Ev g wk_mL p e R s m args below meth c as 289 10466 Z 18 [(3, .inl (Int32.ofNat (i + 5))), (2, .inr (.inr (.inl (some 259)))), (1, .inr (.inr (.inl (some 0)))), (0, .inr (.inr (.inr 0)))] [] h') : kL_Ev g wk_mL p e R s m args below meth c as 289 10466 Z 701 [(3, .inl (Int32.ofNat i)), (2, .inr (.inr (.inl (some 259)))), (1, .inr (.inr (.inl (some 0)))), (0, .inr (.inr (.inr 0)))] [] h := by
  refine kL_go hF 5 (pc' := 706) (L' := [(3, .inl (Int32.ofNat i)), (2, .inr (.inr (.inl (some 259)))), (1, .inr (.inr (.inl (some 0)))), (0, .inr (.inr (.inr 0)))]) (S' := [.inl ((Int32.ofNat i) + (Int32.ofNat 1)), .inr (.inr (.inr 0)), .inr (.inr (.inl (some 0)))]) (by with_unfolding_all rfl) ?_
  rw [← Int32.ofNat_add]
  refine kL_sc hF hnc hns (j := i + 1) rfl (by omega) (by omega) ?_
  refine kL_go hF 4 (pc' := 711) (L' := [(3, .inl (Int32.ofNat i)), (2, .inr (.inr (.inl (some 259)))), (1, .inr (.inr (.inl (some 0)))), (0, .inr (.inr (.inr 0)))]) (S' := [.inl ((Int32.ofNat i) + (Int32.ofNat 2)), .inr (.inr (.inr 0)), .inl (kc_gs g (i + 1)), .inr (.inr (.inl (some 0)))]) (by with_unfolding_all rfl) ?_
  rw [← Int32.ofNat_add]
  refine kL_sc hF hnc hns (j := i + 2) rfl (by omega) (by omega) ?_
  refine kL_go hF 4 (pc' := 716) (L' := [(3, .inl (Int32.ofNat i)), (2, .inr (.inr (.inl (some 259)))), (1, .inr (.inr (.inl (some 0)))), (0, .inr (.inr (.inr 0)))]) (S' := [.inl ((Int32.ofNat i) + (Int32.ofNat 3)), .inr (.inr (.inr 0)), .inl (kc_gs g (i + 2)), .inl (kc_gs g (i + 1)), .inr (.inr (.inl (some 0)))]) (by with_unfolding_all rfl) ?_
  rw [← Int32.ofNat_add]
  refine kL_sc hF hnc hns (j := i + 3) rfl (by omega) (by omega) ?_
  refine kL_call hF hnc hns (M2 := wk_m80) (av := [.inr (.inr (.inl (some 0))), .inl (kc_gs g (i + 1)), .inl (kc_gs g (i + 2)), .inl (kc_gs g (i + 3))]) (r := []) rfl rfl (kc_Con_le (fU_cside hg hI) (by decide)) (fun rv h1 hq => ?_)
  obtain ⟨⟨z, rfl⟩, hI1⟩ := hq
  show kL_Ev g wk_mL p e R s m args below meth c as 289 10466 Z 720 [(3, .inl (Int32.ofNat i)), (2, .inr (.inr (.inl (some 259)))), (1, .inr (.inr (.inl (some 0)))), (0, .inr (.inr (.inr 0)))] [.inl z] h1
  refine kL_go hF 6 (pc' := 726) (L' := [(3, .inl (Int32.ofNat i)), (2, .inr (.inr (.inl (some 259)))), (1, .inr (.inr (.inl (some 0)))), (0, .inr (.inr (.inr 0)))]) (S' := [.inl ((Int32.ofNat i) + (Int32.ofNat 1)), .inr (.inr (.inr 0)), .inr (.inr (.inl (some 259)))]) (by with_unfolding_all rfl) ?_
  rw [← Int32.ofNat_add]
  refine kL_sc hF hnc hns (j := i + 1) rfl (by omega) (by omega) ?_
  refine kL_go hF 4 (pc' := 731) (L' := [(3, .inl (Int32.ofNat i)), (2, .inr (.inr (.inl (some 259)))), (1, .inr (.inr (.inl (some 0)))), (0, .inr (.inr (.inr 0)))]) (S' := [.inl ((Int32.ofNat i) + (Int32.ofNat 2)), .inr (.inr (.inr 0)), .inl (kc_gs g (i + 1)), .inr (.inr (.inl (some 259)))]) (by with_unfolding_all rfl) ?_
  rw [← Int32.ofNat_add]
  refine kL_sc hF hnc hns (j := i + 2) rfl (by omega) (by omega) ?_
  refine kL_go hF 4 (pc' := 736) (L' := [(3, .inl (Int32.ofNat i)), (2, .inr (.inr (.inl (some 259)))), (1, .inr (.inr (.inl (some 0)))), (0, .inr (.inr (.inr 0)))]) (S' := [.inl ((Int32.ofNat i) + (Int32.ofNat 3)), .inr (.inr (.inr 0)), .inl (kc_gs g (i + 2)), .inl (kc_gs g (i + 1)), .inr (.inr (.inl (some 259)))]) (by with_unfolding_all rfl) ?_
  rw [← Int32.ofNat_add]
  refine kL_sc hF hnc hns (j := i + 3) rfl (by omega) (by omega) ?_
  refine kL_call hF hnc hns (M2 := wk_m81) (av := [.inr (.inr (.inl (some 259))), .inl (kc_gs g (i + 1)), .inl (kc_gs g (i + 2)), .inl (kc_gs g (i + 3))]) (r := []) rfl rfl (kc_Con_le (fU_rside hg hI1) (by decide)) (fun rv h2 hq2 => ?_)
  obtain ⟨⟨z2, rfl⟩, hI2⟩ := hq2
  show kL_Ev g wk_mL p e R s m args below meth c as 289 10466 Z 740 [(3, .inl (Int32.ofNat i)), (2, .inr (.inr (.inl (some 259)))), (1, .inr (.inr (.inl (some 0)))), (0, .inr (.inr (.inr 0)))] [.inl z2] h2
  refine kL_go hF 2 (pc' := 1207) (L' := [(3, .inl (Int32.ofNat i)), (2, .inr (.inr (.inl (some 259)))), (1, .inr (.inr (.inl (some 0)))), (0, .inr (.inr (.inr 0)))]) (S' := []) (by with_unfolding_all rfl) ?_
  exact kL_next hg hF hnc hns hL hi hI2 hK
set_option maxRecDepth 20000 in
theorem kL_16 {g : kc_G} {p : Program} {e : Env} {R : Room} {s : State} {m : MethodId} {args : Array Value} {below : List Frame} {meth : Method} {c : Code} {as : List Nat} {Z : State → Prop} {h : kc_H} {i : Nat} (hg : kc_ok g) (hF : kc_fix g 40 wk_mL p R s m args meth c) (hnc : 289 ≤ R.cells) (hns : 10466 ≤ R.slots) (hL : kc_gL g < 2147483000) (hi : i + 5 ≤ kc_gL g) (hI : fu_I h) (hK : ∀ h', fu_I h' → kL_Ev g wk_mL p e R s m args below meth c as 289 10466 Z 18 [(3, .inl (Int32.ofNat (i + 5))), (2, .inr (.inr (.inl (some 259)))), (1, .inr (.inr (.inl (some 0)))), (0, .inr (.inr (.inr 0)))] [] h') : kL_Ev g wk_mL p e R s m args below meth c as 289 10466 Z 744 [(3, .inl (Int32.ofNat i)), (2, .inr (.inr (.inl (some 259)))), (1, .inr (.inr (.inl (some 0)))), (0, .inr (.inr (.inr 0)))] [] h := by
  refine kL_go hF 5 (pc' := 749) (L' := [(3, .inl (Int32.ofNat i)), (2, .inr (.inr (.inl (some 259)))), (1, .inr (.inr (.inl (some 0)))), (0, .inr (.inr (.inr 0)))]) (S' := [.inl ((Int32.ofNat i) + (Int32.ofNat 1)), .inr (.inr (.inr 0)), .inr (.inr (.inl (some 0)))]) (by with_unfolding_all rfl) ?_
  rw [← Int32.ofNat_add]
  refine kL_sc hF hnc hns (j := i + 1) rfl (by omega) (by omega) ?_
  refine kL_call hF hnc hns (M2 := wk_m83) (av := [.inr (.inr (.inl (some 0))), .inl (kc_gs g (i + 1))]) (r := []) rfl rfl (kc_Con_le (fU_Xwhere hg hI) (by decide)) (fun rv h1 hq => ?_)
  obtain ⟨z, rfl, hq⟩ := hq
  show kL_Ev g wk_mL p e R s m args below meth c as 289 10466 Z 753 [(3, .inl (Int32.ofNat i)), (2, .inr (.inr (.inl (some 259)))), (1, .inr (.inr (.inl (some 0)))), (0, .inr (.inr (.inr 0)))] [.inl z] h1
  refine kL_go hF 5 (pc' := 758) (L' := [(3, .inl (Int32.ofNat i)), (2, .inr (.inr (.inl (some 259)))), (1, .inr (.inr (.inl (some 0)))), (0, .inr (.inr (.inr 0)))]) (S' := [.inl ((Int32.ofNat i) + (Int32.ofNat 1)), .inr (.inr (.inr 0)), .inr (.inr (.inl (some 259))), .inl (z)]) (by with_unfolding_all rfl) ?_
  rw [← Int32.ofNat_add]
  refine kL_sc hF hnc hns (j := i + 1) rfl (by omega) (by omega) ?_
  refine kL_call hF hnc hns (M2 := wk_m84) (av := [.inr (.inr (.inl (some 259))), .inl (kc_gs g (i + 1))]) (r := [.inl z]) rfl rfl (kc_Con_le hq (by decide)) (fun rv h2 hq2 => ?_)
  obtain ⟨rfl, hI2⟩ := hq2
  show kL_Ev g wk_mL p e R s m args below meth c as 289 10466 Z 762 [(3, .inl (Int32.ofNat i)), (2, .inr (.inr (.inl (some 259)))), (1, .inr (.inr (.inl (some 0)))), (0, .inr (.inr (.inr 0)))] [.inl z, .inl z] h2
  refine kL_go hF 1 (pc' := (if kc_cnd .eq (z).toInt (z).toInt then 1207 else 765)) (L' := [(3, .inl (Int32.ofNat i)), (2, .inr (.inr (.inl (some 259)))), (1, .inr (.inr (.inl (some 0)))), (0, .inr (.inr (.inr 0)))]) (S' := []) (by with_unfolding_all rfl) ?_
  rw [if_pos (by unfold kc_cnd; exact decide_eq_true rfl)]
  exact kL_next hg hF hnc hns hL hi hI2 hK
set_option maxRecDepth 20000 in
theorem kL_17 {g : kc_G} {p : Program} {e : Env} {R : Room} {s : State} {m : MethodId} {args : Array Value} {below : List Frame} {meth : Method} {c : Code} {as : List Nat} {Z : State → Prop} {h : kc_H} {i : Nat} (hg : kc_ok g) (hF : kc_fix g 40 wk_mL p R s m args meth c) (hnc : 289 ≤ R.cells) (hns : 10466 ≤ R.slots) (hL : kc_gL g < 2147483000) (hi : i + 5 ≤ kc_gL g) (hI : fu_I h) (hK : ∀ h', fu_I h' → kL_Ev g wk_mL p e R s m args below meth c as 289 10466 Z 18 [(3, .inl (Int32.ofNat (i + 5))), (2, .inr (.inr (.inl (some 259)))), (1, .inr (.inr (.inl (some 0)))), (0, .inr (.inr (.inr 0)))] [] h') : kL_Ev g wk_mL p e R s m args below meth c as 289 10466 Z 767 [(3, .inl (Int32.ofNat i)), (2, .inr (.inr (.inl (some 259)))), (1, .inr (.inr (.inl (some 0)))), (0, .inr (.inr (.inr 0)))] [] h := by
  refine kL_go hF 5 (pc' := 772) (L' := [(3, .inl (Int32.ofNat i)), (2, .inr (.inr (.inl (some 259)))), (1, .inr (.inr (.inl (some 0)))), (0, .inr (.inr (.inr 0)))]) (S' := [.inl ((Int32.ofNat i) + (Int32.ofNat 1)), .inr (.inr (.inr 0)), .inr (.inr (.inl (some 0)))]) (by with_unfolding_all rfl) ?_
  rw [← Int32.ofNat_add]
  refine kL_sc hF hnc hns (j := i + 1) rfl (by omega) (by omega) ?_
  refine kL_go hF 4 (pc' := 777) (L' := [(3, .inl (Int32.ofNat i)), (2, .inr (.inr (.inl (some 259)))), (1, .inr (.inr (.inl (some 0)))), (0, .inr (.inr (.inr 0)))]) (S' := [.inl ((Int32.ofNat i) + (Int32.ofNat 2)), .inr (.inr (.inr 0)), .inl (kc_gs g (i + 1)), .inr (.inr (.inl (some 0)))]) (by with_unfolding_all rfl) ?_
  rw [← Int32.ofNat_add]
  refine kL_sc hF hnc hns (j := i + 2) rfl (by omega) (by omega) ?_
  refine kL_call hF hnc hns (M2 := wk_m85) (av := [.inr (.inr (.inl (some 0))), .inl (kc_gs g (i + 1)), .inl (kc_gs g (i + 2))]) (r := []) rfl rfl (kc_Con_le (fU_chalves hg hI) (by decide)) (fun rv h1 hq => ?_)
  obtain ⟨⟨z, rfl⟩, hI1⟩ := hq
  show kL_Ev g wk_mL p e R s m args below meth c as 289 10466 Z 781 [(3, .inl (Int32.ofNat i)), (2, .inr (.inr (.inl (some 259)))), (1, .inr (.inr (.inl (some 0)))), (0, .inr (.inr (.inr 0)))] [.inl z] h1
  refine kL_go hF 6 (pc' := 787) (L' := [(3, .inl (Int32.ofNat i)), (2, .inr (.inr (.inl (some 259)))), (1, .inr (.inr (.inl (some 0)))), (0, .inr (.inr (.inr 0)))]) (S' := [.inl ((Int32.ofNat i) + (Int32.ofNat 1)), .inr (.inr (.inr 0)), .inr (.inr (.inl (some 259)))]) (by with_unfolding_all rfl) ?_
  rw [← Int32.ofNat_add]
  refine kL_sc hF hnc hns (j := i + 1) rfl (by omega) (by omega) ?_
  refine kL_go hF 4 (pc' := 792) (L' := [(3, .inl (Int32.ofNat i)), (2, .inr (.inr (.inl (some 259)))), (1, .inr (.inr (.inl (some 0)))), (0, .inr (.inr (.inr 0)))]) (S' := [.inl ((Int32.ofNat i) + (Int32.ofNat 2)), .inr (.inr (.inr 0)), .inl (kc_gs g (i + 1)), .inr (.inr (.inl (some 259)))]) (by with_unfolding_all rfl) ?_
  rw [← Int32.ofNat_add]
  refine kL_sc hF hnc hns (j := i + 2) rfl (by omega) (by omega) ?_
  refine kL_call hF hnc hns (M2 := wk_m87) (av := [.inr (.inr (.inl (some 259))), .inl (kc_gs g (i + 1)), .inl (kc_gs g (i + 2))]) (r := []) rfl rfl (kc_Con_le (fU_rhalves hg hI1) (by decide)) (fun rv h2 hq2 => ?_)
  obtain ⟨⟨z2, rfl⟩, hI2⟩ := hq2
  show kL_Ev g wk_mL p e R s m args below meth c as 289 10466 Z 796 [(3, .inl (Int32.ofNat i)), (2, .inr (.inr (.inl (some 259)))), (1, .inr (.inr (.inl (some 0)))), (0, .inr (.inr (.inr 0)))] [.inl z2] h2
  refine kL_go hF 2 (pc' := 1207) (L' := [(3, .inl (Int32.ofNat i)), (2, .inr (.inr (.inl (some 259)))), (1, .inr (.inr (.inl (some 0)))), (0, .inr (.inr (.inr 0)))]) (S' := []) (by with_unfolding_all rfl) ?_
  exact kL_next hg hF hnc hns hL hi hI2 hK
set_option maxRecDepth 20000 in
theorem kL_18 {g : kc_G} {p : Program} {e : Env} {R : Room} {s : State} {m : MethodId} {args : Array Value} {below : List Frame} {meth : Method} {c : Code} {as : List Nat} {Z : State → Prop} {h : kc_H} {i : Nat} (hg : kc_ok g) (hF : kc_fix g 40 wk_mL p R s m args meth c) (hnc : 289 ≤ R.cells) (hns : 10466 ≤ R.slots) (hL : kc_gL g < 2147483000) (hi : i + 5 ≤ kc_gL g) (hI : fu_I h) (hK : ∀ h', fu_I h' → kL_Ev g wk_mL p e R s m args below meth c as 289 10466 Z 18 [(3, .inl (Int32.ofNat (i + 5))), (2, .inr (.inr (.inl (some 259)))), (1, .inr (.inr (.inl (some 0)))), (0, .inr (.inr (.inr 0)))] [] h') : kL_Ev g wk_mL p e R s m args below meth c as 289 10466 Z 800 [(3, .inl (Int32.ofNat i)), (2, .inr (.inr (.inl (some 259)))), (1, .inr (.inr (.inl (some 0)))), (0, .inr (.inr (.inr 0)))] [] h := by
  refine kL_go hF 5 (pc' := 805) (L' := [(3, .inl (Int32.ofNat i)), (2, .inr (.inr (.inl (some 259)))), (1, .inr (.inr (.inl (some 0)))), (0, .inr (.inr (.inr 0)))]) (S' := [.inl ((Int32.ofNat i) + (Int32.ofNat 1)), .inr (.inr (.inr 0)), .inr (.inr (.inl (some 0)))]) (by with_unfolding_all rfl) ?_
  rw [← Int32.ofNat_add]
  refine kL_sc hF hnc hns (j := i + 1) rfl (by omega) (by omega) ?_
  refine kL_go hF 4 (pc' := 810) (L' := [(3, .inl (Int32.ofNat i)), (2, .inr (.inr (.inl (some 259)))), (1, .inr (.inr (.inl (some 0)))), (0, .inr (.inr (.inr 0)))]) (S' := [.inl ((Int32.ofNat i) + (Int32.ofNat 2)), .inr (.inr (.inr 0)), .inl (kc_gs g (i + 1)), .inr (.inr (.inl (some 0)))]) (by with_unfolding_all rfl) ?_
  rw [← Int32.ofNat_add]
  refine kL_sc hF hnc hns (j := i + 2) rfl (by omega) (by omega) ?_
  refine kL_call hF hnc hns (M2 := wk_m89) (av := [.inr (.inr (.inl (some 0))), .inl (kc_gs g (i + 1)), .inl (kc_gs g (i + 2))]) (r := []) rfl rfl (kc_Con_le (fU_cwithin hg hI) (by decide)) (fun rv h1 hq => ?_)
  obtain ⟨⟨z, rfl⟩, hI1⟩ := hq
  show kL_Ev g wk_mL p e R s m args below meth c as 289 10466 Z 814 [(3, .inl (Int32.ofNat i)), (2, .inr (.inr (.inl (some 259)))), (1, .inr (.inr (.inl (some 0)))), (0, .inr (.inr (.inr 0)))] [.inl z] h1
  refine kL_go hF 6 (pc' := 820) (L' := [(3, .inl (Int32.ofNat i)), (2, .inr (.inr (.inl (some 259)))), (1, .inr (.inr (.inl (some 0)))), (0, .inr (.inr (.inr 0)))]) (S' := [.inl ((Int32.ofNat i) + (Int32.ofNat 1)), .inr (.inr (.inr 0)), .inr (.inr (.inl (some 259)))]) (by with_unfolding_all rfl) ?_
  rw [← Int32.ofNat_add]
  refine kL_sc hF hnc hns (j := i + 1) rfl (by omega) (by omega) ?_
  refine kL_go hF 4 (pc' := 825) (L' := [(3, .inl (Int32.ofNat i)), (2, .inr (.inr (.inl (some 259)))), (1, .inr (.inr (.inl (some 0)))), (0, .inr (.inr (.inr 0)))]) (S' := [.inl ((Int32.ofNat i) + (Int32.ofNat 2)), .inr (.inr (.inr 0)), .inl (kc_gs g (i + 1)), .inr (.inr (.inl (some 259)))]) (by with_unfolding_all rfl) ?_
  rw [← Int32.ofNat_add]
  refine kL_sc hF hnc hns (j := i + 2) rfl (by omega) (by omega) ?_
  refine kL_call hF hnc hns (M2 := wk_m90) (av := [.inr (.inr (.inl (some 259))), .inl (kc_gs g (i + 1)), .inl (kc_gs g (i + 2))]) (r := []) rfl rfl (kc_Con_le (fU_rwithin hg hI1) (by decide)) (fun rv h2 hq2 => ?_)
  obtain ⟨⟨z2, rfl⟩, hI2⟩ := hq2
  show kL_Ev g wk_mL p e R s m args below meth c as 289 10466 Z 829 [(3, .inl (Int32.ofNat i)), (2, .inr (.inr (.inl (some 259)))), (1, .inr (.inr (.inl (some 0)))), (0, .inr (.inr (.inr 0)))] [.inl z2] h2
  refine kL_go hF 2 (pc' := 1207) (L' := [(3, .inl (Int32.ofNat i)), (2, .inr (.inr (.inl (some 259)))), (1, .inr (.inr (.inl (some 0)))), (0, .inr (.inr (.inr 0)))]) (S' := []) (by with_unfolding_all rfl) ?_
  exact kL_next hg hF hnc hns hL hi hI2 hK
set_option maxRecDepth 20000 in
theorem kL_19 {g : kc_G} {p : Program} {e : Env} {R : Room} {s : State} {m : MethodId} {args : Array Value} {below : List Frame} {meth : Method} {c : Code} {as : List Nat} {Z : State → Prop} {h : kc_H} {i : Nat} (hg : kc_ok g) (hF : kc_fix g 40 wk_mL p R s m args meth c) (hnc : 289 ≤ R.cells) (hns : 10466 ≤ R.slots) (hL : kc_gL g < 2147483000) (hi : i + 5 ≤ kc_gL g) (hI : fu_I h) (hK : ∀ h', fu_I h' → kL_Ev g wk_mL p e R s m args below meth c as 289 10466 Z 18 [(3, .inl (Int32.ofNat (i + 5))), (2, .inr (.inr (.inl (some 259)))), (1, .inr (.inr (.inl (some 0)))), (0, .inr (.inr (.inr 0)))] [] h') : kL_Ev g wk_mL p e R s m args below meth c as 289 10466 Z 833 [(3, .inl (Int32.ofNat i)), (2, .inr (.inr (.inl (some 259)))), (1, .inr (.inr (.inl (some 0)))), (0, .inr (.inr (.inr 0)))] [] h := by
  refine kL_go hF 5 (pc' := 838) (L' := [(3, .inl (Int32.ofNat i)), (2, .inr (.inr (.inl (some 259)))), (1, .inr (.inr (.inl (some 0)))), (0, .inr (.inr (.inr 0)))]) (S' := [.inl ((Int32.ofNat i) + (Int32.ofNat 1)), .inr (.inr (.inr 0)), .inr (.inr (.inl (some 0)))]) (by with_unfolding_all rfl) ?_
  rw [← Int32.ofNat_add]
  refine kL_sc hF hnc hns (j := i + 1) rfl (by omega) (by omega) ?_
  refine kL_go hF 4 (pc' := 843) (L' := [(3, .inl (Int32.ofNat i)), (2, .inr (.inr (.inl (some 259)))), (1, .inr (.inr (.inl (some 0)))), (0, .inr (.inr (.inr 0)))]) (S' := [.inl ((Int32.ofNat i) + (Int32.ofNat 2)), .inr (.inr (.inr 0)), .inl (kc_gs g (i + 1)), .inr (.inr (.inl (some 0)))]) (by with_unfolding_all rfl) ?_
  rw [← Int32.ofNat_add]
  refine kL_sc hF hnc hns (j := i + 2) rfl (by omega) (by omega) ?_
  refine kL_go hF 4 (pc' := 848) (L' := [(3, .inl (Int32.ofNat i)), (2, .inr (.inr (.inl (some 259)))), (1, .inr (.inr (.inl (some 0)))), (0, .inr (.inr (.inr 0)))]) (S' := [.inl ((Int32.ofNat i) + (Int32.ofNat 3)), .inr (.inr (.inr 0)), .inl (kc_gs g (i + 2)), .inl (kc_gs g (i + 1)), .inr (.inr (.inl (some 0)))]) (by with_unfolding_all rfl) ?_
  rw [← Int32.ofNat_add]
  refine kL_sc hF hnc hns (j := i + 3) rfl (by omega) (by omega) ?_
  refine kL_call hF hnc hns (M2 := wk_m91) (av := [.inr (.inr (.inl (some 0))), .inl (kc_gs g (i + 1)), .inl (kc_gs g (i + 2)), .inl (kc_gs g (i + 3))]) (r := []) rfl rfl (kc_Con_le (fU_chang hg hI) (by decide)) (fun rv h1 hq => ?_)
  obtain ⟨⟨z, rfl⟩, hI1⟩ := hq
  show kL_Ev g wk_mL p e R s m args below meth c as 289 10466 Z 852 [(3, .inl (Int32.ofNat i)), (2, .inr (.inr (.inl (some 259)))), (1, .inr (.inr (.inl (some 0)))), (0, .inr (.inr (.inr 0)))] [.inl z] h1
  refine kL_go hF 6 (pc' := 858) (L' := [(3, .inl (Int32.ofNat i)), (2, .inr (.inr (.inl (some 259)))), (1, .inr (.inr (.inl (some 0)))), (0, .inr (.inr (.inr 0)))]) (S' := [.inl ((Int32.ofNat i) + (Int32.ofNat 1)), .inr (.inr (.inr 0)), .inr (.inr (.inl (some 259)))]) (by with_unfolding_all rfl) ?_
  rw [← Int32.ofNat_add]
  refine kL_sc hF hnc hns (j := i + 1) rfl (by omega) (by omega) ?_
  refine kL_go hF 4 (pc' := 863) (L' := [(3, .inl (Int32.ofNat i)), (2, .inr (.inr (.inl (some 259)))), (1, .inr (.inr (.inl (some 0)))), (0, .inr (.inr (.inr 0)))]) (S' := [.inl ((Int32.ofNat i) + (Int32.ofNat 2)), .inr (.inr (.inr 0)), .inl (kc_gs g (i + 1)), .inr (.inr (.inl (some 259)))]) (by with_unfolding_all rfl) ?_
  rw [← Int32.ofNat_add]
  refine kL_sc hF hnc hns (j := i + 2) rfl (by omega) (by omega) ?_
  refine kL_go hF 4 (pc' := 868) (L' := [(3, .inl (Int32.ofNat i)), (2, .inr (.inr (.inl (some 259)))), (1, .inr (.inr (.inl (some 0)))), (0, .inr (.inr (.inr 0)))]) (S' := [.inl ((Int32.ofNat i) + (Int32.ofNat 3)), .inr (.inr (.inr 0)), .inl (kc_gs g (i + 2)), .inl (kc_gs g (i + 1)), .inr (.inr (.inl (some 259)))]) (by with_unfolding_all rfl) ?_
  rw [← Int32.ofNat_add]
  refine kL_sc hF hnc hns (j := i + 3) rfl (by omega) (by omega) ?_
  refine kL_call hF hnc hns (M2 := wk_m92) (av := [.inr (.inr (.inl (some 259))), .inl (kc_gs g (i + 1)), .inl (kc_gs g (i + 2)), .inl (kc_gs g (i + 3))]) (r := []) rfl rfl (kc_Con_le (fU_rhang hg hI1) (by decide)) (fun rv h2 hq2 => ?_)
  obtain ⟨⟨z2, rfl⟩, hI2⟩ := hq2
  show kL_Ev g wk_mL p e R s m args below meth c as 289 10466 Z 872 [(3, .inl (Int32.ofNat i)), (2, .inr (.inr (.inl (some 259)))), (1, .inr (.inr (.inl (some 0)))), (0, .inr (.inr (.inr 0)))] [.inl z2] h2
  refine kL_go hF 2 (pc' := 1207) (L' := [(3, .inl (Int32.ofNat i)), (2, .inr (.inr (.inl (some 259)))), (1, .inr (.inr (.inl (some 0)))), (0, .inr (.inr (.inr 0)))]) (S' := []) (by with_unfolding_all rfl) ?_
  exact kL_next hg hF hnc hns hL hi hI2 hK
set_option maxRecDepth 20000 in
theorem kL_20 {g : kc_G} {p : Program} {e : Env} {R : Room} {s : State} {m : MethodId} {args : Array Value} {below : List Frame} {meth : Method} {c : Code} {as : List Nat} {Z : State → Prop} {h : kc_H} {i : Nat} (hg : kc_ok g) (hF : kc_fix g 40 wk_mL p R s m args meth c) (hnc : 289 ≤ R.cells) (hns : 10466 ≤ R.slots) (hL : kc_gL g < 2147483000) (hi : i + 5 ≤ kc_gL g) (hI : fu_I h) (hK : ∀ h', fu_I h' → kL_Ev g wk_mL p e R s m args below meth c as 289 10466 Z 18 [(3, .inl (Int32.ofNat (i + 5))), (2, .inr (.inr (.inl (some 259)))), (1, .inr (.inr (.inl (some 0)))), (0, .inr (.inr (.inr 0)))] [] h') : kL_Ev g wk_mL p e R s m args below meth c as 289 10466 Z 876 [(3, .inl (Int32.ofNat i)), (2, .inr (.inr (.inl (some 259)))), (1, .inr (.inr (.inl (some 0)))), (0, .inr (.inr (.inr 0)))] [] h := by
  refine kL_go hF 5 (pc' := 881) (L' := [(3, .inl (Int32.ofNat i)), (2, .inr (.inr (.inl (some 259)))), (1, .inr (.inr (.inl (some 0)))), (0, .inr (.inr (.inr 0)))]) (S' := [.inl ((Int32.ofNat i) + (Int32.ofNat 1)), .inr (.inr (.inr 0)), .inr (.inr (.inl (some 0)))]) (by with_unfolding_all rfl) ?_
  rw [← Int32.ofNat_add]
  refine kL_sc hF hnc hns (j := i + 1) rfl (by omega) (by omega) ?_
  refine kL_call hF hnc hns (M2 := wk_m93) (av := [.inr (.inr (.inl (some 0))), .inl (kc_gs g (i + 1))]) (r := []) rfl rfl (kc_Con_le (fU_Xline hg hI) (by decide)) (fun rv h1 hq => ?_)
  obtain ⟨z, rfl, hq⟩ := hq
  show kL_Ev g wk_mL p e R s m args below meth c as 289 10466 Z 885 [(3, .inl (Int32.ofNat i)), (2, .inr (.inr (.inl (some 259)))), (1, .inr (.inr (.inl (some 0)))), (0, .inr (.inr (.inr 0)))] [.inl z] h1
  refine kL_go hF 6 (pc' := 891) (L' := [(3, .inl (Int32.ofNat i)), (2, .inr (.inr (.inl (some 259)))), (1, .inr (.inr (.inl (some 0)))), (0, .inr (.inr (.inr 0)))]) (S' := [.inl ((Int32.ofNat i) + (Int32.ofNat 1)), .inr (.inr (.inr 0)), .inr (.inr (.inl (some 259)))]) (by with_unfolding_all rfl) ?_
  rw [← Int32.ofNat_add]
  refine kL_sc hF hnc hns (j := i + 1) rfl (by omega) (by omega) ?_
  refine kL_call hF hnc hns (M2 := wk_m94) (av := [.inr (.inr (.inl (some 259))), .inl (kc_gs g (i + 1))]) (r := []) rfl rfl (kc_Con_le (hq) (by decide)) (fun rv h2 hq2 => ?_)
  obtain ⟨rfl, hI2⟩ := hq2
  have hzz : ∃ z2, z2 = z := ⟨z, rfl⟩
  obtain ⟨z2, rfl⟩ := hzz
  show kL_Ev g wk_mL p e R s m args below meth c as 289 10466 Z 895 [(3, .inl (Int32.ofNat i)), (2, .inr (.inr (.inl (some 259)))), (1, .inr (.inr (.inl (some 0)))), (0, .inr (.inr (.inr 0)))] [.inl z2] h2
  refine kL_go hF 2 (pc' := 1207) (L' := [(3, .inl (Int32.ofNat i)), (2, .inr (.inr (.inl (some 259)))), (1, .inr (.inr (.inl (some 0)))), (0, .inr (.inr (.inr 0)))]) (S' := []) (by with_unfolding_all rfl) ?_
  exact kL_next hg hF hnc hns hL hi hI2 hK
set_option maxRecDepth 20000 in
theorem kL_21 {g : kc_G} {p : Program} {e : Env} {R : Room} {s : State} {m : MethodId} {args : Array Value} {below : List Frame} {meth : Method} {c : Code} {as : List Nat} {Z : State → Prop} {h : kc_H} {i : Nat} (hg : kc_ok g) (hF : kc_fix g 40 wk_mL p R s m args meth c) (hnc : 289 ≤ R.cells) (hns : 10466 ≤ R.slots) (hL : kc_gL g < 2147483000) (hi : i + 5 ≤ kc_gL g) (hI : fu_I h) (hK : ∀ h', fu_I h' → kL_Ev g wk_mL p e R s m args below meth c as 289 10466 Z 18 [(3, .inl (Int32.ofNat (i + 5))), (2, .inr (.inr (.inl (some 259)))), (1, .inr (.inr (.inl (some 0)))), (0, .inr (.inr (.inr 0)))] [] h') : kL_Ev g wk_mL p e R s m args below meth c as 289 10466 Z 899 [(3, .inl (Int32.ofNat i)), (2, .inr (.inr (.inl (some 259)))), (1, .inr (.inr (.inl (some 0)))), (0, .inr (.inr (.inr 0)))] [] h := by
  refine kL_go hF 1 (pc' := 900) (L' := [(3, .inl (Int32.ofNat i)), (2, .inr (.inr (.inl (some 259)))), (1, .inr (.inr (.inl (some 0)))), (0, .inr (.inr (.inr 0)))]) (S' := [.inr (.inr (.inl (some 0)))]) (by with_unfolding_all rfl) ?_
  refine kL_call hF hnc hns (M2 := wk_m95) (av := [.inr (.inr (.inl (some 0)))]) (r := []) rfl rfl (kc_Con_le (fU_Xunline hg hI) (by decide)) (fun rv h1 hq => ?_)
  obtain ⟨z, rfl, hq⟩ := hq
  show kL_Ev g wk_mL p e R s m args below meth c as 289 10466 Z 903 [(3, .inl (Int32.ofNat i)), (2, .inr (.inr (.inl (some 259)))), (1, .inr (.inr (.inl (some 0)))), (0, .inr (.inr (.inr 0)))] [.inl z] h1
  refine kL_go hF 2 (pc' := 905) (L' := [(3, .inl (Int32.ofNat i)), (2, .inr (.inr (.inl (some 259)))), (1, .inr (.inr (.inl (some 0)))), (0, .inr (.inr (.inr 0)))]) (S' := [.inr (.inr (.inl (some 259)))]) (by with_unfolding_all rfl) ?_
  refine kL_call hF hnc hns (M2 := wk_m96) (av := [.inr (.inr (.inl (some 259)))]) (r := []) rfl rfl (kc_Con_le (hq) (by decide)) (fun rv h2 hq2 => ?_)
  obtain ⟨rfl, hI2⟩ := hq2
  have hzz : ∃ z2, z2 = z := ⟨z, rfl⟩
  obtain ⟨z2, rfl⟩ := hzz
  show kL_Ev g wk_mL p e R s m args below meth c as 289 10466 Z 908 [(3, .inl (Int32.ofNat i)), (2, .inr (.inr (.inl (some 259)))), (1, .inr (.inr (.inl (some 0)))), (0, .inr (.inr (.inr 0)))] [.inl z2] h2
  refine kL_go hF 2 (pc' := 1207) (L' := [(3, .inl (Int32.ofNat i)), (2, .inr (.inr (.inl (some 259)))), (1, .inr (.inr (.inl (some 0)))), (0, .inr (.inr (.inr 0)))]) (S' := []) (by with_unfolding_all rfl) ?_
  exact kL_next hg hF hnc hns hL hi hI2 hK
set_option maxRecDepth 20000 in
theorem kL_22 {g : kc_G} {p : Program} {e : Env} {R : Room} {s : State} {m : MethodId} {args : Array Value} {below : List Frame} {meth : Method} {c : Code} {as : List Nat} {Z : State → Prop} {h : kc_H} {i : Nat} (hg : kc_ok g) (hF : kc_fix g 40 wk_mL p R s m args meth c) (hnc : 289 ≤ R.cells) (hns : 10466 ≤ R.slots) (hL : kc_gL g < 2147483000) (hi : i + 5 ≤ kc_gL g) (hI : fu_I h) (hK : ∀ h', fu_I h' → kL_Ev g wk_mL p e R s m args below meth c as 289 10466 Z 18 [(3, .inl (Int32.ofNat (i + 5))), (2, .inr (.inr (.inl (some 259)))), (1, .inr (.inr (.inl (some 0)))), (0, .inr (.inr (.inr 0)))] [] h') : kL_Ev g wk_mL p e R s m args below meth c as 289 10466 Z 912 [(3, .inl (Int32.ofNat i)), (2, .inr (.inr (.inl (some 259)))), (1, .inr (.inr (.inl (some 0)))), (0, .inr (.inr (.inr 0)))] [] h := by
  refine kL_go hF 1 (pc' := 913) (L' := [(3, .inl (Int32.ofNat i)), (2, .inr (.inr (.inl (some 259)))), (1, .inr (.inr (.inl (some 0)))), (0, .inr (.inr (.inr 0)))]) (S' := [.inr (.inr (.inl (some 0)))]) (by with_unfolding_all rfl) ?_
  refine kL_call hF hnc hns (M2 := wk_m97) (av := [.inr (.inr (.inl (some 0)))]) (r := []) rfl rfl (kc_Con_le (fU_cborne hg hI) (by decide)) (fun rv h1 hq => ?_)
  obtain ⟨⟨z, rfl⟩, hI1⟩ := hq
  show kL_Ev g wk_mL p e R s m args below meth c as 289 10466 Z 916 [(3, .inl (Int32.ofNat i)), (2, .inr (.inr (.inl (some 259)))), (1, .inr (.inr (.inl (some 0)))), (0, .inr (.inr (.inr 0)))] [.inl z] h1
  refine kL_go hF 2 (pc' := 918) (L' := [(3, .inl (Int32.ofNat i)), (2, .inr (.inr (.inl (some 259)))), (1, .inr (.inr (.inl (some 0)))), (0, .inr (.inr (.inr 0)))]) (S' := [.inr (.inr (.inl (some 259)))]) (by with_unfolding_all rfl) ?_
  refine kL_call hF hnc hns (M2 := wk_m103) (av := [.inr (.inr (.inl (some 259)))]) (r := []) rfl rfl (kc_Con_le (fU_rborne hg hI1) (by decide)) (fun rv h2 hq2 => ?_)
  obtain ⟨⟨z2, rfl⟩, hI2⟩ := hq2
  show kL_Ev g wk_mL p e R s m args below meth c as 289 10466 Z 921 [(3, .inl (Int32.ofNat i)), (2, .inr (.inr (.inl (some 259)))), (1, .inr (.inr (.inl (some 0)))), (0, .inr (.inr (.inr 0)))] [.inl z2] h2
  refine kL_go hF 2 (pc' := 1207) (L' := [(3, .inl (Int32.ofNat i)), (2, .inr (.inr (.inl (some 259)))), (1, .inr (.inr (.inl (some 0)))), (0, .inr (.inr (.inr 0)))]) (S' := []) (by with_unfolding_all rfl) ?_
  exact kL_next hg hF hnc hns hL hi hI2 hK
set_option maxRecDepth 20000 in
theorem kL_23 {g : kc_G} {p : Program} {e : Env} {R : Room} {s : State} {m : MethodId} {args : Array Value} {below : List Frame} {meth : Method} {c : Code} {as : List Nat} {Z : State → Prop} {h : kc_H} {i : Nat} (hg : kc_ok g) (hF : kc_fix g 40 wk_mL p R s m args meth c) (hnc : 289 ≤ R.cells) (hns : 10466 ≤ R.slots) (hL : kc_gL g < 2147483000) (hi : i + 5 ≤ kc_gL g) (hI : fu_I h) (hK : ∀ h', fu_I h' → kL_Ev g wk_mL p e R s m args below meth c as 289 10466 Z 18 [(3, .inl (Int32.ofNat (i + 5))), (2, .inr (.inr (.inl (some 259)))), (1, .inr (.inr (.inl (some 0)))), (0, .inr (.inr (.inr 0)))] [] h') : kL_Ev g wk_mL p e R s m args below meth c as 289 10466 Z 925 [(3, .inl (Int32.ofNat i)), (2, .inr (.inr (.inl (some 259)))), (1, .inr (.inr (.inl (some 0)))), (0, .inr (.inr (.inr 0)))] [] h := by
  refine kL_go hF 1 (pc' := 926) (L' := [(3, .inl (Int32.ofNat i)), (2, .inr (.inr (.inl (some 259)))), (1, .inr (.inr (.inl (some 0)))), (0, .inr (.inr (.inr 0)))]) (S' := [.inr (.inr (.inl (some 0)))]) (by with_unfolding_all rfl) ?_
  refine kL_call hF hnc hns (M2 := wk_m107) (av := [.inr (.inr (.inl (some 0)))]) (r := []) rfl rfl (kc_Con_le (fU_cworst hg hI) (by decide)) (fun rv h1 hq => ?_)
  obtain ⟨⟨z, rfl⟩, hI1⟩ := hq
  show kL_Ev g wk_mL p e R s m args below meth c as 289 10466 Z 929 [(3, .inl (Int32.ofNat i)), (2, .inr (.inr (.inl (some 259)))), (1, .inr (.inr (.inl (some 0)))), (0, .inr (.inr (.inr 0)))] [.inl z] h1
  refine kL_go hF 2 (pc' := 931) (L' := [(3, .inl (Int32.ofNat i)), (2, .inr (.inr (.inl (some 259)))), (1, .inr (.inr (.inl (some 0)))), (0, .inr (.inr (.inr 0)))]) (S' := [.inr (.inr (.inl (some 259)))]) (by with_unfolding_all rfl) ?_
  refine kL_call hF hnc hns (M2 := wk_m109) (av := [.inr (.inr (.inl (some 259)))]) (r := []) rfl rfl (kc_Con_le (fU_rworst hg hI1) (by decide)) (fun rv h2 hq2 => ?_)
  obtain ⟨⟨z2, rfl⟩, hI2⟩ := hq2
  show kL_Ev g wk_mL p e R s m args below meth c as 289 10466 Z 934 [(3, .inl (Int32.ofNat i)), (2, .inr (.inr (.inl (some 259)))), (1, .inr (.inr (.inl (some 0)))), (0, .inr (.inr (.inr 0)))] [.inl z2] h2
  refine kL_go hF 2 (pc' := 1207) (L' := [(3, .inl (Int32.ofNat i)), (2, .inr (.inr (.inl (some 259)))), (1, .inr (.inr (.inl (some 0)))), (0, .inr (.inr (.inr 0)))]) (S' := []) (by with_unfolding_all rfl) ?_
  exact kL_next hg hF hnc hns hL hi hI2 hK
set_option maxRecDepth 20000 in
theorem kL_24 {g : kc_G} {p : Program} {e : Env} {R : Room} {s : State} {m : MethodId} {args : Array Value} {below : List Frame} {meth : Method} {c : Code} {as : List Nat} {Z : State → Prop} {h : kc_H} {i : Nat} (hg : kc_ok g) (hF : kc_fix g 40 wk_mL p R s m args meth c) (hnc : 289 ≤ R.cells) (hns : 10466 ≤ R.slots) (hL : kc_gL g < 2147483000) (hi : i + 5 ≤ kc_gL g) (hI : fu_I h) (hK : ∀ h', fu_I h' → kL_Ev g wk_mL p e R s m args below meth c as 289 10466 Z 18 [(3, .inl (Int32.ofNat (i + 5))), (2, .inr (.inr (.inl (some 259)))), (1, .inr (.inr (.inl (some 0)))), (0, .inr (.inr (.inr 0)))] [] h') : kL_Ev g wk_mL p e R s m args below meth c as 289 10466 Z 938 [(3, .inl (Int32.ofNat i)), (2, .inr (.inr (.inl (some 259)))), (1, .inr (.inr (.inl (some 0)))), (0, .inr (.inr (.inr 0)))] [] h := by
  refine kL_go hF 1 (pc' := 939) (L' := [(3, .inl (Int32.ofNat i)), (2, .inr (.inr (.inl (some 259)))), (1, .inr (.inr (.inl (some 0)))), (0, .inr (.inr (.inr 0)))]) (S' := [.inr (.inr (.inl (some 0)))]) (by with_unfolding_all rfl) ?_
  refine kL_call hF hnc hns (M2 := wk_m111) (av := [.inr (.inr (.inl (some 0)))]) (r := []) rfl rfl (kc_Con_le (fU_clonger hg hI) (by decide)) (fun rv h1 hq => ?_)
  obtain ⟨⟨z, rfl⟩, hI1⟩ := hq
  show kL_Ev g wk_mL p e R s m args below meth c as 289 10466 Z 942 [(3, .inl (Int32.ofNat i)), (2, .inr (.inr (.inl (some 259)))), (1, .inr (.inr (.inl (some 0)))), (0, .inr (.inr (.inr 0)))] [.inl z] h1
  refine kL_go hF 2 (pc' := 944) (L' := [(3, .inl (Int32.ofNat i)), (2, .inr (.inr (.inl (some 259)))), (1, .inr (.inr (.inl (some 0)))), (0, .inr (.inr (.inr 0)))]) (S' := [.inr (.inr (.inl (some 259)))]) (by with_unfolding_all rfl) ?_
  refine kL_call hF hnc hns (M2 := wk_m113) (av := [.inr (.inr (.inl (some 259)))]) (r := []) rfl rfl (kc_Con_le (fU_rlonger hg hI1) (by decide)) (fun rv h2 hq2 => ?_)
  obtain ⟨⟨z2, rfl⟩, hI2⟩ := hq2
  show kL_Ev g wk_mL p e R s m args below meth c as 289 10466 Z 947 [(3, .inl (Int32.ofNat i)), (2, .inr (.inr (.inl (some 259)))), (1, .inr (.inr (.inl (some 0)))), (0, .inr (.inr (.inr 0)))] [.inl z2] h2
  refine kL_go hF 2 (pc' := 1207) (L' := [(3, .inl (Int32.ofNat i)), (2, .inr (.inr (.inl (some 259)))), (1, .inr (.inr (.inl (some 0)))), (0, .inr (.inr (.inr 0)))]) (S' := []) (by with_unfolding_all rfl) ?_
  exact kL_next hg hF hnc hns hL hi hI2 hK
set_option maxRecDepth 20000 in
theorem kL_25 {g : kc_G} {p : Program} {e : Env} {R : Room} {s : State} {m : MethodId} {args : Array Value} {below : List Frame} {meth : Method} {c : Code} {as : List Nat} {Z : State → Prop} {h : kc_H} {i : Nat} (hg : kc_ok g) (hF : kc_fix g 40 wk_mL p R s m args meth c) (hnc : 289 ≤ R.cells) (hns : 10466 ≤ R.slots) (hL : kc_gL g < 2147483000) (hi : i + 5 ≤ kc_gL g) (hI : fu_I h) (hK : ∀ h', fu_I h' → kL_Ev g wk_mL p e R s m args below meth c as 289 10466 Z 18 [(3, .inl (Int32.ofNat (i + 5))), (2, .inr (.inr (.inl (some 259)))), (1, .inr (.inr (.inl (some 0)))), (0, .inr (.inr (.inr 0)))] [] h') : kL_Ev g wk_mL p e R s m args below meth c as 289 10466 Z 951 [(3, .inl (Int32.ofNat i)), (2, .inr (.inr (.inl (some 259)))), (1, .inr (.inr (.inl (some 0)))), (0, .inr (.inr (.inr 0)))] [] h := by
  refine kL_go hF 5 (pc' := 956) (L' := [(3, .inl (Int32.ofNat i)), (2, .inr (.inr (.inl (some 259)))), (1, .inr (.inr (.inl (some 0)))), (0, .inr (.inr (.inr 0)))]) (S' := [.inl ((Int32.ofNat i) + (Int32.ofNat 1)), .inr (.inr (.inr 0)), .inr (.inr (.inl (some 0)))]) (by with_unfolding_all rfl) ?_
  rw [← Int32.ofNat_add]
  refine kL_sc hF hnc hns (j := i + 1) rfl (by omega) (by omega) ?_
  refine kL_call hF hnc hns (M2 := wk_m114) (av := [.inr (.inr (.inl (some 0))), .inl (kc_gs g (i + 1))]) (r := []) rfl rfl (kc_Con_le (fU_cstays hg hI) (by decide)) (fun rv h1 hq => ?_)
  obtain ⟨⟨z, rfl⟩, hI1⟩ := hq
  show kL_Ev g wk_mL p e R s m args below meth c as 289 10466 Z 960 [(3, .inl (Int32.ofNat i)), (2, .inr (.inr (.inl (some 259)))), (1, .inr (.inr (.inl (some 0)))), (0, .inr (.inr (.inr 0)))] [.inl z] h1
  refine kL_go hF 6 (pc' := 966) (L' := [(3, .inl (Int32.ofNat i)), (2, .inr (.inr (.inl (some 259)))), (1, .inr (.inr (.inl (some 0)))), (0, .inr (.inr (.inr 0)))]) (S' := [.inl ((Int32.ofNat i) + (Int32.ofNat 1)), .inr (.inr (.inr 0)), .inr (.inr (.inl (some 259)))]) (by with_unfolding_all rfl) ?_
  rw [← Int32.ofNat_add]
  refine kL_sc hF hnc hns (j := i + 1) rfl (by omega) (by omega) ?_
  refine kL_call hF hnc hns (M2 := wk_m120) (av := [.inr (.inr (.inl (some 259))), .inl (kc_gs g (i + 1))]) (r := []) rfl rfl (kc_Con_le (fU_rstays hg hI1) (by decide)) (fun rv h2 hq2 => ?_)
  obtain ⟨⟨z2, rfl⟩, hI2⟩ := hq2
  show kL_Ev g wk_mL p e R s m args below meth c as 289 10466 Z 970 [(3, .inl (Int32.ofNat i)), (2, .inr (.inr (.inl (some 259)))), (1, .inr (.inr (.inl (some 0)))), (0, .inr (.inr (.inr 0)))] [.inl z2] h2
  refine kL_go hF 2 (pc' := 1207) (L' := [(3, .inl (Int32.ofNat i)), (2, .inr (.inr (.inl (some 259)))), (1, .inr (.inr (.inl (some 0)))), (0, .inr (.inr (.inr 0)))]) (S' := []) (by with_unfolding_all rfl) ?_
  exact kL_next hg hF hnc hns hL hi hI2 hK
set_option maxRecDepth 20000 in
theorem kL_26 {g : kc_G} {p : Program} {e : Env} {R : Room} {s : State} {m : MethodId} {args : Array Value} {below : List Frame} {meth : Method} {c : Code} {as : List Nat} {Z : State → Prop} {h : kc_H} {i : Nat} (hg : kc_ok g) (hF : kc_fix g 40 wk_mL p R s m args meth c) (hnc : 289 ≤ R.cells) (hns : 10466 ≤ R.slots) (hL : kc_gL g < 2147483000) (hi : i + 5 ≤ kc_gL g) (hI : fu_I h) (hK : ∀ h', fu_I h' → kL_Ev g wk_mL p e R s m args below meth c as 289 10466 Z 18 [(3, .inl (Int32.ofNat (i + 5))), (2, .inr (.inr (.inl (some 259)))), (1, .inr (.inr (.inl (some 0)))), (0, .inr (.inr (.inr 0)))] [] h') : kL_Ev g wk_mL p e R s m args below meth c as 289 10466 Z 974 [(3, .inl (Int32.ofNat i)), (2, .inr (.inr (.inl (some 259)))), (1, .inr (.inr (.inl (some 0)))), (0, .inr (.inr (.inr 0)))] [] h := by
  refine kL_go hF 5 (pc' := 979) (L' := [(3, .inl (Int32.ofNat i)), (2, .inr (.inr (.inl (some 259)))), (1, .inr (.inr (.inl (some 0)))), (0, .inr (.inr (.inr 0)))]) (S' := [.inl ((Int32.ofNat i) + (Int32.ofNat 1)), .inr (.inr (.inr 0)), .inr (.inr (.inl (some 0)))]) (by with_unfolding_all rfl) ?_
  rw [← Int32.ofNat_add]
  refine kL_sc hF hnc hns (j := i + 1) rfl (by omega) (by omega) ?_
  refine kL_call hF hnc hns (M2 := wk_m125) (av := [.inr (.inr (.inl (some 0))), .inl (kc_gs g (i + 1))]) (r := []) rfl rfl (kc_Con_le (fU_cbest hg hI) (by decide)) (fun rv h1 hq => ?_)
  obtain ⟨⟨z, rfl⟩, hI1⟩ := hq
  show kL_Ev g wk_mL p e R s m args below meth c as 289 10466 Z 983 [(3, .inl (Int32.ofNat i)), (2, .inr (.inr (.inl (some 259)))), (1, .inr (.inr (.inl (some 0)))), (0, .inr (.inr (.inr 0)))] [.inl z] h1
  refine kL_go hF 6 (pc' := 989) (L' := [(3, .inl (Int32.ofNat i)), (2, .inr (.inr (.inl (some 259)))), (1, .inr (.inr (.inl (some 0)))), (0, .inr (.inr (.inr 0)))]) (S' := [.inl ((Int32.ofNat i) + (Int32.ofNat 1)), .inr (.inr (.inr 0)), .inr (.inr (.inl (some 259)))]) (by with_unfolding_all rfl) ?_
  rw [← Int32.ofNat_add]
  refine kL_sc hF hnc hns (j := i + 1) rfl (by omega) (by omega) ?_
  refine kL_call hF hnc hns (M2 := wk_m129) (av := [.inr (.inr (.inl (some 259))), .inl (kc_gs g (i + 1))]) (r := []) rfl rfl (kc_Con_le (fU_rbest hg hI1) (by decide)) (fun rv h2 hq2 => ?_)
  obtain ⟨⟨z2, rfl⟩, hI2⟩ := hq2
  show kL_Ev g wk_mL p e R s m args below meth c as 289 10466 Z 993 [(3, .inl (Int32.ofNat i)), (2, .inr (.inr (.inl (some 259)))), (1, .inr (.inr (.inl (some 0)))), (0, .inr (.inr (.inr 0)))] [.inl z2] h2
  refine kL_go hF 2 (pc' := 1207) (L' := [(3, .inl (Int32.ofNat i)), (2, .inr (.inr (.inl (some 259)))), (1, .inr (.inr (.inl (some 0)))), (0, .inr (.inr (.inr 0)))]) (S' := []) (by with_unfolding_all rfl) ?_
  exact kL_next hg hF hnc hns hL hi hI2 hK
set_option maxRecDepth 20000 in
theorem kL_27 {g : kc_G} {p : Program} {e : Env} {R : Room} {s : State} {m : MethodId} {args : Array Value} {below : List Frame} {meth : Method} {c : Code} {as : List Nat} {Z : State → Prop} {h : kc_H} {i : Nat} (hg : kc_ok g) (hF : kc_fix g 40 wk_mL p R s m args meth c) (hnc : 289 ≤ R.cells) (hns : 10466 ≤ R.slots) (hL : kc_gL g < 2147483000) (hi : i + 5 ≤ kc_gL g) (hI : fu_I h) (hK : ∀ h', fu_I h' → kL_Ev g wk_mL p e R s m args below meth c as 289 10466 Z 18 [(3, .inl (Int32.ofNat (i + 5))), (2, .inr (.inr (.inl (some 259)))), (1, .inr (.inr (.inl (some 0)))), (0, .inr (.inr (.inr 0)))] [] h') : kL_Ev g wk_mL p e R s m args below meth c as 289 10466 Z 997 [(3, .inl (Int32.ofNat i)), (2, .inr (.inr (.inl (some 259)))), (1, .inr (.inr (.inl (some 0)))), (0, .inr (.inr (.inr 0)))] [] h := by
  refine kL_go hF 1 (pc' := 998) (L' := [(3, .inl (Int32.ofNat i)), (2, .inr (.inr (.inl (some 259)))), (1, .inr (.inr (.inl (some 0)))), (0, .inr (.inr (.inr 0)))]) (S' := [.inr (.inr (.inl (some 0)))]) (by with_unfolding_all rfl) ?_
  refine kL_call hF hnc hns (M2 := wk_m134) (av := [.inr (.inr (.inl (some 0)))]) (r := []) rfl rfl (kc_Con_le (fU_cliftings hg hI) (by decide)) (fun rv h1 hq => ?_)
  obtain ⟨⟨z, rfl⟩, hI1⟩ := hq
  show kL_Ev g wk_mL p e R s m args below meth c as 289 10466 Z 1001 [(3, .inl (Int32.ofNat i)), (2, .inr (.inr (.inl (some 259)))), (1, .inr (.inr (.inl (some 0)))), (0, .inr (.inr (.inr 0)))] [.inl z] h1
  refine kL_go hF 2 (pc' := 1003) (L' := [(3, .inl (Int32.ofNat i)), (2, .inr (.inr (.inl (some 259)))), (1, .inr (.inr (.inl (some 0)))), (0, .inr (.inr (.inr 0)))]) (S' := [.inr (.inr (.inl (some 259)))]) (by with_unfolding_all rfl) ?_
  refine kL_call hF hnc hns (M2 := wk_m136) (av := [.inr (.inr (.inl (some 259)))]) (r := []) rfl rfl (kc_Con_le (fU_rliftings hg hI1) (by decide)) (fun rv h2 hq2 => ?_)
  obtain ⟨⟨z2, rfl⟩, hI2⟩ := hq2
  show kL_Ev g wk_mL p e R s m args below meth c as 289 10466 Z 1006 [(3, .inl (Int32.ofNat i)), (2, .inr (.inr (.inl (some 259)))), (1, .inr (.inr (.inl (some 0)))), (0, .inr (.inr (.inr 0)))] [.inl z2] h2
  refine kL_go hF 2 (pc' := 1207) (L' := [(3, .inl (Int32.ofNat i)), (2, .inr (.inr (.inl (some 259)))), (1, .inr (.inr (.inl (some 0)))), (0, .inr (.inr (.inr 0)))]) (S' := []) (by with_unfolding_all rfl) ?_
  exact kL_next hg hF hnc hns hL hi hI2 hK
set_option maxRecDepth 20000 in
theorem kL_28 {g : kc_G} {p : Program} {e : Env} {R : Room} {s : State} {m : MethodId} {args : Array Value} {below : List Frame} {meth : Method} {c : Code} {as : List Nat} {Z : State → Prop} {h : kc_H} {i : Nat} (hg : kc_ok g) (hF : kc_fix g 40 wk_mL p R s m args meth c) (hnc : 289 ≤ R.cells) (hns : 10466 ≤ R.slots) (hL : kc_gL g < 2147483000) (hi : i + 5 ≤ kc_gL g) (hI : fu_I h) (hK : ∀ h', fu_I h' → kL_Ev g wk_mL p e R s m args below meth c as 289 10466 Z 18 [(3, .inl (Int32.ofNat (i + 5))), (2, .inr (.inr (.inl (some 259)))), (1, .inr (.inr (.inl (some 0)))), (0, .inr (.inr (.inr 0)))] [] h') : kL_Ev g wk_mL p e R s m args below meth c as 289 10466 Z 1010 [(3, .inl (Int32.ofNat i)), (2, .inr (.inr (.inl (some 259)))), (1, .inr (.inr (.inl (some 0)))), (0, .inr (.inr (.inr 0)))] [] h := by
  refine kL_go hF 1 (pc' := 1011) (L' := [(3, .inl (Int32.ofNat i)), (2, .inr (.inr (.inl (some 259)))), (1, .inr (.inr (.inl (some 0)))), (0, .inr (.inr (.inr 0)))]) (S' := [.inr (.inr (.inl (some 0)))]) (by with_unfolding_all rfl) ?_
  refine kL_call hF hnc hns (M2 := wk_m137) (av := [.inr (.inr (.inl (some 0)))]) (r := []) rfl rfl (kc_Con_le (fU_cfewest hg hI) (by decide)) (fun rv h1 hq => ?_)
  obtain ⟨⟨z, rfl⟩, hI1⟩ := hq
  show kL_Ev g wk_mL p e R s m args below meth c as 289 10466 Z 1014 [(3, .inl (Int32.ofNat i)), (2, .inr (.inr (.inl (some 259)))), (1, .inr (.inr (.inl (some 0)))), (0, .inr (.inr (.inr 0)))] [.inl z] h1
  refine kL_go hF 2 (pc' := 1016) (L' := [(3, .inl (Int32.ofNat i)), (2, .inr (.inr (.inl (some 259)))), (1, .inr (.inr (.inl (some 0)))), (0, .inr (.inr (.inr 0)))]) (S' := [.inr (.inr (.inl (some 259)))]) (by with_unfolding_all rfl) ?_
  refine kL_call hF hnc hns (M2 := wk_m138) (av := [.inr (.inr (.inl (some 259)))]) (r := []) rfl rfl (kc_Con_le (fU_rfewest hg hI1) (by decide)) (fun rv h2 hq2 => ?_)
  obtain ⟨⟨z2, rfl⟩, hI2⟩ := hq2
  show kL_Ev g wk_mL p e R s m args below meth c as 289 10466 Z 1019 [(3, .inl (Int32.ofNat i)), (2, .inr (.inr (.inl (some 259)))), (1, .inr (.inr (.inl (some 0)))), (0, .inr (.inr (.inr 0)))] [.inl z2] h2
  refine kL_go hF 2 (pc' := 1207) (L' := [(3, .inl (Int32.ofNat i)), (2, .inr (.inr (.inl (some 259)))), (1, .inr (.inr (.inl (some 0)))), (0, .inr (.inr (.inr 0)))]) (S' := []) (by with_unfolding_all rfl) ?_
  exact kL_next hg hF hnc hns hL hi hI2 hK
set_option maxRecDepth 20000 in
theorem kL_29 {g : kc_G} {p : Program} {e : Env} {R : Room} {s : State} {m : MethodId} {args : Array Value} {below : List Frame} {meth : Method} {c : Code} {as : List Nat} {Z : State → Prop} {h : kc_H} {i : Nat} (hg : kc_ok g) (hF : kc_fix g 40 wk_mL p R s m args meth c) (hnc : 289 ≤ R.cells) (hns : 10466 ≤ R.slots) (hL : kc_gL g < 2147483000) (hi : i + 5 ≤ kc_gL g) (hI : fu_I h) (hK : ∀ h', fu_I h' → kL_Ev g wk_mL p e R s m args below meth c as 289 10466 Z 18 [(3, .inl (Int32.ofNat (i + 5))), (2, .inr (.inr (.inl (some 259)))), (1, .inr (.inr (.inl (some 0)))), (0, .inr (.inr (.inr 0)))] [] h') : kL_Ev g wk_mL p e R s m args below meth c as 289 10466 Z 1023 [(3, .inl (Int32.ofNat i)), (2, .inr (.inr (.inl (some 259)))), (1, .inr (.inr (.inl (some 0)))), (0, .inr (.inr (.inr 0)))] [] h := by
  refine kL_go hF 1 (pc' := 1024) (L' := [(3, .inl (Int32.ofNat i)), (2, .inr (.inr (.inl (some 259)))), (1, .inr (.inr (.inl (some 0)))), (0, .inr (.inr (.inr 0)))]) (S' := [.inr (.inr (.inl (some 0)))]) (by with_unfolding_all rfl) ?_
  refine kL_call hF hnc hns (M2 := wk_m139) (av := [.inr (.inr (.inl (some 0)))]) (r := []) rfl rfl (kc_Con_le (fU_cchance hg hI) (by decide)) (fun rv h1 hq => ?_)
  obtain ⟨⟨z, rfl⟩, hI1⟩ := hq
  show kL_Ev g wk_mL p e R s m args below meth c as 289 10466 Z 1027 [(3, .inl (Int32.ofNat i)), (2, .inr (.inr (.inl (some 259)))), (1, .inr (.inr (.inl (some 0)))), (0, .inr (.inr (.inr 0)))] [.inl z] h1
  refine kL_go hF 2 (pc' := 1029) (L' := [(3, .inl (Int32.ofNat i)), (2, .inr (.inr (.inl (some 259)))), (1, .inr (.inr (.inl (some 0)))), (0, .inr (.inr (.inr 0)))]) (S' := [.inr (.inr (.inl (some 259)))]) (by with_unfolding_all rfl) ?_
  refine kL_call hF hnc hns (M2 := wk_m145) (av := [.inr (.inr (.inl (some 259)))]) (r := []) rfl rfl (kc_Con_le (fU_rchance hg hI1) (by decide)) (fun rv h2 hq2 => ?_)
  obtain ⟨⟨z2, rfl⟩, hI2⟩ := hq2
  show kL_Ev g wk_mL p e R s m args below meth c as 289 10466 Z 1032 [(3, .inl (Int32.ofNat i)), (2, .inr (.inr (.inl (some 259)))), (1, .inr (.inr (.inl (some 0)))), (0, .inr (.inr (.inr 0)))] [.inl z2] h2
  refine kL_go hF 2 (pc' := 1207) (L' := [(3, .inl (Int32.ofNat i)), (2, .inr (.inr (.inl (some 259)))), (1, .inr (.inr (.inl (some 0)))), (0, .inr (.inr (.inr 0)))]) (S' := []) (by with_unfolding_all rfl) ?_
  exact kL_next hg hF hnc hns hL hi hI2 hK
set_option maxRecDepth 20000 in
theorem kL_30 {g : kc_G} {p : Program} {e : Env} {R : Room} {s : State} {m : MethodId} {args : Array Value} {below : List Frame} {meth : Method} {c : Code} {as : List Nat} {Z : State → Prop} {h : kc_H} {i : Nat} (hg : kc_ok g) (hF : kc_fix g 40 wk_mL p R s m args meth c) (hnc : 289 ≤ R.cells) (hns : 10466 ≤ R.slots) (hL : kc_gL g < 2147483000) (hi : i + 5 ≤ kc_gL g) (hI : fu_I h) (hK : ∀ h', fu_I h' → kL_Ev g wk_mL p e R s m args below meth c as 289 10466 Z 18 [(3, .inl (Int32.ofNat (i + 5))), (2, .inr (.inr (.inl (some 259)))), (1, .inr (.inr (.inl (some 0)))), (0, .inr (.inr (.inr 0)))] [] h') : kL_Ev g wk_mL p e R s m args below meth c as 289 10466 Z 1036 [(3, .inl (Int32.ofNat i)), (2, .inr (.inr (.inl (some 259)))), (1, .inr (.inr (.inl (some 0)))), (0, .inr (.inr (.inr 0)))] [] h := by
  refine kL_go hF 5 (pc' := 1041) (L' := [(3, .inl (Int32.ofNat i)), (2, .inr (.inr (.inl (some 259)))), (1, .inr (.inr (.inl (some 0)))), (0, .inr (.inr (.inr 0)))]) (S' := [.inl ((Int32.ofNat i) + (Int32.ofNat 1)), .inr (.inr (.inr 0)), .inr (.inr (.inl (some 0)))]) (by with_unfolding_all rfl) ?_
  rw [← Int32.ofNat_add]
  refine kL_sc hF hnc hns (j := i + 1) rfl (by omega) (by omega) ?_
  refine kL_call hF hnc hns (M2 := wk_m151) (av := [.inr (.inr (.inl (some 0))), .inl (kc_gs g (i + 1))]) (r := []) rfl rfl (kc_Con_le (fU_ckeep hg hI) (by decide)) (fun rv h1 hq => ?_)
  obtain ⟨⟨z, rfl⟩, hI1⟩ := hq
  show kL_Ev g wk_mL p e R s m args below meth c as 289 10466 Z 1045 [(3, .inl (Int32.ofNat i)), (2, .inr (.inr (.inl (some 259)))), (1, .inr (.inr (.inl (some 0)))), (0, .inr (.inr (.inr 0)))] [.inl z] h1
  refine kL_go hF 6 (pc' := 1051) (L' := [(3, .inl (Int32.ofNat i)), (2, .inr (.inr (.inl (some 259)))), (1, .inr (.inr (.inl (some 0)))), (0, .inr (.inr (.inr 0)))]) (S' := [.inl ((Int32.ofNat i) + (Int32.ofNat 1)), .inr (.inr (.inr 0)), .inr (.inr (.inl (some 259)))]) (by with_unfolding_all rfl) ?_
  rw [← Int32.ofNat_add]
  refine kL_sc hF hnc hns (j := i + 1) rfl (by omega) (by omega) ?_
  refine kL_call hF hnc hns (M2 := wk_m152) (av := [.inr (.inr (.inl (some 259))), .inl (kc_gs g (i + 1))]) (r := []) rfl rfl (kc_Con_le (fU_rkeep hg hI1) (by decide)) (fun rv h2 hq2 => ?_)
  obtain ⟨⟨z2, rfl⟩, hI2⟩ := hq2
  show kL_Ev g wk_mL p e R s m args below meth c as 289 10466 Z 1055 [(3, .inl (Int32.ofNat i)), (2, .inr (.inr (.inl (some 259)))), (1, .inr (.inr (.inl (some 0)))), (0, .inr (.inr (.inr 0)))] [.inl z2] h2
  refine kL_go hF 2 (pc' := 1207) (L' := [(3, .inl (Int32.ofNat i)), (2, .inr (.inr (.inl (some 259)))), (1, .inr (.inr (.inl (some 0)))), (0, .inr (.inr (.inr 0)))]) (S' := []) (by with_unfolding_all rfl) ?_
  exact kL_next hg hF hnc hns hL hi hI2 hK
set_option maxRecDepth 20000 in
theorem kL_31 {g : kc_G} {p : Program} {e : Env} {R : Room} {s : State} {m : MethodId} {args : Array Value} {below : List Frame} {meth : Method} {c : Code} {as : List Nat} {Z : State → Prop} {h : kc_H} {i : Nat} (hg : kc_ok g) (hF : kc_fix g 40 wk_mL p R s m args meth c) (hnc : 289 ≤ R.cells) (hns : 10466 ≤ R.slots) (hL : kc_gL g < 2147483000) (hi : i + 5 ≤ kc_gL g) (hI : fu_I h) (hK : ∀ h', fu_I h' → kL_Ev g wk_mL p e R s m args below meth c as 289 10466 Z 18 [(3, .inl (Int32.ofNat (i + 5))), (2, .inr (.inr (.inl (some 259)))), (1, .inr (.inr (.inl (some 0)))), (0, .inr (.inr (.inr 0)))] [] h') : kL_Ev g wk_mL p e R s m args below meth c as 289 10466 Z 1059 [(3, .inl (Int32.ofNat i)), (2, .inr (.inr (.inl (some 259)))), (1, .inr (.inr (.inl (some 0)))), (0, .inr (.inr (.inr 0)))] [] h := by
  refine kL_go hF 5 (pc' := 1064) (L' := [(3, .inl (Int32.ofNat i)), (2, .inr (.inr (.inl (some 259)))), (1, .inr (.inr (.inl (some 0)))), (0, .inr (.inr (.inr 0)))]) (S' := [.inl ((Int32.ofNat i) + (Int32.ofNat 1)), .inr (.inr (.inr 0)), .inr (.inr (.inl (some 0)))]) (by with_unfolding_all rfl) ?_
  rw [← Int32.ofNat_add]
  refine kL_sc hF hnc hns (j := i + 1) rfl (by omega) (by omega) ?_
  refine kL_go hF 4 (pc' := 1069) (L' := [(3, .inl (Int32.ofNat i)), (2, .inr (.inr (.inl (some 259)))), (1, .inr (.inr (.inl (some 0)))), (0, .inr (.inr (.inr 0)))]) (S' := [.inl ((Int32.ofNat i) + (Int32.ofNat 2)), .inr (.inr (.inr 0)), .inl (kc_gs g (i + 1)), .inr (.inr (.inl (some 0)))]) (by with_unfolding_all rfl) ?_
  rw [← Int32.ofNat_add]
  refine kL_sc hF hnc hns (j := i + 2) rfl (by omega) (by omega) ?_
  refine kL_go hF 4 (pc' := 1074) (L' := [(3, .inl (Int32.ofNat i)), (2, .inr (.inr (.inl (some 259)))), (1, .inr (.inr (.inl (some 0)))), (0, .inr (.inr (.inr 0)))]) (S' := [.inl ((Int32.ofNat i) + (Int32.ofNat 3)), .inr (.inr (.inr 0)), .inl (kc_gs g (i + 2)), .inl (kc_gs g (i + 1)), .inr (.inr (.inl (some 0)))]) (by with_unfolding_all rfl) ?_
  rw [← Int32.ofNat_add]
  refine kL_sc hF hnc hns (j := i + 3) rfl (by omega) (by omega) ?_
  refine kL_call hF hnc hns (M2 := wk_m153) (av := [.inr (.inr (.inl (some 0))), .inl (kc_gs g (i + 1)), .inl (kc_gs g (i + 2)), .inl (kc_gs g (i + 3))]) (r := []) rfl rfl (kc_Con_le (fU_calone hg hI) (by decide)) (fun rv h1 hq => ?_)
  obtain ⟨⟨z, rfl⟩, hI1⟩ := hq
  show kL_Ev g wk_mL p e R s m args below meth c as 289 10466 Z 1078 [(3, .inl (Int32.ofNat i)), (2, .inr (.inr (.inl (some 259)))), (1, .inr (.inr (.inl (some 0)))), (0, .inr (.inr (.inr 0)))] [.inl z] h1
  refine kL_go hF 6 (pc' := 1084) (L' := [(3, .inl (Int32.ofNat i)), (2, .inr (.inr (.inl (some 259)))), (1, .inr (.inr (.inl (some 0)))), (0, .inr (.inr (.inr 0)))]) (S' := [.inl ((Int32.ofNat i) + (Int32.ofNat 1)), .inr (.inr (.inr 0)), .inr (.inr (.inl (some 259)))]) (by with_unfolding_all rfl) ?_
  rw [← Int32.ofNat_add]
  refine kL_sc hF hnc hns (j := i + 1) rfl (by omega) (by omega) ?_
  refine kL_go hF 4 (pc' := 1089) (L' := [(3, .inl (Int32.ofNat i)), (2, .inr (.inr (.inl (some 259)))), (1, .inr (.inr (.inl (some 0)))), (0, .inr (.inr (.inr 0)))]) (S' := [.inl ((Int32.ofNat i) + (Int32.ofNat 2)), .inr (.inr (.inr 0)), .inl (kc_gs g (i + 1)), .inr (.inr (.inl (some 259)))]) (by with_unfolding_all rfl) ?_
  rw [← Int32.ofNat_add]
  refine kL_sc hF hnc hns (j := i + 2) rfl (by omega) (by omega) ?_
  refine kL_go hF 4 (pc' := 1094) (L' := [(3, .inl (Int32.ofNat i)), (2, .inr (.inr (.inl (some 259)))), (1, .inr (.inr (.inl (some 0)))), (0, .inr (.inr (.inr 0)))]) (S' := [.inl ((Int32.ofNat i) + (Int32.ofNat 3)), .inr (.inr (.inr 0)), .inl (kc_gs g (i + 2)), .inl (kc_gs g (i + 1)), .inr (.inr (.inl (some 259)))]) (by with_unfolding_all rfl) ?_
  rw [← Int32.ofNat_add]
  refine kL_sc hF hnc hns (j := i + 3) rfl (by omega) (by omega) ?_
  refine kL_call hF hnc hns (M2 := wk_m154) (av := [.inr (.inr (.inl (some 259))), .inl (kc_gs g (i + 1)), .inl (kc_gs g (i + 2)), .inl (kc_gs g (i + 3))]) (r := []) rfl rfl (kc_Con_le (fU_ralone hg hI1) (by decide)) (fun rv h2 hq2 => ?_)
  obtain ⟨⟨z2, rfl⟩, hI2⟩ := hq2
  show kL_Ev g wk_mL p e R s m args below meth c as 289 10466 Z 1098 [(3, .inl (Int32.ofNat i)), (2, .inr (.inr (.inl (some 259)))), (1, .inr (.inr (.inl (some 0)))), (0, .inr (.inr (.inr 0)))] [.inl z2] h2
  refine kL_go hF 2 (pc' := 1207) (L' := [(3, .inl (Int32.ofNat i)), (2, .inr (.inr (.inl (some 259)))), (1, .inr (.inr (.inl (some 0)))), (0, .inr (.inr (.inr 0)))]) (S' := []) (by with_unfolding_all rfl) ?_
  exact kL_next hg hF hnc hns hL hi hI2 hK
set_option maxRecDepth 20000 in
theorem kL_32 {g : kc_G} {p : Program} {e : Env} {R : Room} {s : State} {m : MethodId} {args : Array Value} {below : List Frame} {meth : Method} {c : Code} {as : List Nat} {Z : State → Prop} {h : kc_H} {i : Nat} (hg : kc_ok g) (hF : kc_fix g 40 wk_mL p R s m args meth c) (hnc : 289 ≤ R.cells) (hns : 10466 ≤ R.slots) (hL : kc_gL g < 2147483000) (hi : i + 5 ≤ kc_gL g) (hI : fu_I h) (hK : ∀ h', fu_I h' → kL_Ev g wk_mL p e R s m args below meth c as 289 10466 Z 18 [(3, .inl (Int32.ofNat (i + 5))), (2, .inr (.inr (.inl (some 259)))), (1, .inr (.inr (.inl (some 0)))), (0, .inr (.inr (.inr 0)))] [] h') : kL_Ev g wk_mL p e R s m args below meth c as 289 10466 Z 1102 [(3, .inl (Int32.ofNat i)), (2, .inr (.inr (.inl (some 259)))), (1, .inr (.inr (.inl (some 0)))), (0, .inr (.inr (.inr 0)))] [] h := by
  refine kL_go hF 5 (pc' := 1107) (L' := [(3, .inl (Int32.ofNat i)), (2, .inr (.inr (.inl (some 259)))), (1, .inr (.inr (.inl (some 0)))), (0, .inr (.inr (.inr 0)))]) (S' := [.inl ((Int32.ofNat i) + (Int32.ofNat 1)), .inr (.inr (.inr 0)), .inr (.inr (.inl (some 0)))]) (by with_unfolding_all rfl) ?_
  rw [← Int32.ofNat_add]
  refine kL_sc hF hnc hns (j := i + 1) rfl (by omega) (by omega) ?_
  refine kL_call hF hnc hns (M2 := wk_m155) (av := [.inr (.inr (.inl (some 0))), .inl (kc_gs g (i + 1))]) (r := []) rfl rfl (kc_Con_le (fU_cpart hg hI) (by decide)) (fun rv h1 hq => ?_)
  obtain ⟨⟨z, rfl⟩, hI1⟩ := hq
  show kL_Ev g wk_mL p e R s m args below meth c as 289 10466 Z 1111 [(3, .inl (Int32.ofNat i)), (2, .inr (.inr (.inl (some 259)))), (1, .inr (.inr (.inl (some 0)))), (0, .inr (.inr (.inr 0)))] [.inr (.inl z)] h1
  refine kL_pop2 hF (by decide +kernel) ?_
  refine kL_go hF 5 (pc' := 1117) (L' := [(3, .inl (Int32.ofNat i)), (2, .inr (.inr (.inl (some 259)))), (1, .inr (.inr (.inl (some 0)))), (0, .inr (.inr (.inr 0)))]) (S' := [.inl ((Int32.ofNat i) + (Int32.ofNat 1)), .inr (.inr (.inr 0)), .inr (.inr (.inl (some 259)))]) (by with_unfolding_all rfl) ?_
  rw [← Int32.ofNat_add]
  refine kL_sc hF hnc hns (j := i + 1) rfl (by omega) (by omega) ?_
  refine kL_call hF hnc hns (M2 := wk_m156) (av := [.inr (.inr (.inl (some 259))), .inl (kc_gs g (i + 1))]) (r := []) rfl rfl (kc_Con_le (fU_rpart hg hI1) (by decide)) (fun rv h2 hq2 => ?_)
  obtain ⟨⟨z2, rfl⟩, hI2⟩ := hq2
  show kL_Ev g wk_mL p e R s m args below meth c as 289 10466 Z 1121 [(3, .inl (Int32.ofNat i)), (2, .inr (.inr (.inl (some 259)))), (1, .inr (.inr (.inl (some 0)))), (0, .inr (.inr (.inr 0)))] [.inr (.inl z2)] h2
  refine kL_pop2 hF (by decide +kernel) ?_
  refine kL_go hF 1 (pc' := 1207) (L' := [(3, .inl (Int32.ofNat i)), (2, .inr (.inr (.inl (some 259)))), (1, .inr (.inr (.inl (some 0)))), (0, .inr (.inr (.inr 0)))]) (S' := []) (by with_unfolding_all rfl) ?_
  exact kL_next hg hF hnc hns hL hi hI2 hK
set_option maxRecDepth 20000 in
theorem kL_33 {g : kc_G} {p : Program} {e : Env} {R : Room} {s : State} {m : MethodId} {args : Array Value} {below : List Frame} {meth : Method} {c : Code} {as : List Nat} {Z : State → Prop} {h : kc_H} {i : Nat} (hg : kc_ok g) (hF : kc_fix g 40 wk_mL p R s m args meth c) (hnc : 289 ≤ R.cells) (hns : 10466 ≤ R.slots) (hL : kc_gL g < 2147483000) (hi : i + 5 ≤ kc_gL g) (hI : fu_I h) (hK : ∀ h', fu_I h' → kL_Ev g wk_mL p e R s m args below meth c as 289 10466 Z 18 [(3, .inl (Int32.ofNat (i + 5))), (2, .inr (.inr (.inl (some 259)))), (1, .inr (.inr (.inl (some 0)))), (0, .inr (.inr (.inr 0)))] [] h') : kL_Ev g wk_mL p e R s m args below meth c as 289 10466 Z 1125 [(3, .inl (Int32.ofNat i)), (2, .inr (.inr (.inl (some 259)))), (1, .inr (.inr (.inl (some 0)))), (0, .inr (.inr (.inr 0)))] [] h := by
  refine kL_go hF 5 (pc' := 1130) (L' := [(3, .inl (Int32.ofNat i)), (2, .inr (.inr (.inl (some 259)))), (1, .inr (.inr (.inl (some 0)))), (0, .inr (.inr (.inr 0)))]) (S' := [.inl ((Int32.ofNat i) + (Int32.ofNat 1)), .inr (.inr (.inr 0)), .inr (.inr (.inl (some 0)))]) (by with_unfolding_all rfl) ?_
  rw [← Int32.ofNat_add]
  refine kL_sc hF hnc hns (j := i + 1) rfl (by omega) (by omega) ?_
  refine kL_call hF hnc hns (M2 := wk_m157) (av := [.inr (.inr (.inl (some 0))), .inl (kc_gs g (i + 1))]) (r := []) rfl rfl (kc_Con_le (fU_Ximage hg hI) (by decide)) (fun rv h1 hq => ?_)
  obtain ⟨z, rfl, hq⟩ := hq
  show kL_Ev g wk_mL p e R s m args below meth c as 289 10466 Z 1134 [(3, .inl (Int32.ofNat i)), (2, .inr (.inr (.inl (some 259)))), (1, .inr (.inr (.inl (some 0)))), (0, .inr (.inr (.inr 0)))] [.inl z] h1
  refine kL_go hF 6 (pc' := 1140) (L' := [(3, .inl (Int32.ofNat i)), (2, .inr (.inr (.inl (some 259)))), (1, .inr (.inr (.inl (some 0)))), (0, .inr (.inr (.inr 0)))]) (S' := [.inl ((Int32.ofNat i) + (Int32.ofNat 1)), .inr (.inr (.inr 0)), .inr (.inr (.inl (some 259)))]) (by with_unfolding_all rfl) ?_
  rw [← Int32.ofNat_add]
  refine kL_sc hF hnc hns (j := i + 1) rfl (by omega) (by omega) ?_
  refine kL_call hF hnc hns (M2 := wk_m158) (av := [.inr (.inr (.inl (some 259))), .inl (kc_gs g (i + 1))]) (r := []) rfl rfl (kc_Con_le (hq) (by decide)) (fun rv h2 hq2 => ?_)
  obtain ⟨rfl, hI2⟩ := hq2
  have hzz : ∃ z2, z2 = z := ⟨z, rfl⟩
  obtain ⟨z2, rfl⟩ := hzz
  show kL_Ev g wk_mL p e R s m args below meth c as 289 10466 Z 1144 [(3, .inl (Int32.ofNat i)), (2, .inr (.inr (.inl (some 259)))), (1, .inr (.inr (.inl (some 0)))), (0, .inr (.inr (.inr 0)))] [.inl z2] h2
  refine kL_go hF 2 (pc' := 1207) (L' := [(3, .inl (Int32.ofNat i)), (2, .inr (.inr (.inl (some 259)))), (1, .inr (.inr (.inl (some 0)))), (0, .inr (.inr (.inr 0)))]) (S' := []) (by with_unfolding_all rfl) ?_
  exact kL_next hg hF hnc hns hL hi hI2 hK
set_option maxRecDepth 20000 in
theorem kL_34 {g : kc_G} {p : Program} {e : Env} {R : Room} {s : State} {m : MethodId} {args : Array Value} {below : List Frame} {meth : Method} {c : Code} {as : List Nat} {Z : State → Prop} {h : kc_H} {i : Nat} (hg : kc_ok g) (hF : kc_fix g 40 wk_mL p R s m args meth c) (hnc : 289 ≤ R.cells) (hns : 10466 ≤ R.slots) (hL : kc_gL g < 2147483000) (hi : i + 5 ≤ kc_gL g) (hI : fu_I h) (hK : ∀ h', fu_I h' → kL_Ev g wk_mL p e R s m args below meth c as 289 10466 Z 18 [(3, .inl (Int32.ofNat (i + 5))), (2, .inr (.inr (.inl (some 259)))), (1, .inr (.inr (.inl (some 0)))), (0, .inr (.inr (.inr 0)))] [] h') : kL_Ev g wk_mL p e R s m args below meth c as 289 10466 Z 1148 [(3, .inl (Int32.ofNat i)), (2, .inr (.inr (.inl (some 259)))), (1, .inr (.inr (.inl (some 0)))), (0, .inr (.inr (.inr 0)))] [] h := by
  refine kL_go hF 5 (pc' := 1153) (L' := [(3, .inl (Int32.ofNat i)), (2, .inr (.inr (.inl (some 259)))), (1, .inr (.inr (.inl (some 0)))), (0, .inr (.inr (.inr 0)))]) (S' := [.inl ((Int32.ofNat i) + (Int32.ofNat 1)), .inr (.inr (.inr 0)), .inr (.inr (.inl (some 0)))]) (by with_unfolding_all rfl) ?_
  rw [← Int32.ofNat_add]
  refine kL_sc hF hnc hns (j := i + 1) rfl (by omega) (by omega) ?_
  refine kL_call hF hnc hns (M2 := wk_m159) (av := [.inr (.inr (.inl (some 0))), .inl (kc_gs g (i + 1))]) (r := []) rfl rfl (kc_Con_le (fU_Xfrom hg hI) (by decide)) (fun rv h1 hq => ?_)
  obtain ⟨z, rfl, hq⟩ := hq
  show kL_Ev g wk_mL p e R s m args below meth c as 289 10466 Z 1157 [(3, .inl (Int32.ofNat i)), (2, .inr (.inr (.inl (some 259)))), (1, .inr (.inr (.inl (some 0)))), (0, .inr (.inr (.inr 0)))] [.inl z] h1
  refine kL_go hF 6 (pc' := 1163) (L' := [(3, .inl (Int32.ofNat i)), (2, .inr (.inr (.inl (some 259)))), (1, .inr (.inr (.inl (some 0)))), (0, .inr (.inr (.inr 0)))]) (S' := [.inl ((Int32.ofNat i) + (Int32.ofNat 1)), .inr (.inr (.inr 0)), .inr (.inr (.inl (some 259)))]) (by with_unfolding_all rfl) ?_
  rw [← Int32.ofNat_add]
  refine kL_sc hF hnc hns (j := i + 1) rfl (by omega) (by omega) ?_
  refine kL_call hF hnc hns (M2 := wk_m160) (av := [.inr (.inr (.inl (some 259))), .inl (kc_gs g (i + 1))]) (r := []) rfl rfl (kc_Con_le (hq) (by decide)) (fun rv h2 hq2 => ?_)
  obtain ⟨rfl, hI2⟩ := hq2
  have hzz : ∃ z2, z2 = z := ⟨z, rfl⟩
  obtain ⟨z2, rfl⟩ := hzz
  show kL_Ev g wk_mL p e R s m args below meth c as 289 10466 Z 1167 [(3, .inl (Int32.ofNat i)), (2, .inr (.inr (.inl (some 259)))), (1, .inr (.inr (.inl (some 0)))), (0, .inr (.inr (.inr 0)))] [.inl z2] h2
  refine kL_go hF 2 (pc' := 1207) (L' := [(3, .inl (Int32.ofNat i)), (2, .inr (.inr (.inl (some 259)))), (1, .inr (.inr (.inl (some 0)))), (0, .inr (.inr (.inr 0)))]) (S' := []) (by with_unfolding_all rfl) ?_
  exact kL_next hg hF hnc hns hL hi hI2 hK
set_option maxRecDepth 20000 in
theorem kL_35 {g : kc_G} {p : Program} {e : Env} {R : Room} {s : State} {m : MethodId} {args : Array Value} {below : List Frame} {meth : Method} {c : Code} {as : List Nat} {Z : State → Prop} {h : kc_H} {i : Nat} (hg : kc_ok g) (hF : kc_fix g 40 wk_mL p R s m args meth c) (hnc : 289 ≤ R.cells) (hns : 10466 ≤ R.slots) (hL : kc_gL g < 2147483000) (hi : i + 5 ≤ kc_gL g) (hI : fu_I h) (hK : ∀ h', fu_I h' → kL_Ev g wk_mL p e R s m args below meth c as 289 10466 Z 18 [(3, .inl (Int32.ofNat (i + 5))), (2, .inr (.inr (.inl (some 259)))), (1, .inr (.inr (.inl (some 0)))), (0, .inr (.inr (.inr 0)))] [] h') : kL_Ev g wk_mL p e R s m args below meth c as 289 10466 Z 1171 [(3, .inl (Int32.ofNat i)), (2, .inr (.inr (.inl (some 259)))), (1, .inr (.inr (.inl (some 0)))), (0, .inr (.inr (.inr 0)))] [] h := by
  refine kL_go hF 5 (pc' := 1176) (L' := [(3, .inl (Int32.ofNat i)), (2, .inr (.inr (.inl (some 259)))), (1, .inr (.inr (.inl (some 0)))), (0, .inr (.inr (.inr 0)))]) (S' := [.inl ((Int32.ofNat i) + (Int32.ofNat 1)), .inr (.inr (.inr 0)), .inr (.inr (.inl (some 0)))]) (by with_unfolding_all rfl) ?_
  rw [← Int32.ofNat_add]
  refine kL_sc hF hnc hns (j := i + 1) rfl (by omega) (by omega) ?_
  refine kL_call hF hnc hns (M2 := wk_m161) (av := [.inr (.inr (.inl (some 0))), .inl (kc_gs g (i + 1))]) (r := []) rfl rfl (kc_Con_le (fU_Xcount hg hI) (by decide)) (fun rv h1 hq => ?_)
  obtain ⟨z, rfl, hq⟩ := hq
  show kL_Ev g wk_mL p e R s m args below meth c as 289 10466 Z 1180 [(3, .inl (Int32.ofNat i)), (2, .inr (.inr (.inl (some 259)))), (1, .inr (.inr (.inl (some 0)))), (0, .inr (.inr (.inr 0)))] [.inl z] h1
  refine kL_go hF 6 (pc' := 1186) (L' := [(3, .inl (Int32.ofNat i)), (2, .inr (.inr (.inl (some 259)))), (1, .inr (.inr (.inl (some 0)))), (0, .inr (.inr (.inr 0)))]) (S' := [.inl ((Int32.ofNat i) + (Int32.ofNat 1)), .inr (.inr (.inr 0)), .inr (.inr (.inl (some 259)))]) (by with_unfolding_all rfl) ?_
  rw [← Int32.ofNat_add]
  refine kL_sc hF hnc hns (j := i + 1) rfl (by omega) (by omega) ?_
  refine kL_call hF hnc hns (M2 := wk_m163) (av := [.inr (.inr (.inl (some 259))), .inl (kc_gs g (i + 1))]) (r := []) rfl rfl (kc_Con_le (hq) (by decide)) (fun rv h2 hq2 => ?_)
  obtain ⟨rfl, hI2⟩ := hq2
  have hzz : ∃ z2, z2 = z := ⟨z, rfl⟩
  obtain ⟨z2, rfl⟩ := hzz
  show kL_Ev g wk_mL p e R s m args below meth c as 289 10466 Z 1190 [(3, .inl (Int32.ofNat i)), (2, .inr (.inr (.inl (some 259)))), (1, .inr (.inr (.inl (some 0)))), (0, .inr (.inr (.inr 0)))] [.inl z2] h2
  refine kL_go hF 2 (pc' := 1207) (L' := [(3, .inl (Int32.ofNat i)), (2, .inr (.inr (.inl (some 259)))), (1, .inr (.inr (.inl (some 0)))), (0, .inr (.inr (.inr 0)))]) (S' := []) (by with_unfolding_all rfl) ?_
  exact kL_next hg hF hnc hns hL hi hI2 hK
set_option maxRecDepth 20000 in
theorem kL_36 {g : kc_G} {p : Program} {e : Env} {R : Room} {s : State} {m : MethodId} {args : Array Value} {below : List Frame} {meth : Method} {c : Code} {as : List Nat} {Z : State → Prop} {h : kc_H} {i : Nat} (hg : kc_ok g) (hF : kc_fix g 40 wk_mL p R s m args meth c) (hnc : 289 ≤ R.cells) (hns : 10466 ≤ R.slots) (hL : kc_gL g < 2147483000) (hi : i + 5 ≤ kc_gL g) (hI : fu_I h) (hK : ∀ h', fu_I h' → kL_Ev g wk_mL p e R s m args below meth c as 289 10466 Z 18 [(3, .inl (Int32.ofNat (i + 5))), (2, .inr (.inr (.inl (some 259)))), (1, .inr (.inr (.inl (some 0)))), (0, .inr (.inr (.inr 0)))] [] h') : kL_Ev g wk_mL p e R s m args below meth c as 289 10466 Z 1194 [(3, .inl (Int32.ofNat i)), (2, .inr (.inr (.inl (some 259)))), (1, .inr (.inr (.inl (some 0)))), (0, .inr (.inr (.inr 0)))] [] h := by
  refine kL_go hF 1 (pc' := 1195) (L' := [(3, .inl (Int32.ofNat i)), (2, .inr (.inr (.inl (some 259)))), (1, .inr (.inr (.inl (some 0)))), (0, .inr (.inr (.inr 0)))]) (S' := [.inr (.inr (.inl (some 0)))]) (by with_unfolding_all rfl) ?_
  refine kL_call hF hnc hns (M2 := wk_m165) (av := [.inr (.inr (.inl (some 0)))]) (r := []) rfl rfl (kc_Con_le (fU_cdigest hg hI) (by decide)) (fun rv h1 hq => ?_)
  obtain ⟨⟨z, rfl⟩, hI1⟩ := hq
  show kL_Ev g wk_mL p e R s m args below meth c as 289 10466 Z 1198 [(3, .inl (Int32.ofNat i)), (2, .inr (.inr (.inl (some 259)))), (1, .inr (.inr (.inl (some 0)))), (0, .inr (.inr (.inr 0)))] [.inr (.inl z)] h1
  refine kL_pop2 hF (by decide +kernel) ?_
  refine kL_go hF 1 (pc' := 1200) (L' := [(3, .inl (Int32.ofNat i)), (2, .inr (.inr (.inl (some 259)))), (1, .inr (.inr (.inl (some 0)))), (0, .inr (.inr (.inr 0)))]) (S' := [.inr (.inr (.inl (some 259)))]) (by with_unfolding_all rfl) ?_
  refine kL_call hF hnc hns (M2 := wk_m170) (av := [.inr (.inr (.inl (some 259)))]) (r := []) rfl rfl (kc_Con_le (fU_rdigest hg hI1) (by decide)) (fun rv h2 hq2 => ?_)
  obtain ⟨⟨z2, rfl⟩, hI2⟩ := hq2
  show kL_Ev g wk_mL p e R s m args below meth c as 289 10466 Z 1203 [(3, .inl (Int32.ofNat i)), (2, .inr (.inr (.inl (some 259)))), (1, .inr (.inr (.inl (some 0)))), (0, .inr (.inr (.inr 0)))] [.inr (.inl z2)] h2
  refine kL_pop2 hF (by decide +kernel) ?_
  refine kL_go hF 1 (pc' := 1207) (L' := [(3, .inl (Int32.ofNat i)), (2, .inr (.inr (.inl (some 259)))), (1, .inr (.inr (.inl (some 0)))), (0, .inr (.inr (.inr 0)))]) (S' := []) (by with_unfolding_all rfl) ?_
  exact kL_next hg hF hnc hns hL hi hI2 hK
theorem kL_63 : ∀ w : Int32, ∃ k, k < 64 ∧ w &&& Int32.ofNat 63 = Int32.ofNat k := by
  intro w
  refine ⟨(w.toBitVec &&& 63#32).toNat, ?_, ?_⟩
  · rw [BitVec.toNat_and]
    exact Nat.lt_succ_of_le Nat.and_le_right
  · apply Int32.toBitVec_inj.mp
    show w.toBitVec &&& 63#32 = BitVec.ofNat 32 (w.toBitVec &&& 63#32).toNat
    rw [BitVec.ofNat_toNat, BitVec.setWidth_eq]
theorem kL_sub {a b : Nat} (ha : a < 2147483000) (hb : b < 1000) : (Int32.ofNat a - Int32.ofNat b).toInt = (a : Int) - b := by
  rw [Int32.toInt_sub, kx_ti (by omega), kx_ti (by omega)]
  exact Int.bmod_eq_of_le (by omega) (by omega)
set_option maxRecDepth 20000 in
theorem kL_loop {g : kc_G} {p : Program} {e : Env} {R : Room} {s : State} {m : MethodId} {args : Array Value} {below : List Frame} {meth : Method} {c : Code} {as : List Nat} (hg : kc_ok g) (hF : kc_fix g 40 wk_mL p R s m args meth c) (hnc : 289 ≤ R.cells) (hns : 10466 ≤ R.slots) (hL : kc_gL g < 2147483000) : ∀ (u i : Nat) (h : kc_H), kc_gL g + 5 - i < u → i ≤ kc_gL g + 5 → fu_I h → kL_Ev g wk_mL p e R s m args below meth c as 289 10466 (MQ below (kc_B (fun rx _ => rx = some (.int 1)) (kc_gA g)) args s 289 10466 (kc_gA g)) 18 [(3, .inl (Int32.ofNat i)), (2, .inr (.inr (.inl (some 259)))), (1, .inr (.inr (.inl (some 0)))), (0, .inr (.inr (.inr 0)))] [] h := by
  intro u
  induction u with
  | zero => intro i h hu; omega
  | succ u ih =>
    intro i h hu hi0 hI
    refine kL_go hF 2 (pc' := 20) (L' := [(3, .inl (Int32.ofNat i)), (2, .inr (.inr (.inl (some 259)))), (1, .inr (.inr (.inl (some 0)))), (0, .inr (.inr (.inr 0)))]) (S' := [.inr (.inr (.inr 0)), .inl (Int32.ofNat i)]) (by with_unfolding_all rfl) ?_
    refine kL_len hF hnc hns rfl ?_
    refine kL_go hF 3 (pc' := (if kc_cnd .gt (Int32.ofNat i).toInt ((Int32.ofNat (kc_gL g)) - (Int32.ofNat 5)).toInt then 1213 else 26)) (L' := [(3, .inl (Int32.ofNat i)), (2, .inr (.inr (.inl (some 259)))), (1, .inr (.inr (.inl (some 0)))), (0, .inr (.inr (.inr 0)))]) (S' := []) (by with_unfolding_all rfl) ?_
    by_cases hc : i + 5 ≤ kc_gL g
    · rw [if_neg (fun q => by
        unfold kc_cnd at q
        rw [kx_ti (by omega), kL_sub (by omega) (by omega)] at q
        simp only [decide_eq_true_eq] at q
        omega)]
      refine kL_go hF 2 (pc' := 28) (L' := [(3, .inl (Int32.ofNat i)), (2, .inr (.inr (.inl (some 259)))), (1, .inr (.inr (.inl (some 0)))), (0, .inr (.inr (.inr 0)))]) (S' := [.inl (Int32.ofNat i), .inr (.inr (.inr 0))]) (by with_unfolding_all rfl) ?_
      refine kL_sc hF hnc hns (j := i) rfl (by omega) (by omega) ?_
      refine kL_go hF 2 (pc' := 32) (L' := [(3, .inl (Int32.ofNat i)), (2, .inr (.inr (.inl (some 259)))), (1, .inr (.inr (.inl (some 0)))), (0, .inr (.inr (.inr 0)))]) (S' := [.inl ((kc_gs g i) &&& (Int32.ofNat 63))]) (by with_unfolding_all rfl) ?_
      obtain ⟨k, hk, ek⟩ := kL_63 (kc_gs g i)
      rw [ek]
      have hK : ∀ h', fu_I h' → kL_Ev g wk_mL p e R s m args below meth c as 289 10466 (MQ below (kc_B (fun rx _ => rx = some (.int 1)) (kc_gA g)) args s 289 10466 (kc_gA g)) 18 [(3, .inl (Int32.ofNat (i + 5))), (2, .inr (.inr (.inl (some 259)))), (1, .inr (.inr (.inl (some 0)))), (0, .inr (.inr (.inr 0)))] [] h' := fun h2 hI2 => ih (i + 5) h2 (by omega) (by omega) hI2
      match k, hk with
      | 0, _ =>
        refine kL_go hF 1 (pc' := 196) (L' := [(3, .inl (Int32.ofNat i)), (2, .inr (.inr (.inl (some 259)))), (1, .inr (.inr (.inl (some 0)))), (0, .inr (.inr (.inr 0)))]) (S' := []) (by with_unfolding_all rfl) ?_
        exact kL_0 hg hF hnc hns hL hc hI hK
      | 1, _ =>
        refine kL_go hF 1 (pc' := 209) (L' := [(3, .inl (Int32.ofNat i)), (2, .inr (.inr (.inl (some 259)))), (1, .inr (.inr (.inl (some 0)))), (0, .inr (.inr (.inr 0)))]) (S' := []) (by with_unfolding_all rfl) ?_
        exact kL_1 hg hF hnc hns hL hc hI hK
      | 2, _ =>
        refine kL_go hF 1 (pc' := 252) (L' := [(3, .inl (Int32.ofNat i)), (2, .inr (.inr (.inl (some 259)))), (1, .inr (.inr (.inl (some 0)))), (0, .inr (.inr (.inr 0)))]) (S' := []) (by with_unfolding_all rfl) ?_
        exact kL_2 hg hF hnc hns hL hc hI hK
      | 3, _ =>
        refine kL_go hF 1 (pc' := 275) (L' := [(3, .inl (Int32.ofNat i)), (2, .inr (.inr (.inl (some 259)))), (1, .inr (.inr (.inl (some 0)))), (0, .inr (.inr (.inr 0)))]) (S' := []) (by with_unfolding_all rfl) ?_
        exact kL_3 hg hF hnc hns hL hc hI hK
      | 4, _ =>
        refine kL_go hF 1 (pc' := 308) (L' := [(3, .inl (Int32.ofNat i)), (2, .inr (.inr (.inl (some 259)))), (1, .inr (.inr (.inl (some 0)))), (0, .inr (.inr (.inr 0)))]) (S' := []) (by with_unfolding_all rfl) ?_
        exact kL_4 hg hF hnc hns hL hc hI hK
      | 5, _ =>
        refine kL_go hF 1 (pc' := 351) (L' := [(3, .inl (Int32.ofNat i)), (2, .inr (.inr (.inl (some 259)))), (1, .inr (.inr (.inl (some 0)))), (0, .inr (.inr (.inr 0)))]) (S' := []) (by with_unfolding_all rfl) ?_
        exact kL_5 hg hF hnc hns hL hc hI hK
      | 6, _ =>
        refine kL_go hF 1 (pc' := 394) (L' := [(3, .inl (Int32.ofNat i)), (2, .inr (.inr (.inl (some 259)))), (1, .inr (.inr (.inl (some 0)))), (0, .inr (.inr (.inr 0)))]) (S' := []) (by with_unfolding_all rfl) ?_
        exact kL_6 hg hF hnc hns hL hc hI hK
      | 7, _ =>
        refine kL_go hF 1 (pc' := 447) (L' := [(3, .inl (Int32.ofNat i)), (2, .inr (.inr (.inl (some 259)))), (1, .inr (.inr (.inl (some 0)))), (0, .inr (.inr (.inr 0)))]) (S' := []) (by with_unfolding_all rfl) ?_
        exact kL_7 hg hF hnc hns hL hc hI hK
      | 8, _ =>
        refine kL_go hF 1 (pc' := 480) (L' := [(3, .inl (Int32.ofNat i)), (2, .inr (.inr (.inl (some 259)))), (1, .inr (.inr (.inl (some 0)))), (0, .inr (.inr (.inr 0)))]) (S' := []) (by with_unfolding_all rfl) ?_
        exact kL_8 hg hF hnc hns hL hc hI hK
      | 9, _ =>
        refine kL_go hF 1 (pc' := 513) (L' := [(3, .inl (Int32.ofNat i)), (2, .inr (.inr (.inl (some 259)))), (1, .inr (.inr (.inl (some 0)))), (0, .inr (.inr (.inr 0)))]) (S' := []) (by with_unfolding_all rfl) ?_
        exact kL_9 hg hF hnc hns hL hc hI hK
      | 10, _ =>
        refine kL_go hF 1 (pc' := 546) (L' := [(3, .inl (Int32.ofNat i)), (2, .inr (.inr (.inl (some 259)))), (1, .inr (.inr (.inl (some 0)))), (0, .inr (.inr (.inr 0)))]) (S' := []) (by with_unfolding_all rfl) ?_
        exact kL_10 hg hF hnc hns hL hc hI hK
      | 11, _ =>
        refine kL_go hF 1 (pc' := 619) (L' := [(3, .inl (Int32.ofNat i)), (2, .inr (.inr (.inl (some 259)))), (1, .inr (.inr (.inl (some 0)))), (0, .inr (.inr (.inr 0)))]) (S' := []) (by with_unfolding_all rfl) ?_
        exact kL_11 hg hF hnc hns hL hc hI hK
      | 12, _ =>
        refine kL_go hF 1 (pc' := 642) (L' := [(3, .inl (Int32.ofNat i)), (2, .inr (.inr (.inl (some 259)))), (1, .inr (.inr (.inl (some 0)))), (0, .inr (.inr (.inr 0)))]) (S' := []) (by with_unfolding_all rfl) ?_
        exact kL_12 hg hF hnc hns hL hc hI hK
      | 13, _ =>
        refine kL_go hF 1 (pc' := 665) (L' := [(3, .inl (Int32.ofNat i)), (2, .inr (.inr (.inl (some 259)))), (1, .inr (.inr (.inl (some 0)))), (0, .inr (.inr (.inr 0)))]) (S' := []) (by with_unfolding_all rfl) ?_
        exact kL_13 hg hF hnc hns hL hc hI hK
      | 14, _ =>
        refine kL_go hF 1 (pc' := 678) (L' := [(3, .inl (Int32.ofNat i)), (2, .inr (.inr (.inl (some 259)))), (1, .inr (.inr (.inl (some 0)))), (0, .inr (.inr (.inr 0)))]) (S' := []) (by with_unfolding_all rfl) ?_
        exact kL_14 hg hF hnc hns hL hc hI hK
      | 15, _ =>
        refine kL_go hF 1 (pc' := 701) (L' := [(3, .inl (Int32.ofNat i)), (2, .inr (.inr (.inl (some 259)))), (1, .inr (.inr (.inl (some 0)))), (0, .inr (.inr (.inr 0)))]) (S' := []) (by with_unfolding_all rfl) ?_
        exact kL_15 hg hF hnc hns hL hc hI hK
      | 16, _ =>
        refine kL_go hF 1 (pc' := 744) (L' := [(3, .inl (Int32.ofNat i)), (2, .inr (.inr (.inl (some 259)))), (1, .inr (.inr (.inl (some 0)))), (0, .inr (.inr (.inr 0)))]) (S' := []) (by with_unfolding_all rfl) ?_
        exact kL_16 hg hF hnc hns hL hc hI hK
      | 17, _ =>
        refine kL_go hF 1 (pc' := 767) (L' := [(3, .inl (Int32.ofNat i)), (2, .inr (.inr (.inl (some 259)))), (1, .inr (.inr (.inl (some 0)))), (0, .inr (.inr (.inr 0)))]) (S' := []) (by with_unfolding_all rfl) ?_
        exact kL_17 hg hF hnc hns hL hc hI hK
      | 18, _ =>
        refine kL_go hF 1 (pc' := 800) (L' := [(3, .inl (Int32.ofNat i)), (2, .inr (.inr (.inl (some 259)))), (1, .inr (.inr (.inl (some 0)))), (0, .inr (.inr (.inr 0)))]) (S' := []) (by with_unfolding_all rfl) ?_
        exact kL_18 hg hF hnc hns hL hc hI hK
      | 19, _ =>
        refine kL_go hF 1 (pc' := 833) (L' := [(3, .inl (Int32.ofNat i)), (2, .inr (.inr (.inl (some 259)))), (1, .inr (.inr (.inl (some 0)))), (0, .inr (.inr (.inr 0)))]) (S' := []) (by with_unfolding_all rfl) ?_
        exact kL_19 hg hF hnc hns hL hc hI hK
      | 20, _ =>
        refine kL_go hF 1 (pc' := 876) (L' := [(3, .inl (Int32.ofNat i)), (2, .inr (.inr (.inl (some 259)))), (1, .inr (.inr (.inl (some 0)))), (0, .inr (.inr (.inr 0)))]) (S' := []) (by with_unfolding_all rfl) ?_
        exact kL_20 hg hF hnc hns hL hc hI hK
      | 21, _ =>
        refine kL_go hF 1 (pc' := 899) (L' := [(3, .inl (Int32.ofNat i)), (2, .inr (.inr (.inl (some 259)))), (1, .inr (.inr (.inl (some 0)))), (0, .inr (.inr (.inr 0)))]) (S' := []) (by with_unfolding_all rfl) ?_
        exact kL_21 hg hF hnc hns hL hc hI hK
      | 22, _ =>
        refine kL_go hF 1 (pc' := 912) (L' := [(3, .inl (Int32.ofNat i)), (2, .inr (.inr (.inl (some 259)))), (1, .inr (.inr (.inl (some 0)))), (0, .inr (.inr (.inr 0)))]) (S' := []) (by with_unfolding_all rfl) ?_
        exact kL_22 hg hF hnc hns hL hc hI hK
      | 23, _ =>
        refine kL_go hF 1 (pc' := 925) (L' := [(3, .inl (Int32.ofNat i)), (2, .inr (.inr (.inl (some 259)))), (1, .inr (.inr (.inl (some 0)))), (0, .inr (.inr (.inr 0)))]) (S' := []) (by with_unfolding_all rfl) ?_
        exact kL_23 hg hF hnc hns hL hc hI hK
      | 24, _ =>
        refine kL_go hF 1 (pc' := 938) (L' := [(3, .inl (Int32.ofNat i)), (2, .inr (.inr (.inl (some 259)))), (1, .inr (.inr (.inl (some 0)))), (0, .inr (.inr (.inr 0)))]) (S' := []) (by with_unfolding_all rfl) ?_
        exact kL_24 hg hF hnc hns hL hc hI hK
      | 25, _ =>
        refine kL_go hF 1 (pc' := 951) (L' := [(3, .inl (Int32.ofNat i)), (2, .inr (.inr (.inl (some 259)))), (1, .inr (.inr (.inl (some 0)))), (0, .inr (.inr (.inr 0)))]) (S' := []) (by with_unfolding_all rfl) ?_
        exact kL_25 hg hF hnc hns hL hc hI hK
      | 26, _ =>
        refine kL_go hF 1 (pc' := 974) (L' := [(3, .inl (Int32.ofNat i)), (2, .inr (.inr (.inl (some 259)))), (1, .inr (.inr (.inl (some 0)))), (0, .inr (.inr (.inr 0)))]) (S' := []) (by with_unfolding_all rfl) ?_
        exact kL_26 hg hF hnc hns hL hc hI hK
      | 27, _ =>
        refine kL_go hF 1 (pc' := 997) (L' := [(3, .inl (Int32.ofNat i)), (2, .inr (.inr (.inl (some 259)))), (1, .inr (.inr (.inl (some 0)))), (0, .inr (.inr (.inr 0)))]) (S' := []) (by with_unfolding_all rfl) ?_
        exact kL_27 hg hF hnc hns hL hc hI hK
      | 28, _ =>
        refine kL_go hF 1 (pc' := 1010) (L' := [(3, .inl (Int32.ofNat i)), (2, .inr (.inr (.inl (some 259)))), (1, .inr (.inr (.inl (some 0)))), (0, .inr (.inr (.inr 0)))]) (S' := []) (by with_unfolding_all rfl) ?_
        exact kL_28 hg hF hnc hns hL hc hI hK
      | 29, _ =>
        refine kL_go hF 1 (pc' := 1023) (L' := [(3, .inl (Int32.ofNat i)), (2, .inr (.inr (.inl (some 259)))), (1, .inr (.inr (.inl (some 0)))), (0, .inr (.inr (.inr 0)))]) (S' := []) (by with_unfolding_all rfl) ?_
        exact kL_29 hg hF hnc hns hL hc hI hK
      | 30, _ =>
        refine kL_go hF 1 (pc' := 1036) (L' := [(3, .inl (Int32.ofNat i)), (2, .inr (.inr (.inl (some 259)))), (1, .inr (.inr (.inl (some 0)))), (0, .inr (.inr (.inr 0)))]) (S' := []) (by with_unfolding_all rfl) ?_
        exact kL_30 hg hF hnc hns hL hc hI hK
      | 31, _ =>
        refine kL_go hF 1 (pc' := 1059) (L' := [(3, .inl (Int32.ofNat i)), (2, .inr (.inr (.inl (some 259)))), (1, .inr (.inr (.inl (some 0)))), (0, .inr (.inr (.inr 0)))]) (S' := []) (by with_unfolding_all rfl) ?_
        exact kL_31 hg hF hnc hns hL hc hI hK
      | 32, _ =>
        refine kL_go hF 1 (pc' := 1102) (L' := [(3, .inl (Int32.ofNat i)), (2, .inr (.inr (.inl (some 259)))), (1, .inr (.inr (.inl (some 0)))), (0, .inr (.inr (.inr 0)))]) (S' := []) (by with_unfolding_all rfl) ?_
        exact kL_32 hg hF hnc hns hL hc hI hK
      | 33, _ =>
        refine kL_go hF 1 (pc' := 1125) (L' := [(3, .inl (Int32.ofNat i)), (2, .inr (.inr (.inl (some 259)))), (1, .inr (.inr (.inl (some 0)))), (0, .inr (.inr (.inr 0)))]) (S' := []) (by with_unfolding_all rfl) ?_
        exact kL_33 hg hF hnc hns hL hc hI hK
      | 34, _ =>
        refine kL_go hF 1 (pc' := 1148) (L' := [(3, .inl (Int32.ofNat i)), (2, .inr (.inr (.inl (some 259)))), (1, .inr (.inr (.inl (some 0)))), (0, .inr (.inr (.inr 0)))]) (S' := []) (by with_unfolding_all rfl) ?_
        exact kL_34 hg hF hnc hns hL hc hI hK
      | 35, _ =>
        refine kL_go hF 1 (pc' := 1171) (L' := [(3, .inl (Int32.ofNat i)), (2, .inr (.inr (.inl (some 259)))), (1, .inr (.inr (.inl (some 0)))), (0, .inr (.inr (.inr 0)))]) (S' := []) (by with_unfolding_all rfl) ?_
        exact kL_35 hg hF hnc hns hL hc hI hK
      | 36, _ =>
        refine kL_go hF 1 (pc' := 1194) (L' := [(3, .inl (Int32.ofNat i)), (2, .inr (.inr (.inl (some 259)))), (1, .inr (.inr (.inl (some 0)))), (0, .inr (.inr (.inr 0)))]) (S' := []) (by with_unfolding_all rfl) ?_
        exact kL_36 hg hF hnc hns hL hc hI hK
      | 37, _ =>
        refine kL_go hF 1 (pc' := 1207) (L' := [(3, .inl (Int32.ofNat i)), (2, .inr (.inr (.inl (some 259)))), (1, .inr (.inr (.inl (some 0)))), (0, .inr (.inr (.inr 0)))]) (S' := []) (by with_unfolding_all rfl) ?_
        exact kL_next hg hF hnc hns hL hc hI hK
      | 38, _ =>
        refine kL_go hF 1 (pc' := 1207) (L' := [(3, .inl (Int32.ofNat i)), (2, .inr (.inr (.inl (some 259)))), (1, .inr (.inr (.inl (some 0)))), (0, .inr (.inr (.inr 0)))]) (S' := []) (by with_unfolding_all rfl) ?_
        exact kL_next hg hF hnc hns hL hc hI hK
      | 39, _ =>
        refine kL_go hF 1 (pc' := 1207) (L' := [(3, .inl (Int32.ofNat i)), (2, .inr (.inr (.inl (some 259)))), (1, .inr (.inr (.inl (some 0)))), (0, .inr (.inr (.inr 0)))]) (S' := []) (by with_unfolding_all rfl) ?_
        exact kL_next hg hF hnc hns hL hc hI hK
      | 40, _ =>
        refine kL_go hF 1 (pc' := 1207) (L' := [(3, .inl (Int32.ofNat i)), (2, .inr (.inr (.inl (some 259)))), (1, .inr (.inr (.inl (some 0)))), (0, .inr (.inr (.inr 0)))]) (S' := []) (by with_unfolding_all rfl) ?_
        exact kL_next hg hF hnc hns hL hc hI hK
      | 41, _ =>
        refine kL_go hF 1 (pc' := 1207) (L' := [(3, .inl (Int32.ofNat i)), (2, .inr (.inr (.inl (some 259)))), (1, .inr (.inr (.inl (some 0)))), (0, .inr (.inr (.inr 0)))]) (S' := []) (by with_unfolding_all rfl) ?_
        exact kL_next hg hF hnc hns hL hc hI hK
      | 42, _ =>
        refine kL_go hF 1 (pc' := 1207) (L' := [(3, .inl (Int32.ofNat i)), (2, .inr (.inr (.inl (some 259)))), (1, .inr (.inr (.inl (some 0)))), (0, .inr (.inr (.inr 0)))]) (S' := []) (by with_unfolding_all rfl) ?_
        exact kL_next hg hF hnc hns hL hc hI hK
      | 43, _ =>
        refine kL_go hF 1 (pc' := 1207) (L' := [(3, .inl (Int32.ofNat i)), (2, .inr (.inr (.inl (some 259)))), (1, .inr (.inr (.inl (some 0)))), (0, .inr (.inr (.inr 0)))]) (S' := []) (by with_unfolding_all rfl) ?_
        exact kL_next hg hF hnc hns hL hc hI hK
      | 44, _ =>
        refine kL_go hF 1 (pc' := 1207) (L' := [(3, .inl (Int32.ofNat i)), (2, .inr (.inr (.inl (some 259)))), (1, .inr (.inr (.inl (some 0)))), (0, .inr (.inr (.inr 0)))]) (S' := []) (by with_unfolding_all rfl) ?_
        exact kL_next hg hF hnc hns hL hc hI hK
      | 45, _ =>
        refine kL_go hF 1 (pc' := 1207) (L' := [(3, .inl (Int32.ofNat i)), (2, .inr (.inr (.inl (some 259)))), (1, .inr (.inr (.inl (some 0)))), (0, .inr (.inr (.inr 0)))]) (S' := []) (by with_unfolding_all rfl) ?_
        exact kL_next hg hF hnc hns hL hc hI hK
      | 46, _ =>
        refine kL_go hF 1 (pc' := 1207) (L' := [(3, .inl (Int32.ofNat i)), (2, .inr (.inr (.inl (some 259)))), (1, .inr (.inr (.inl (some 0)))), (0, .inr (.inr (.inr 0)))]) (S' := []) (by with_unfolding_all rfl) ?_
        exact kL_next hg hF hnc hns hL hc hI hK
      | 47, _ =>
        refine kL_go hF 1 (pc' := 1207) (L' := [(3, .inl (Int32.ofNat i)), (2, .inr (.inr (.inl (some 259)))), (1, .inr (.inr (.inl (some 0)))), (0, .inr (.inr (.inr 0)))]) (S' := []) (by with_unfolding_all rfl) ?_
        exact kL_next hg hF hnc hns hL hc hI hK
      | 48, _ =>
        refine kL_go hF 1 (pc' := 1207) (L' := [(3, .inl (Int32.ofNat i)), (2, .inr (.inr (.inl (some 259)))), (1, .inr (.inr (.inl (some 0)))), (0, .inr (.inr (.inr 0)))]) (S' := []) (by with_unfolding_all rfl) ?_
        exact kL_next hg hF hnc hns hL hc hI hK
      | 49, _ =>
        refine kL_go hF 1 (pc' := 1207) (L' := [(3, .inl (Int32.ofNat i)), (2, .inr (.inr (.inl (some 259)))), (1, .inr (.inr (.inl (some 0)))), (0, .inr (.inr (.inr 0)))]) (S' := []) (by with_unfolding_all rfl) ?_
        exact kL_next hg hF hnc hns hL hc hI hK
      | 50, _ =>
        refine kL_go hF 1 (pc' := 1207) (L' := [(3, .inl (Int32.ofNat i)), (2, .inr (.inr (.inl (some 259)))), (1, .inr (.inr (.inl (some 0)))), (0, .inr (.inr (.inr 0)))]) (S' := []) (by with_unfolding_all rfl) ?_
        exact kL_next hg hF hnc hns hL hc hI hK
      | 51, _ =>
        refine kL_go hF 1 (pc' := 1207) (L' := [(3, .inl (Int32.ofNat i)), (2, .inr (.inr (.inl (some 259)))), (1, .inr (.inr (.inl (some 0)))), (0, .inr (.inr (.inr 0)))]) (S' := []) (by with_unfolding_all rfl) ?_
        exact kL_next hg hF hnc hns hL hc hI hK
      | 52, _ =>
        refine kL_go hF 1 (pc' := 1207) (L' := [(3, .inl (Int32.ofNat i)), (2, .inr (.inr (.inl (some 259)))), (1, .inr (.inr (.inl (some 0)))), (0, .inr (.inr (.inr 0)))]) (S' := []) (by with_unfolding_all rfl) ?_
        exact kL_next hg hF hnc hns hL hc hI hK
      | 53, _ =>
        refine kL_go hF 1 (pc' := 1207) (L' := [(3, .inl (Int32.ofNat i)), (2, .inr (.inr (.inl (some 259)))), (1, .inr (.inr (.inl (some 0)))), (0, .inr (.inr (.inr 0)))]) (S' := []) (by with_unfolding_all rfl) ?_
        exact kL_next hg hF hnc hns hL hc hI hK
      | 54, _ =>
        refine kL_go hF 1 (pc' := 1207) (L' := [(3, .inl (Int32.ofNat i)), (2, .inr (.inr (.inl (some 259)))), (1, .inr (.inr (.inl (some 0)))), (0, .inr (.inr (.inr 0)))]) (S' := []) (by with_unfolding_all rfl) ?_
        exact kL_next hg hF hnc hns hL hc hI hK
      | 55, _ =>
        refine kL_go hF 1 (pc' := 1207) (L' := [(3, .inl (Int32.ofNat i)), (2, .inr (.inr (.inl (some 259)))), (1, .inr (.inr (.inl (some 0)))), (0, .inr (.inr (.inr 0)))]) (S' := []) (by with_unfolding_all rfl) ?_
        exact kL_next hg hF hnc hns hL hc hI hK
      | 56, _ =>
        refine kL_go hF 1 (pc' := 1207) (L' := [(3, .inl (Int32.ofNat i)), (2, .inr (.inr (.inl (some 259)))), (1, .inr (.inr (.inl (some 0)))), (0, .inr (.inr (.inr 0)))]) (S' := []) (by with_unfolding_all rfl) ?_
        exact kL_next hg hF hnc hns hL hc hI hK
      | 57, _ =>
        refine kL_go hF 1 (pc' := 1207) (L' := [(3, .inl (Int32.ofNat i)), (2, .inr (.inr (.inl (some 259)))), (1, .inr (.inr (.inl (some 0)))), (0, .inr (.inr (.inr 0)))]) (S' := []) (by with_unfolding_all rfl) ?_
        exact kL_next hg hF hnc hns hL hc hI hK
      | 58, _ =>
        refine kL_go hF 1 (pc' := 1207) (L' := [(3, .inl (Int32.ofNat i)), (2, .inr (.inr (.inl (some 259)))), (1, .inr (.inr (.inl (some 0)))), (0, .inr (.inr (.inr 0)))]) (S' := []) (by with_unfolding_all rfl) ?_
        exact kL_next hg hF hnc hns hL hc hI hK
      | 59, _ =>
        refine kL_go hF 1 (pc' := 1207) (L' := [(3, .inl (Int32.ofNat i)), (2, .inr (.inr (.inl (some 259)))), (1, .inr (.inr (.inl (some 0)))), (0, .inr (.inr (.inr 0)))]) (S' := []) (by with_unfolding_all rfl) ?_
        exact kL_next hg hF hnc hns hL hc hI hK
      | 60, _ =>
        refine kL_go hF 1 (pc' := 1207) (L' := [(3, .inl (Int32.ofNat i)), (2, .inr (.inr (.inl (some 259)))), (1, .inr (.inr (.inl (some 0)))), (0, .inr (.inr (.inr 0)))]) (S' := []) (by with_unfolding_all rfl) ?_
        exact kL_next hg hF hnc hns hL hc hI hK
      | 61, _ =>
        refine kL_go hF 1 (pc' := 1207) (L' := [(3, .inl (Int32.ofNat i)), (2, .inr (.inr (.inl (some 259)))), (1, .inr (.inr (.inl (some 0)))), (0, .inr (.inr (.inr 0)))]) (S' := []) (by with_unfolding_all rfl) ?_
        exact kL_next hg hF hnc hns hL hc hI hK
      | 62, _ =>
        refine kL_go hF 1 (pc' := 1207) (L' := [(3, .inl (Int32.ofNat i)), (2, .inr (.inr (.inl (some 259)))), (1, .inr (.inr (.inl (some 0)))), (0, .inr (.inr (.inr 0)))]) (S' := []) (by with_unfolding_all rfl) ?_
        exact kL_next hg hF hnc hns hL hc hI hK
      | 63, _ =>
        refine kL_go hF 1 (pc' := 1207) (L' := [(3, .inl (Int32.ofNat i)), (2, .inr (.inr (.inl (some 259)))), (1, .inr (.inr (.inl (some 0)))), (0, .inr (.inr (.inr 0)))]) (S' := []) (by with_unfolding_all rfl) ?_
        exact kL_next hg hF hnc hns hL hc hI hK
      | k + 64, hk => omega
    · rw [if_pos (by
        unfold kc_cnd
        rw [kx_ti (by omega), kL_sub (by omega) (by omega)]
        simp only [decide_eq_true_eq]
        omega)]
      refine kL_go hF 1 (pc' := 1214) (L' := [(3, .inl (Int32.ofNat i)), (2, .inr (.inr (.inl (some 259)))), (1, .inr (.inr (.inl (some 0)))), (0, .inr (.inr (.inr 0)))]) (S' := [.inl (Int32.ofNat 1)]) (by with_unfolding_all rfl) ?_
      exact kL_ret hF rfl rfl
