/-! ===== contracts, km 9 ===== -/
def kd_P274n2 : List kd_P := [(some (0, 0, 2148483648), [], [(276, 277, 0, 0), (276, 277, 0, 5), (286, 286, 0, 10), (285, 286, 0, 18)])]
def kd_T274n2 : kd_Tc := ([(3, 259, 259), (0, 2147483648, 2147483650)], [(260, 2, (0, 2147483650, 2147483650)), (272, 0, (0, 2147483648, 2147483653)), (272, 1, (0, 2147483648, 2147483653))], kd_P274n2)
theorem kd_h274n2 {g : kc_G} (hg : kc_ok g) : kd_hold g 5 kd_ty 274 kd_T274n2 := fun xs h hw hv hF => by
  refine kf_dn (T := kd_T274g) (kf_h274g hg xs h ⟨2, by decide, kf_ofs (n := 0) (ρ := fun _ => 0) (k := 2) (by decide) (hF (260, 2, (0, 2147483648 + 2, 2147483648 + 2)) (List.mem_of_getElem? (i := 0) rfl)), fun l hl => ?_⟩ hw hv) (fun p hp => ?_)
  · rcases (show l = 0 ∨ l = 1 by omega) with rfl | rfl
    · exact hF (272, 0, (0, 2147483648, 2147483653)) (List.mem_of_getElem? (i := 1) rfl)
    · exact hF (272, 1, (0, 2147483648, 2147483653)) (List.mem_of_getElem? (i := 2) rfl)
  · obtain rfl := List.mem_singleton.mp hp
    exact ⟨_, List.mem_singleton.mpr rfl, rfl, rfl, by decide⟩
def kd_P274n3 : List kd_P := [(some (0, 0, 2148483648), [], [(276, 277, 0, 0), (276, 277, 0, 5), (286, 286, 0, 10), (285, 286, 0, 18)])]
def kd_T274n3 : kd_Tc := ([(3, 259, 259), (0, 2147483648, 2147483650)], [(260, 2, (0, 2147483651, 2147483651)), (272, 0, (0, 2147483648, 2147483653)), (272, 1, (0, 2147483648, 2147483653)), (272, 2, (0, 2147483648, 2147483653))], kd_P274n3)
theorem kd_h274n3 {g : kc_G} (hg : kc_ok g) : kd_hold g 5 kd_ty 274 kd_T274n3 := fun xs h hw hv hF => by
  refine kf_dn (T := kd_T274g) (kf_h274g hg xs h ⟨3, by decide, kf_ofs (n := 0) (ρ := fun _ => 0) (k := 3) (by decide) (hF (260, 2, (0, 2147483648 + 3, 2147483648 + 3)) (List.mem_of_getElem? (i := 0) rfl)), fun l hl => ?_⟩ hw hv) (fun p hp => ?_)
  · rcases (show l = 0 ∨ l = 1 ∨ l = 2 by omega) with rfl | rfl | rfl
    · exact hF (272, 0, (0, 2147483648, 2147483653)) (List.mem_of_getElem? (i := 1) rfl)
    · exact hF (272, 1, (0, 2147483648, 2147483653)) (List.mem_of_getElem? (i := 2) rfl)
    · exact hF (272, 2, (0, 2147483648, 2147483653)) (List.mem_of_getElem? (i := 3) rfl)
  · obtain rfl := List.mem_singleton.mp hp
    exact ⟨_, List.mem_singleton.mpr rfl, rfl, rfl, by decide⟩
def kd_P274n4 : List kd_P := [(some (0, 0, 2148483648), [], [(276, 277, 0, 0), (276, 277, 0, 5), (286, 286, 0, 10), (285, 286, 0, 18)])]
def kd_T274n4 : kd_Tc := ([(3, 259, 259), (0, 2147483648, 2147483650)], [(260, 2, (0, 2147483652, 2147483652)), (272, 0, (0, 2147483648, 2147483653)), (272, 1, (0, 2147483648, 2147483653)), (272, 2, (0, 2147483648, 2147483653)), (272, 3, (0, 2147483648, 2147483653))], kd_P274n4)
theorem kd_h274n4 {g : kc_G} (hg : kc_ok g) : kd_hold g 5 kd_ty 274 kd_T274n4 := fun xs h hw hv hF => by
  refine kf_dn (T := kd_T274g) (kf_h274g hg xs h ⟨4, by decide, kf_ofs (n := 0) (ρ := fun _ => 0) (k := 4) (by decide) (hF (260, 2, (0, 2147483648 + 4, 2147483648 + 4)) (List.mem_of_getElem? (i := 0) rfl)), fun l hl => ?_⟩ hw hv) (fun p hp => ?_)
  · rcases (show l = 0 ∨ l = 1 ∨ l = 2 ∨ l = 3 by omega) with rfl | rfl | rfl | rfl
    · exact hF (272, 0, (0, 2147483648, 2147483653)) (List.mem_of_getElem? (i := 1) rfl)
    · exact hF (272, 1, (0, 2147483648, 2147483653)) (List.mem_of_getElem? (i := 2) rfl)
    · exact hF (272, 2, (0, 2147483648, 2147483653)) (List.mem_of_getElem? (i := 3) rfl)
    · exact hF (272, 3, (0, 2147483648, 2147483653)) (List.mem_of_getElem? (i := 4) rfl)
  · obtain rfl := List.mem_singleton.mp hp
    exact ⟨_, List.mem_singleton.mpr rfl, rfl, rfl, by decide⟩
def kd_P274n5 : List kd_P := [(some (0, 0, 2148483648), [], [(276, 277, 0, 0), (276, 277, 0, 5), (286, 286, 0, 10), (285, 286, 0, 18)])]
def kd_T274n5 : kd_Tc := ([(3, 259, 259), (0, 2147483648, 2147483650)], [(260, 2, (0, 2147483653, 2147483653)), (272, 0, (0, 2147483648, 2147483653)), (272, 1, (0, 2147483648, 2147483653)), (272, 2, (0, 2147483648, 2147483653)), (272, 3, (0, 2147483648, 2147483653)), (272, 4, (0, 2147483648, 2147483653))], kd_P274n5)
theorem kd_h274n5 {g : kc_G} (hg : kc_ok g) : kd_hold g 5 kd_ty 274 kd_T274n5 := fun xs h hw hv hF => by
  refine kf_dn (T := kd_T274g) (kf_h274g hg xs h ⟨5, by decide, kf_ofs (n := 0) (ρ := fun _ => 0) (k := 5) (by decide) (hF (260, 2, (0, 2147483648 + 5, 2147483648 + 5)) (List.mem_of_getElem? (i := 0) rfl)), fun l hl => ?_⟩ hw hv) (fun p hp => ?_)
  · rcases (show l = 0 ∨ l = 1 ∨ l = 2 ∨ l = 3 ∨ l = 4 by omega) with rfl | rfl | rfl | rfl | rfl
    · exact hF (272, 0, (0, 2147483648, 2147483653)) (List.mem_of_getElem? (i := 1) rfl)
    · exact hF (272, 1, (0, 2147483648, 2147483653)) (List.mem_of_getElem? (i := 2) rfl)
    · exact hF (272, 2, (0, 2147483648, 2147483653)) (List.mem_of_getElem? (i := 3) rfl)
    · exact hF (272, 3, (0, 2147483648, 2147483653)) (List.mem_of_getElem? (i := 4) rfl)
    · exact hF (272, 4, (0, 2147483648, 2147483653)) (List.mem_of_getElem? (i := 5) rfl)
  · obtain rfl := List.mem_singleton.mp hp
    exact ⟨_, List.mem_singleton.mpr rfl, rfl, rfl, by decide⟩
def kd_P274n6 : List kd_P := [(some (0, 0, 2148483648), [], [(276, 277, 0, 0), (276, 277, 0, 5), (286, 286, 0, 10), (285, 286, 0, 18)])]
def kd_T274n6 : kd_Tc := ([(3, 259, 259), (0, 2147483648, 2147483650)], [(260, 2, (0, 2147483654, 2147483654)), (272, 0, (0, 2147483648, 2147483653)), (272, 1, (0, 2147483648, 2147483653)), (272, 2, (0, 2147483648, 2147483653)), (272, 3, (0, 2147483648, 2147483653)), (272, 4, (0, 2147483648, 2147483653)), (272, 5, (0, 2147483648, 2147483653))], kd_P274n6)
theorem kd_h274n6 {g : kc_G} (hg : kc_ok g) : kd_hold g 5 kd_ty 274 kd_T274n6 := fun xs h hw hv hF => by
  refine kf_dn (T := kd_T274g) (kf_h274g hg xs h ⟨6, by decide, kf_ofs (n := 0) (ρ := fun _ => 0) (k := 6) (by decide) (hF (260, 2, (0, 2147483648 + 6, 2147483648 + 6)) (List.mem_of_getElem? (i := 0) rfl)), fun l hl => ?_⟩ hw hv) (fun p hp => ?_)
  · rcases (show l = 0 ∨ l = 1 ∨ l = 2 ∨ l = 3 ∨ l = 4 ∨ l = 5 by omega) with rfl | rfl | rfl | rfl | rfl | rfl
    · exact hF (272, 0, (0, 2147483648, 2147483653)) (List.mem_of_getElem? (i := 1) rfl)
    · exact hF (272, 1, (0, 2147483648, 2147483653)) (List.mem_of_getElem? (i := 2) rfl)
    · exact hF (272, 2, (0, 2147483648, 2147483653)) (List.mem_of_getElem? (i := 3) rfl)
    · exact hF (272, 3, (0, 2147483648, 2147483653)) (List.mem_of_getElem? (i := 4) rfl)
    · exact hF (272, 4, (0, 2147483648, 2147483653)) (List.mem_of_getElem? (i := 5) rfl)
    · exact hF (272, 5, (0, 2147483648, 2147483653)) (List.mem_of_getElem? (i := 6) rfl)
  · obtain rfl := List.mem_singleton.mp hp
    exact ⟨_, List.mem_singleton.mpr rfl, rfl, rfl, by decide⟩
