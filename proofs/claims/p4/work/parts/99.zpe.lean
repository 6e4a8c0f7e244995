/-! ===== all that is told is alike ===== -/
def fu_M (h : kc_H) (i o f : Nat) : Prop := h 262 i = .inl (kp_b false) ∨ ∃ B, fu_C B o h ∧ fu_R B 261 f h
theorem fu_Meq {h h' : kc_H} {i o f : Nat} (k : h' 262 i = h 262 i) (e1 : ∀ c j, o ≤ c → c < o + 31 → h' c j = h c j) (e2 : ∀ j, f ≤ j → j < f + 650 → h' 261 j = h 261 j) (hM : fu_M h i o f) : fu_M h' i o f := by
  rcases hM with b | ⟨B, b1, b2⟩
  · exact Or.inl (k.trans b)
  · exact Or.inr ⟨B, fu_Ceq e1 b1, fu_Req e2 b2⟩
/-- an IMAGE is alike, if it is kept -/
def fu_I (h : kc_H) : Prop := kd_wt kd_ty h ∧ (∃ B, fu_C B 1 h ∧ fu_B B h) ∧ fu_M h 0 64 0 ∧ fu_M h 1 95 650 ∧ (∀ i, i < 2 → h 126 i = h 262 i) ∧ kI h 260 0 ∧ kI h 261 0 ∧ kI h 261 650
theorem fu_now {h h' : kc_H} (hI : fu_I h) (hw : kd_wt kd_ty h') (hB : ∃ B, fu_C B 1 h' ∧ fu_B B h') (e1 : ∀ c i, 63 ≤ c → c ≤ 126 → h' c i = h c i) (e2 : ∀ c i, c = 261 ∨ c = 262 → h' c i = h c i) (hL : kI h' 260 0) : fu_I h' := by
  obtain ⟨-, -, b1, b3, b5, -, b6, b7⟩ := hI
  refine ⟨hw, hB, fu_Meq (e2 262 0 (Or.inr rfl)) (fun c i c1 c2 => e1 c i (by omega) (by omega)) (fun i _ _ => e2 261 i (Or.inl rfl)) b1, fu_Meq (e2 262 1 (Or.inr rfl)) (fun c i c1 c2 => e1 c i (by omega) (by omega)) (fun i _ _ => e2 261 i (Or.inl rfl)) b3, fun i hi => ?_, hL, ?_, ?_⟩
  · rw [e1 126 i (by decide) (by decide), e2 262 i (Or.inr rfl)]
    exact b5 i hi
  · exact kI_eq (e2 261 _ (Or.inl rfl)) (fun i _ => e2 261 _ (Or.inl rfl)) b6
  · exact kI_eq (e2 261 _ (Or.inl rfl)) (fun i _ => e2 261 _ (Or.inl rfl)) b7
theorem fu_rw_i : ∀ {l : List (Nat × Int32)} {h : kc_H} {i : Nat}, (∀ q ∈ l, ¬ q.1 = i) → fu_rw l h 260 i = h 260 i
  | [], _, _, _ => rfl
  | q :: l, h, i, hl => (fu_rw_i (l := l) (fun r hr => hl r (List.mem_cons_of_mem _ hr))).trans (fu_ne (fun k => hl q List.mem_cons_self k.2.symm))
/-- the places of THE LINE are left alone -/
def fu_sd (l : List (Nat × Int32)) : Prop := ∀ q ∈ l, ¬ q.1 = 3 ∧ ¬ (150 ≤ q.1 ∧ q.1 < 155)
theorem fu_sd_nil : fu_sd [] := fun q h => by cases h
theorem fu_sd_cons {j : Nat} {v : Int32} {l : List (Nat × Int32)} (h1 : ¬ j = 3 ∧ ¬ (150 ≤ j ∧ j < 155)) (h : fu_sd l) : fu_sd ((j, v) :: l) := fun q hq => by
  rcases List.mem_cons.mp hq with rfl | hq
  · exact h1
  · exact h q hq
theorem fu_kI {l : List (Nat × Int32)} {h : kc_H} (gd : fu_gd l) (hs : fu_sd l) (hL : kI h 260 0) : kI (fu_rw l (fu_cw 1 l h)) 260 0 := by
  refine kI_eq ?_ (fun i hi => ?_) hL
  · rw [fu_rw_i (fun q hq e => (hs q hq).1 (by omega)), fu_cw_o gd (by omega)]
  · rw [fu_rw_i (fun q hq e => (hs q hq).2 (by omega)), fu_cw_o gd (by omega)]
theorem fu_s_door {B : Nat → Int32} (hB : fu_BT B) : fu_sd (fu_door B).2 := by
  obtain ⟨D, D5, eD⟩ := fu_n0 hB
  unfold fu_door
  rw [eD, kx_ti (by omega)]
  split
  · rw [← Int32.ofNat_add]
    exact fu_sd_cons (by omega) fu_sd_nil
  · exact fu_sd_nil
theorem fu_s_way {B : Nat → Int32} {a b c : Int32} (hB : fu_BT B) : fu_sd (fu_way B a b c).2 := by
  obtain ⟨D, D5, eD⟩ := fu_n0 hB
  unfold fu_way
  split
  · rename_i e
    simp only [Bool.and_eq_true] at e
    obtain ⟨e1, e2, -, e4⟩ := e
    rw [eD, kx_ti (by omega)] at e1 e2
    obtain ⟨x, x5, rfl, -⟩ := fu_in_n (u := 5) e1 (by omega) (by omega)
    obtain ⟨y, y5, rfl, -⟩ := fu_in_n (u := 5) e2 (by omega) (by omega)
    have e4 := fu_in_t e4
    rw [fu_tn (by omega), fu_tn (by omega)]
    have hx : x < 6 := by omega
    have hy : y < 6 := by omega
    exact fu_sd_cons (by omega) (fu_sd_cons (by omega) fu_sd_nil)
  · exact fu_sd_nil
theorem fu_s_ford {B : Nat → Int32} {a : Int32} (hB : fu_BT B) : fu_sd (fu_ford B a).2 := by
  obtain ⟨D, D5, eD⟩ := fu_n0 hB
  unfold fu_ford
  split
  · rename_i e1
    rw [eD, kx_ti (by omega)] at e1
    obtain ⟨x, x5, rfl, -⟩ := fu_in_n (u := 5) e1 (by omega) (by omega)
    rw [fu_tn (by omega)]
    have hx : x < 6 := by omega
    split
    · exact fu_sd_nil
    · exact fu_sd_cons (by omega) fu_sd_nil
  · exact fu_sd_nil
theorem fu_s_stones {B : Nat → Int32} {a b : Int32} (hB : fu_BT B) : fu_sd (fu_stones B a b).2 := by
  obtain ⟨D, D5, eD⟩ := fu_n0 hB
  unfold fu_stones
  split
  · rename_i e
    simp only [Bool.and_eq_true] at e
    obtain ⟨e1, e2⟩ := e
    rw [eD, kx_ti (by omega)] at e1
    obtain ⟨x, x5, rfl, -⟩ := fu_in_n (u := 5) e1 (by omega) (by omega)
    have e2 := fu_in_t e2
    rw [fu_tn (by omega)]
    have hx : x < 6 := by omega
    exact fu_sd_cons (by omega) fu_sd_nil
  · exact fu_sd_nil
theorem fu_s_mule {B : Nat → Int32} {a b c : Int32} (hB : fu_BT B) : fu_sd (fu_mule B a b c).2 := by
  obtain ⟨M, M3, eM⟩ := fu_n1 hB
  unfold fu_mule
  split
  · rename_i e
    simp only [Bool.and_eq_true] at e
    obtain ⟨e1, e2, e3⟩ := e
    have e1 := fu_in_t e1
    have e2 := fu_in_t e2
    have e3 := fu_in_t e3
    rw [eM, kx_ti (by omega)]
    split
    · rw [← Int32.ofNat_add]
      have hm : M < 3 := by omega
      obtain ⟨f0, f1, f2, f3, f4, f5⟩ := fu_fmu M hm
      rw [Int.toNat_natCast]
      exact fu_sd_cons (by omega) (fu_sd_cons (by omega) (fu_sd_cons (by omega) (fu_sd_cons (by omega) (fu_sd_cons (by omega) (fu_sd_cons (by omega) fu_sd_nil)))))
    · exact fu_sd_nil
  · exact fu_sd_nil
theorem fu_s_lame {B : Nat → Int32} {a b c : Int32} (hB : fu_BT B) : fu_sd (fu_lame B a b c).2 := by
  obtain ⟨M, M3, eM⟩ := fu_n1 hB
  unfold fu_lame
  split
  · rename_i e
    simp only [Bool.and_eq_true] at e
    obtain ⟨e1, e2, e3⟩ := e
    rw [eM, kx_ti (by omega)] at e1
    obtain ⟨x, x5, rfl, x6, x7⟩ := fu_in_n (u := 3) e1 (by omega) (by omega)
    obtain ⟨y, y5, rfl, -⟩ := fu_in_n (u := 1) e2 (by omega) (by omega)
    have e3 := fu_in_t e3
    rw [fu_tn (by omega), fu_tn (by omega)]
    have hm : x < 3 := by omega
    obtain ⟨f0, -, -, -, f4, f5⟩ := fu_fmu x hm
    rcases (show y = 0 ∨ y = 1 by omega) with rfl | rfl
    · exact fu_sd_cons (by omega) fu_sd_nil
    · exact fu_sd_cons (by omega) fu_sd_nil
  · exact fu_sd_nil
theorem fu_s_load {B : Nat → Int32} {a b c e : Int32} (hB : fu_BT B) : fu_sd (fu_load B a b c e).2 := by
  obtain ⟨D, D5, eD⟩ := fu_n0 hB
  obtain ⟨L, L10, eL⟩ := fu_n2 hB
  unfold fu_load
  split
  · rename_i q
    simp only [Bool.and_eq_true] at q
    obtain ⟨e1, e2, e3, e4, -⟩ := q
    rw [eD, kx_ti (by omega)] at e3 e4
    have e1 := fu_in_t e1
    have e2 := fu_in_t e2
    have e3 := fu_in_t e3
    have e4 := fu_in_t e4
    rw [eL, kx_ti (by omega)]
    split
    · rw [← Int32.ofNat_add]
      have hm : L < 10 := by omega
      obtain ⟨f0, f1, f2, f3, f4, f5, f6, f7⟩ := fu_flo L hm
      rw [Int.toNat_natCast]
      exact fu_sd_cons (by omega) (fu_sd_cons (by omega) (fu_sd_cons (by omega) (fu_sd_cons (by omega) (fu_sd_cons (by omega) (fu_sd_cons (by omega) (fu_sd_cons (by omega) (fu_sd_cons (by omega) fu_sd_nil)))))))
    · exact fu_sd_nil
  · exact fu_sd_nil
theorem fu_s_ask {B : Nat → Int32} {a b : Int32} (hB : fu_BT B) : fu_sd (fu_ofl B 4 100 a b).2 := by
  obtain ⟨L, L10, eL⟩ := fu_n2 hB
  unfold fu_ofl
  split
  · rename_i e
    simp only [Bool.and_eq_true] at e
    obtain ⟨e1, e2⟩ := e
    rw [eL, kx_ti (by omega)] at e1
    obtain ⟨x, x5, rfl, x6, x7⟩ := fu_in_n (u := 10) e1 (by omega) (by omega)
    have e2 := fu_in_t e2
    rw [fu_tn (by omega)]
    have hm : x < 10 := by omega
    obtain ⟨f0, -, -, -, -, f5, -, -⟩ := fu_flo x hm
    exact fu_sd_cons (by omega) fu_sd_nil
  · exact fu_sd_nil
theorem fu_s_drain {B : Nat → Int32} {a b : Int32} (hB : fu_BT B) : fu_sd (fu_ofl B 5 9 a b).2 := by
  obtain ⟨L, L10, eL⟩ := fu_n2 hB
  unfold fu_ofl
  split
  · rename_i e
    simp only [Bool.and_eq_true] at e
    obtain ⟨e1, e2⟩ := e
    rw [eL, kx_ti (by omega)] at e1
    obtain ⟨x, x5, rfl, x6, x7⟩ := fu_in_n (u := 10) e1 (by omega) (by omega)
    have e2 := fu_in_t e2
    rw [fu_tn (by omega)]
    have hm : x < 10 := by omega
    obtain ⟨f0, -, -, -, -, -, f6, -⟩ := fu_flo x hm
    exact fu_sd_cons (by omega) fu_sd_nil
  · exact fu_sd_nil
theorem fu_s_put {B : Nat → Int32} {a b : Int32} : fu_sd (fu_put B a b).2 := by
  unfold fu_put
  by_cases e : (fu_in a 0 1 && fu_in b 1 (if a.toInt = 0 then 20 else 9)) = true
  · rw [if_pos e]
    rw [Bool.and_eq_true] at e
    obtain ⟨e1, e2⟩ := e
    obtain ⟨x, x5, rfl, x6, x7⟩ := fu_in_n (u := 1) e1 (by omega) (by omega)
    have e2 := fu_in_t e2
    rw [fu_tn (by omega)]
    rcases (show x = 0 ∨ x = 1 by omega) with rfl | rfl
    · rw [if_pos (by decide)] at e2
      exact fu_sd_cons (by omega) fu_sd_nil
    · rw [if_neg (by decide)] at e2
      exact fu_sd_cons (by omega) fu_sd_nil
  · rw [if_neg e]
    exact fu_sd_nil
theorem fu_s_clr {B : Nat → Int32} {a : Int32} : fu_sd (fu_clr B a).2 := by
  unfold fu_clr
  split
  · rename_i e1
    obtain ⟨x, x5, rfl, x6, x7⟩ := fu_in_n (u := 1) e1 (by omega) (by omega)
    rw [fu_tn (by omega)]
    have hx : x < 2 := by omega
    exact fu_sd_cons (by omega) fu_sd_nil
  · exact fu_sd_nil
/-- a call that answers and writes as the same function tells, on both sides -/
theorem fu_both {g : kc_G} {idc idr : Nat} {av : List kc_V} {h : kc_H} {B : Nat → Int32} {S : fu_S} (hI : fu_I h) (hC : fu_C B 1 h) (hR : fu_B B h) (gd : fu_gd S.2) (c1 : kc_Con g 30 idc (.inr (.inr (.inl (some 0))) :: av) h (fun rv h' => rv = some (.inl S.1) ∧ h' = fu_cw 1 S.2 h)) (c2 : ∀ h1, kd_wt kd_ty h1 → fu_B B h1 → (∀ i, h1 260 i = h 260 i) → kc_Con g 30 idr (.inr (.inr (.inl (some 259))) :: av) h1 (fun rv h' => rv = some (.inl S.1) ∧ h' = fu_rw S.2 h1)) (hk : kI (fu_rw S.2 (fu_cw 1 S.2 h)) 260 0) : kc_Con g 30 idc (.inr (.inr (.inl (some 0))) :: av) h (fun rv h1 => ∃ z : Int32, rv = some (.inl z) ∧ kc_Con g 30 idr (.inr (.inr (.inl (some 259))) :: av) h1 (fun rv2 h2 => rv2 = some (.inl z) ∧ fu_I h2)) := by
  refine kc_Con_mono c1 (fun rv h1 hq => ?_)
  obtain ⟨rfl, rfl⟩ := hq
  have hw1 := fu_wt_c gd hI.1
  have hR1 : fu_B B (fu_cw 1 S.2 h) := fu_Beq (fun i _ => fu_cw_o gd (Or.inr (by decide))) hR
  refine ⟨S.1, rfl, kc_Con_mono (c2 _ hw1 hR1 (fun i => fu_cw_o gd (Or.inr (by decide)))) (fun rv h2 hq => ?_)⟩
  obtain ⟨rfl, rfl⟩ := hq
  exact ⟨rfl, fu_now hI (fu_wt_r gd hw1) ⟨fu_bw S.2 B, fu_Ceq (fun c i c1 c2 => fu_rw_o (by omega)) (fu_C_w gd hC), fu_B_w hR1⟩ (fun c i a b => (fu_rw_o (by omega)).trans (fu_cw_o gd (by omega))) (fun c i a => (fu_rw_o (by omega)).trans (fu_cw_o gd (by omega))) hk⟩
theorem fU_Xdoor {g : kc_G} {h : kc_H} (hg : kc_ok g) (hI : fu_I h) : kc_Con g 30 13 [.inr (.inr (.inl (some 0)))] h (fun rv h1 => ∃ z : Int32, rv = some (.inl z) ∧ kc_Con g 30 15 [.inr (.inr (.inl (some 259)))] h1 (fun rv2 h2 => rv2 = some (.inl z) ∧ fu_I h2)) := by
  obtain ⟨B, hC, hR⟩ := hI.2.1
  have hB := fu_C_T hI.1 hC
  exact fu_both hI hC hR (fu_g_door hB) (kc_Con_le (fu_cdoor (d := 0) hg hI.1 hC hB) (by decide)) (fun h1 w1 r1 _ => kc_Con_le (fu_rdoor (d := 0) hg w1 r1 hB) (by decide)) (fu_kI (fu_g_door hB) (fu_s_door hB) hI.2.2.2.2.2.1)
theorem fU_Xway {g : kc_G} {h : kc_H} {a b c : Int32} (hg : kc_ok g) (hI : fu_I h) : kc_Con g 30 16 [.inr (.inr (.inl (some 0))), .inl a, .inl b, .inl c] h (fun rv h1 => ∃ z : Int32, rv = some (.inl z) ∧ kc_Con g 30 20 [.inr (.inr (.inl (some 259))), .inl a, .inl b, .inl c] h1 (fun rv2 h2 => rv2 = some (.inl z) ∧ fu_I h2)) := by
  obtain ⟨B, hC, hR⟩ := hI.2.1
  have hB := fu_C_T hI.1 hC
  exact fu_both hI hC hR (fu_g_way hB) (kc_Con_le (fu_cway (d := 0) hg hI.1 hC hB) (by decide)) (fun h1 w1 r1 _ => kc_Con_le (fu_rway (d := 0) hg w1 r1 hB) (by decide)) (fu_kI (fu_g_way hB) (fu_s_way hB) hI.2.2.2.2.2.1)
theorem fU_Xford {g : kc_G} {h : kc_H} {a : Int32} (hg : kc_ok g) (hI : fu_I h) : kc_Con g 30 23 [.inr (.inr (.inl (some 0))), .inl a] h (fun rv h1 => ∃ z : Int32, rv = some (.inl z) ∧ kc_Con g 30 26 [.inr (.inr (.inl (some 259))), .inl a] h1 (fun rv2 h2 => rv2 = some (.inl z) ∧ fu_I h2)) := by
  obtain ⟨B, hC, hR⟩ := hI.2.1
  have hB := fu_C_T hI.1 hC
  exact fu_both hI hC hR (fu_g_ford hB) (kc_Con_le (fu_cford (d := 0) hg hI.1 hC hB) (by decide)) (fun h1 w1 r1 _ => kc_Con_le (fu_rford (d := 0) hg w1 r1 hB) (by decide)) (fu_kI (fu_g_ford hB) (fu_s_ford hB) hI.2.2.2.2.2.1)
theorem fU_Xstones {g : kc_G} {h : kc_H} {a b : Int32} (hg : kc_ok g) (hI : fu_I h) : kc_Con g 30 28 [.inr (.inr (.inl (some 0))), .inl a, .inl b] h (fun rv h1 => ∃ z : Int32, rv = some (.inl z) ∧ kc_Con g 30 30 [.inr (.inr (.inl (some 259))), .inl a, .inl b] h1 (fun rv2 h2 => rv2 = some (.inl z) ∧ fu_I h2)) := by
  obtain ⟨B, hC, hR⟩ := hI.2.1
  have hB := fu_C_T hI.1 hC
  exact fu_both hI hC hR (fu_g_stones hB) (kc_Con_le (fu_cstones (d := 0) hg hI.1 hC hB) (by decide)) (fun h1 w1 r1 _ => kc_Con_le (fu_rstones (d := 0) hg w1 r1 hB) (by decide)) (fu_kI (fu_g_stones hB) (fu_s_stones hB) hI.2.2.2.2.2.1)
theorem fU_Xmule {g : kc_G} {h : kc_H} {a b c : Int32} (hg : kc_ok g) (hI : fu_I h) : kc_Con g 30 32 [.inr (.inr (.inl (some 0))), .inl a, .inl b, .inl c] h (fun rv h1 => ∃ z : Int32, rv = some (.inl z) ∧ kc_Con g 30 34 [.inr (.inr (.inl (some 259))), .inl a, .inl b, .inl c] h1 (fun rv2 h2 => rv2 = some (.inl z) ∧ fu_I h2)) := by
  obtain ⟨B, hC, hR⟩ := hI.2.1
  have hB := fu_C_T hI.1 hC
  exact fu_both hI hC hR (fu_g_mule hB) (kc_Con_le (fu_cmule (d := 0) hg hI.1 hC hB) (by decide)) (fun h1 w1 r1 _ => kc_Con_le (fu_rmule (d := 0) hg w1 r1 hB) (by decide)) (fu_kI (fu_g_mule hB) (fu_s_mule hB) hI.2.2.2.2.2.1)
theorem fU_Xlame {g : kc_G} {h : kc_H} {a b c : Int32} (hg : kc_ok g) (hI : fu_I h) : kc_Con g 30 35 [.inr (.inr (.inl (some 0))), .inl a, .inl b, .inl c] h (fun rv h1 => ∃ z : Int32, rv = some (.inl z) ∧ kc_Con g 30 39 [.inr (.inr (.inl (some 259))), .inl a, .inl b, .inl c] h1 (fun rv2 h2 => rv2 = some (.inl z) ∧ fu_I h2)) := by
  obtain ⟨B, hC, hR⟩ := hI.2.1
  have hB := fu_C_T hI.1 hC
  exact fu_both hI hC hR (fu_g_lame hB) (kc_Con_le (fu_clame (d := 0) hg hI.1 hC hB) (by decide)) (fun h1 w1 r1 _ => kc_Con_le (fu_rlame (d := 0) hg w1 r1 hB) (by decide)) (fu_kI (fu_g_lame hB) (fu_s_lame hB) hI.2.2.2.2.2.1)
theorem fU_Xload {g : kc_G} {h : kc_H} {a b c e : Int32} (hg : kc_ok g) (hI : fu_I h) : kc_Con g 30 41 [.inr (.inr (.inl (some 0))), .inl a, .inl b, .inl c, .inl e] h (fun rv h1 => ∃ z : Int32, rv = some (.inl z) ∧ kc_Con g 30 43 [.inr (.inr (.inl (some 259))), .inl a, .inl b, .inl c, .inl e] h1 (fun rv2 h2 => rv2 = some (.inl z) ∧ fu_I h2)) := by
  obtain ⟨B, hC, hR⟩ := hI.2.1
  have hB := fu_C_T hI.1 hC
  exact fu_both hI hC hR (fu_g_load hB) (kc_Con_le (fu_cload (d := 0) hg hI.1 hC hB) (by decide)) (fun h1 w1 r1 _ => kc_Con_le (fu_rload (d := 0) hg w1 r1 hB) (by decide)) (fu_kI (fu_g_load hB) (fu_s_load hB) hI.2.2.2.2.2.1)
theorem fU_Xask {g : kc_G} {h : kc_H} {a b : Int32} (hg : kc_ok g) (hI : fu_I h) : kc_Con g 30 44 [.inr (.inr (.inl (some 0))), .inl a, .inl b] h (fun rv h1 => ∃ z : Int32, rv = some (.inl z) ∧ kc_Con g 30 47 [.inr (.inr (.inl (some 259))), .inl a, .inl b] h1 (fun rv2 h2 => rv2 = some (.inl z) ∧ fu_I h2)) := by
  obtain ⟨B, hC, hR⟩ := hI.2.1
  have hB := fu_C_T hI.1 hC
  exact fu_both hI hC hR (fu_g_ask hB) (kc_Con_le (fu_cask (d := 0) hg hI.1 hC hB) (by decide)) (fun h1 w1 r1 _ => kc_Con_le (fu_rask (d := 0) hg w1 r1 hB) (by decide)) (fu_kI (fu_g_ask hB) (fu_s_ask hB) hI.2.2.2.2.2.1)
theorem fU_Xdrain {g : kc_G} {h : kc_H} {a b : Int32} (hg : kc_ok g) (hI : fu_I h) : kc_Con g 30 49 [.inr (.inr (.inl (some 0))), .inl a, .inl b] h (fun rv h1 => ∃ z : Int32, rv = some (.inl z) ∧ kc_Con g 30 50 [.inr (.inr (.inl (some 259))), .inl a, .inl b] h1 (fun rv2 h2 => rv2 = some (.inl z) ∧ fu_I h2)) := by
  obtain ⟨B, hC, hR⟩ := hI.2.1
  have hB := fu_C_T hI.1 hC
  exact fu_both hI hC hR (fu_g_drain hB) (kc_Con_le (fu_cdrain (d := 0) hg hI.1 hC hB) (by decide)) (fun h1 w1 r1 _ => kc_Con_le (fu_rdrain (d := 0) hg w1 r1 hB) (by decide)) (fu_kI (fu_g_drain hB) (fu_s_drain hB) hI.2.2.2.2.2.1)
theorem fU_Xput {g : kc_G} {h : kc_H} {a b : Int32} (hg : kc_ok g) (hI : fu_I h) : kc_Con g 30 51 [.inr (.inr (.inl (some 0))), .inl a, .inl b] h (fun rv h1 => ∃ z : Int32, rv = some (.inl z) ∧ kc_Con g 30 53 [.inr (.inr (.inl (some 259))), .inl a, .inl b] h1 (fun rv2 h2 => rv2 = some (.inl z) ∧ fu_I h2)) := by
  obtain ⟨B, hC, hR⟩ := hI.2.1
  have hB := fu_C_T hI.1 hC
  exact fu_both hI hC hR (fu_g_put) (kc_Con_le (fu_cput (d := 0) hg hI.1 hC hB) (by decide)) (fun h1 w1 r1 _ => kc_Con_le (fu_rput (d := 0) hg w1 r1 hB) (by decide)) (fu_kI (fu_g_put) (fu_s_put) hI.2.2.2.2.2.1)
theorem fU_Xclear {g : kc_G} {h : kc_H} {a : Int32} (hg : kc_ok g) (hI : fu_I h) : kc_Con g 30 58 [.inr (.inr (.inl (some 0))), .inl a] h (fun rv h1 => ∃ z : Int32, rv = some (.inl z) ∧ kc_Con g 30 59 [.inr (.inr (.inl (some 259))), .inl a] h1 (fun rv2 h2 => rv2 = some (.inl z) ∧ fu_I h2)) := by
  obtain ⟨B, hC, hR⟩ := hI.2.1
  have hB := fu_C_T hI.1 hC
  exact fu_both hI hC hR (fu_g_clr) (kc_Con_le (fu_c58 (d := 0) hg hI.1 hC hB) (by decide)) (fun h1 w1 r1 _ => kc_Con_le (fu_rclr (d := 0) hg w1 r1 hB) (by decide)) (fu_kI (fu_g_clr) (fu_s_clr) hI.2.2.2.2.2.1)
theorem fU_Xunline {g : kc_G} {h : kc_H} (hg : kc_ok g) (hI : fu_I h) : kc_Con g 30 95 [.inr (.inr (.inl (some 0)))] h (fun rv h1 => ∃ z : Int32, rv = some (.inl z) ∧ kc_Con g 30 96 [.inr (.inr (.inl (some 259)))] h1 (fun rv2 h2 => rv2 = some (.inl z) ∧ fu_I h2)) := by
  obtain ⟨B, hC, hR⟩ := hI.2.1
  have hB := fu_C_T hI.1 hC
  refine fu_both (S := fu_unl B) hI hC hR fu_g_unl (kc_Con_le (fu_c95 (d := 0) hg hI.1 hC hB) (by decide)) (fun h1 w1 r1 _ => kc_Con_le (fu_runl (d := 0) hg w1 r1 hB) (by decide)) ⟨0, fun _ => 0, by decide, ?_, fun i hi => absurd hi (by omega), fun i j _ hj => absurd hj (by omega)⟩
  show kc_upd (fu_cw 1 (fu_unl B).2 h) 260 3 (.inl (Int32.ofNat 0)) 260 3 = .inl (Int32.ofNat 0)
  exact fu_eq
theorem fu_n4 {n : Nat} {l : Nat → Nat} {dd : Nat} (n5 : n ≤ 5) (hdd : 1 ≤ dd ∧ dd ≤ 5) (hl5 : ∀ i, i < 5 → l i ≤ 5) (hl1 : ∀ i, i < n → 1 ≤ l i) (hdist : ∀ i j, i < j → j < n → ¬ l i = l j) (hno : ∀ i, i < n → ¬ l i = dd) : n < 5 := by
  by_cases q : n < 5
  · exact q
  · exfalso
    have hn5 : n = 5 := by omega
    have := kl_pig 5 6 (fun i => (if i < 5 then l i else dd) - 1) (fun i hi => by
      show (if i < 5 then l i else dd) - 1 < 5
      split
      · have := hl5 i (by omega); omega
      · omega) (fun i j hij hj => by
      show ¬ (if i < 5 then l i else dd) - 1 = (if j < 5 then l j else dd) - 1
      rw [if_pos (by omega)]
      have a := hl1 i (by omega)
      split
      · have b := hl1 j (by omega)
        have c := hdist i j hij (by omega)
        omega
      · have c := hno i (by omega)
        omega)
    omega
theorem fu_iN {a b : Nat} (ha : a < 2147483648) (hb : b < 2147483648) (h : (.inl (Int32.ofNat a) : kc_V) = .inl (Int32.ofNat b)) : a = b := by
  have e : (Int32.ofNat a).toInt = (Int32.ofNat b).toInt := by rw [Sum.inl.inj h]
  rw [kx_ti ha, kx_ti hb] at e
  omega
/-- kI in numbers that are there -/
theorem fu_kI4 {h : kc_H} {n : Nat} {l : Nat → Nat} {dd : Nat} (hL : kI h 260 0) (n5 : n ≤ 5) (en : h 260 3 = .inl (Int32.ofNat n)) (hl5 : ∀ i, i < 5 → l i ≤ 5) (ha : ∀ i, i < 5 → h 260 (150 + i) = .inl (Int32.ofNat (l i))) (hdd : 1 ≤ dd ∧ dd ≤ 5) : (∀ i, i < n → 1 ≤ l i) ∧ (∀ i j, i < j → j < n → ¬ l i = l j) := by
  obtain ⟨n2, l2, a1, a2, a3, a4⟩ := hL
  rw [Nat.zero_add, en] at a2
  obtain rfl := fu_iN (by omega) (by omega) a2
  have hl : ∀ i, i < n → l i = l2 i := fun i hi => by
    have e := (a3 i hi).2.2
    rw [Nat.zero_add, ha i (by omega)] at e
    have := hl5 i (by omega)
    have := (a3 i hi).2.1
    exact fu_iN (by omega) (by omega) e
  exact ⟨fun i hi => by rw [hl i hi]; exact (a3 i hi).1, fun i j hij hj => by rw [hl i (by omega), hl j hj]; exact a4 i j hij hj⟩
theorem fu_rw2b {a b : Nat} {v w : Int32} {X : kc_H} : fu_rw [(a, v), (b, w)] X 260 b = .inl w := by
  show kc_upd (kc_upd X 260 a (.inl v)) 260 b (.inl w) 260 b = .inl w
  exact fu_eq
theorem fu_rw2a {a b : Nat} {v w : Int32} {X : kc_H} (h : ¬ a = b) : fu_rw [(a, v), (b, w)] X 260 a = .inl v := by
  show kc_upd (kc_upd X 260 a (.inl v)) 260 b (.inl w) 260 a = .inl v
  exact (fu_ne (fun q => h q.2)).trans fu_eq
theorem fu_kIl {h : kc_H} {B : Nat → Int32} {a : Int32} (hL : kI h 260 0) (hR : fu_B B h) (hB : fu_BT B) : kI (fu_rw (fu_line B a).2 (fu_cw 1 (fu_line B a).2 h)) 260 0 := by
  obtain ⟨D, D5, eD⟩ := fu_n0 hB
  obtain ⟨n, n5, en⟩ := fu_n3 hB
  have gd := fu_g_line (a := a) hB
  by_cases c1 : fu_in a 1 (B 0).toInt = true
  · by_cases c2 : fu_il B a n = true
    · have key : fu_line B a = (Int32.ofInt (-3), []) := by unfold fu_line; rw [if_pos c1, en, kx_ti (by omega), Int.toNat_natCast, if_pos c2]
      rw [key]
      exact hL
    · by_cases c3 : n < 5
      · have key : fu_line B a = (Int32.ofNat (n + 1), [(150 + n, a), (3, Int32.ofNat (n + 1))]) := by unfold fu_line; rw [if_pos c1, en, kx_ti (by omega), Int.toNat_natCast, if_neg c2, if_pos (show (n : Int) < 5 by omega), kx_inc1]
        have q1 := c1
        rw [eD, kx_ti (by omega)] at q1
        obtain ⟨dd, dd5, rfl, d1, d2⟩ := fu_in_n (u := 5) q1 (by omega) (by omega)
        obtain ⟨n2, l, a1, a2, a3, a4⟩ := id hL
        have e3 : h 260 3 = .inl (Int32.ofNat n) := by rw [hR 3 (by decide) (by decide), en]
        rw [Nat.zero_add, e3] at a2
        obtain rfl := fu_iN (by omega) (by omega) a2
        have hne : ∀ i, i < n → ¬ l i = dd := fun i hi e => by
          have q := (a3 i hi).2.2
          rw [Nat.zero_add, hR (150 + i) (by omega) (fu_fli i (by omega)).2.1] at q
          have q := Sum.inl.inj q
          exact fu_il_f (Bool.eq_false_iff.mpr c2) hi (by rw [q, e])
        have gd2 := gd
        rw [key] at gd2
        have hm : ∀ i, ¬ i = 3 → ¬ i = 150 + n → (fu_rw (fu_line B (Int32.ofNat dd)).2 (fu_cw 1 (fu_line B (Int32.ofNat dd)).2 h)) 260 i = h 260 i := fun i i1 i2 => by
          rw [key, fu_rw_i (fun q hq => ?_), fu_cw_o gd2 (Or.inr (by decide))]
          simp only [List.mem_cons, List.not_mem_nil, or_false] at hq
          rcases hq with rfl | rfl
          · exact fun q => i2 q.symm
          · exact fun q => i1 q.symm
        refine ⟨n + 1, fun i => if i = n then dd else l i, by omega, ?_, fun i hi => ?_, fun i j hij hj => ?_⟩
        · rw [key]
          exact fu_rw2b
        · by_cases e : i = n
          · subst e
            refine ⟨by show 1 ≤ (if i = i then dd else l i); rw [if_pos rfl]; omega, by show (if i = i then dd else l i) ≤ 5; rw [if_pos rfl]; omega, ?_⟩
            show _ = (Sum.inl (Int32.ofNat (if i = i then dd else l i)) : kc_V)
            rw [if_pos rfl, key, Nat.zero_add]
            exact fu_rw2a (by omega)
          · refine ⟨by show 1 ≤ (if i = n then dd else l i); rw [if_neg e]; exact (a3 i (by omega)).1, by show (if i = n then dd else l i) ≤ 5; rw [if_neg e]; exact (a3 i (by omega)).2.1, ?_⟩
            show _ = (Sum.inl (Int32.ofNat (if i = n then dd else l i)) : kc_V)
            rw [if_neg e, hm _ (by omega) (by omega)]
            exact (a3 i (by omega)).2.2
        · show ¬ (if i = n then dd else l i) = (if j = n then dd else l j)
          rw [if_neg (by omega)]
          by_cases e : j = n
          · rw [if_pos e]
            exact hne i (by omega)
          · rw [if_neg e]
            exact a4 i j hij (by omega)
      · have key : fu_line B a = (Int32.ofInt (-3), []) := by unfold fu_line; rw [if_pos c1, en, kx_ti (by omega), Int.toNat_natCast, if_neg c2, if_neg (show ¬ (n : Int) < 5 by omega)]
        rw [key]
        exact hL
  · have key : fu_line B a = (Int32.ofInt (-2), []) := by unfold fu_line; rw [if_neg c1]
    rw [key]
    exact hL
theorem fU_Xline {g : kc_G} {h : kc_H} {a : Int32} (hg : kc_ok g) (hI : fu_I h) : kc_Con g 30 93 [.inr (.inr (.inl (some 0))), .inl a] h (fun rv h1 => ∃ z : Int32, rv = some (.inl z) ∧ kc_Con g 30 94 [.inr (.inr (.inl (some 259))), .inl a] h1 (fun rv2 h2 => rv2 = some (.inl z) ∧ fu_I h2)) := by
  obtain ⟨B, hC, hR⟩ := hI.2.1
  have hB := fu_C_T hI.1 hC
  refine fu_both (S := fu_line B a) hI hC hR (fu_g_line hB) (kc_Con_le (fu_cline (d := 0) hg hI.1 hC hB) (by decide)) (fun h1 w1 r1 e1 => kc_Con_le (fu_rline (d := 0) hg w1 r1 hB (fun n l dd n5 en hl5 ha d1 d2 hno => ?_)) (by decide)) (fu_kIl hI.2.2.2.2.2.1 hR hB)
  obtain ⟨b1, b2⟩ := fu_kI4 (dd := dd) hI.2.2.2.2.2.1 n5 (by rw [hR 3 (by decide) (by decide), en]) hl5 (fun i hi => by rw [← e1]; exact ha i hi) (by omega)
  exact fu_n4 n5 (by omega) hl5 b1 b2 hno
theorem fU_Xcount {g : kc_G} {h : kc_H} {a : Int32} (hg : kc_ok g) (hI : fu_I h) : kc_Con g 30 161 [.inr (.inr (.inl (some 0))), .inl a] h (fun rv h1 => ∃ z : Int32, rv = some (.inl z) ∧ kc_Con g 30 163 [.inr (.inr (.inl (some 259))), .inl a] h1 (fun rv2 h2 => rv2 = some (.inl z) ∧ fu_I h2)) := by
  obtain ⟨B, hC, hR⟩ := hI.2.1
  exact fu_both (S := (fu_cnt B a, [])) hI hC hR fu_gd_nil (kc_Con_le (fu_ccnt (d := 0) hg hI.1 hC) (by decide)) (fun h1 w1 r1 _ => kc_Con_le (fu_rcnt (d := 0) hg w1 r1) (by decide)) hI.2.2.2.2.2.1
