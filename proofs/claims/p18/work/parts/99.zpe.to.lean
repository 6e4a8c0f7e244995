section
-- 99.zpe
/-! ===== all that is told is alike ===== -/
def fu_M (h : kc_H) (i o f : Nat) : Prop := h 262 i = .inl (kp_b false) ∨ ∃ B, fu_C B o h ∧ fu_R B 261 f h
theorem fu_Meq {h h' : kc_H} {i o f : Nat} (k : h' 262 i = h 262 i) (e1 : ∀ c j, o ≤ c → c < o + 31 → h' c j = h c j) (e2 : ∀ j, f ≤ j → j < f + 650 → h' 261 j = h 261 j) (hM : fu_M h i o f) : fu_M h' i o f := by
  rcases hM with b | ⟨B, b1, b2⟩
  · exact Or.inl (k.trans b)
  · exact Or.inr ⟨B, fu_Ceq e1 b1, fu_Req e2 b2⟩
/-- an IMAGE is alike, if it is kept -/
def fu_I (h : kc_H) : Prop := kd_wt kd_ty h ∧ (∃ B, fu_C B 1 h ∧ fu_B B h) ∧ fu_M h 0 64 0 ∧ fu_M h 1 95 650 ∧ (∀ i, i < 2 → h 126 i = h 262 i) ∧ kI h 260 0 ∧ kI h 261 0 ∧ kI h 261 650
theorem fu_now {h h' : kc_H} (hI : fu_I h) (hw : kd_wt kd_ty h') (hB : ∃ B, fu_C B 1 h' ∧ fu_B B h') (e1 : ∀ c i, 63 ≤ c → c ≤ 126 → h' c i = h c i) (e2 : ∀ c i, c = 261 ∨ c = 262 → h' c i = h c i) (hL : kI h' 260 0) : fu_I h' := by
  obtain ⟨-, -, b1, b3, b5, -, b6, b7⟩ := hI
  refine ⟨hw, hB, fu_Meq (e2 262 0 (Or.inr rfl)) (fun c i c1 c2 => e1 c i (by omega) (by omega)) (fun i _ _ => e2 261 i (Or.inl rfl)) b1, fu_Meq (e2 262 1 (Or.inr rfl)) (fun c i c1 c2 => e1 c i (by omega) (by omega)) (fun i _ _ => e2 261 i (Or.inl rfl)) b3, fun i hi => ?_, hL, ?_, ?_⟩
  · rw [e1 126 i (by decide) (by decide), e2 262 i (Or.inr rfl)]
    exact b5 i hi
  · exact kI_eq (e2 261 _ (Or.inl rfl)) (fun i _ => e2 261 _ (Or.inl rfl)) b6
  · exact kI_eq (e2 261 _ (Or.inl rfl)) (fun i _ => e2 261 _ (Or.inl rfl)) b7
theorem fu_rw_i : ∀ {l : List (Nat × Int32)} {h : kc_H} {i : Nat}, (∀ q ∈ l, ¬ q.1 = i) → fu_rw l h 260 i = h 260 i
  | [], _, _, _ => rfl
  | q :: l, h, i, hl => (fu_rw_i (l := l) (fun r hr => hl r (List.mem_cons_of_mem _ hr))).trans (fu_ne (fun k => hl q List.mem_cons_self k.2.symm))
/-- the places of THE LINE are left alone -/
def fu_sd (l : List (Nat × Int32)) : Prop := ∀ q ∈ l, ¬ q.1 = 3 ∧ ¬ (150 ≤ q.1 ∧ q.1 < 155)
theorem fu_sd_nil : fu_sd [] := fun q h => by cases h
theorem fu_sd_cons {j : Nat} {v : Int32} {l : List (Nat × Int32)} (h1 : ¬ j = 3 ∧ ¬ (150 ≤ j ∧ j < 155)) (h : fu_sd l) : fu_sd ((j, v) :: l) := fun q hq => by
  rcases List.mem_cons.mp hq with rfl | hq
  · exact h1
  · exact h q hq
theorem fu_kI {l : List (Nat × Int32)} {h : kc_H} (gd : fu_gd l) (hs : fu_sd l) (hL : kI h 260 0) : kI (fu_rw l (fu_cw 1 l h)) 260 0 := by
  refine kI_eq ?_ (fun i hi => ?_) hL
  · rw [fu_rw_i (fun q hq e => (hs q hq).1 (by omega)), fu_cw_o gd (by omega)]
  · rw [fu_rw_i (fun q hq e => (hs q hq).2 (by omega)), fu_cw_o gd (by omega)]
theorem fu_s_door {B : Nat → Int32} (hB : fu_BT B) : fu_sd (fu_door B).2 := by
  obtain ⟨D, D5, eD⟩ := fu_n0 hB
  unfold fu_door
  rw [eD, kx_ti (by omega)]
  split
  · rw [← Int32.ofNat_add]
    exact fu_sd_cons (by omega) fu_sd_nil
  · exact fu_sd_nil
theorem fu_s_way {B : Nat → Int32} {a b c : Int32} (hB : fu_BT B) : fu_sd (fu_way B a b c).2 := by
  obtain ⟨D, D5, eD⟩ := fu_n0 hB
  unfold fu_way
  split
  · rename_i e
    simp only [Bool.and_eq_true] at e
    obtain ⟨e1, e2, -, e4⟩ := e
    rw [eD, kx_ti (by omega)] at e1 e2
    obtain ⟨x, x5, rfl, -⟩ := fu_in_n (u := 5) e1 (by omega) (by omega)
    obtain ⟨y, y5, rfl, -⟩ := fu_in_n (u := 5) e2 (by omega) (by omega)
    have e4 := fu_in_t e4
    rw [fu_tn (by omega), fu_tn (by omega)]
    have hx : x < 6 := by omega
    have hy : y < 6 := by omega
    exact fu_sd_cons (by omega) (fu_sd_cons (by omega) fu_sd_nil)
  · exact fu_sd_nil
theorem fu_s_ford {B : Nat → Int32} {a : Int32} (hB : fu_BT B) : fu_sd (fu_ford B a).2 := by
  obtain ⟨D, D5, eD⟩ := fu_n0 hB
  unfold fu_ford
  split
  · rename_i e1
    rw [eD, kx_ti (by omega)] at e1
    obtain ⟨x, x5, rfl, -⟩ := fu_in_n (u := 5) e1 (by omega) (by omega)
    rw [fu_tn (by omega)]
    have hx : x < 6 := by omega
    split
    · exact fu_sd_nil
    · exact fu_sd_cons (by omega) fu_sd_nil
  · exact fu_sd_nil
theorem fu_s_stones {B : Nat → Int32} {a b : Int32} (hB : fu_BT B) : fu_sd (fu_stones B a b).2 := by
  obtain ⟨D, D5, eD⟩ := fu_n0 hB
  unfold fu_stones
  split
  · rename_i e
    simp only [Bool.and_eq_true] at e
    obtain ⟨e1, e2⟩ := e
    rw [eD, kx_ti (by omega)] at e1
    obtain ⟨x, x5, rfl, -⟩ := fu_in_n (u := 5) e1 (by omega) (by omega)
    have e2 := fu_in_t e2
    rw [fu_tn (by omega)]
    have hx : x < 6 := by omega
    exact fu_sd_cons (by omega) fu_sd_nil
  · exact fu_sd_nil
theorem fu_s_mule {B : Nat → Int32} {a b c : Int32} (hB : fu_BT B) : fu_sd (fu_mule B a b c).2 := by
  obtain ⟨M, M3, eM⟩ := fu_n1 hB
  unfold fu_mule
  split
  · rename_i e
    simp only [Bool.and_eq_true] at e
    obtain ⟨e1, e2, e3⟩ := e
    have e1 := fu_in_t e1
    have e2 := fu_in_t e2
    have e3 := fu_in_t e3
    rw [eM, kx_ti (by omega)]
    split
    · rw [← Int32.ofNat_add]
      have hm : M < 3 := by omega
      obtain ⟨f0, f1, f2, f3, f4, f5⟩ := fu_fmu M hm
      rw [Int.toNat_natCast]
      exact fu_sd_cons (by omega) (fu_sd_cons (by omega) (fu_sd_cons (by omega) (fu_sd_cons (by omega) (fu_sd_cons (by omega) (fu_sd_cons (by omega) fu_sd_nil)))))
    · exact fu_sd_nil
  · exact fu_sd_nil
theorem fu_s_lame {B : Nat → Int32} {a b c : Int32} (hB : fu_BT B) : fu_sd (fu_lame B a b c).2 := by
  obtain ⟨M, M3, eM⟩ := fu_n1 hB
  unfold fu_lame
  split
  · rename_i e
    simp only [Bool.and_eq_true] at e
    obtain ⟨e1, e2, e3⟩ := e
    rw [eM, kx_ti (by omega)] at e1
    obtain ⟨x, x5, rfl, x6, x7⟩ := fu_in_n (u := 3) e1 (by omega) (by omega)
    obtain ⟨y, y5, rfl, -⟩ := fu_in_n (u := 1) e2 (by omega) (by omega)
    have e3 := fu_in_t e3
    rw [fu_tn (by omega), fu_tn (by omega)]
    have hm : x < 3 := by omega
    obtain ⟨f0, -, -, -, f4, f5⟩ := fu_fmu x hm
    rcases (show y = 0 ∨ y = 1 by omega) with rfl | rfl
    · exact fu_sd_cons (by omega) fu_sd_nil
    · exact fu_sd_cons (by omega) fu_sd_nil
  · exact fu_sd_nil
theorem fu_s_load {B : Nat → Int32} {a b c e : Int32} (hB : fu_BT B) : fu_sd (fu_load B a b c e).2 := by
  obtain ⟨D, D5, eD⟩ := fu_n0 hB
  obtain ⟨L, L10, eL⟩ := fu_n2 hB
  unfold fu_load
  split
  · rename_i q
    simp only [Bool.and_eq_true] at q
    obtain ⟨e1, e2, e3, e4, -⟩ := q
    rw [eD, kx_ti (by omega)] at e3 e4
    have e1 := fu_in_t e1
    have e2 := fu_in_t e2
    have e3 := fu_in_t e3
    have e4 := fu_in_t e4
    rw [eL, kx_ti (by omega)]
    split
    · rw [← Int32.ofNat_add]
      have hm : L < 10 := by omega
      obtain ⟨f0, f1, f2, f3, f4, f5, f6, f7⟩ := fu_flo L hm
      rw [Int.toNat_natCast]
      exact fu_sd_cons (by omega) (fu_sd_cons (by omega) (fu_sd_cons (by omega) (fu_sd_cons (by omega) (fu_sd_cons (by omega) (fu_sd_cons (by omega) (fu_sd_cons (by omega) (fu_sd_cons (by omega) fu_sd_nil)))))))
    · exact fu_sd_nil
  · exact fu_sd_nil
theorem fu_s_ask {B : Nat → Int32} {a b : Int32} (hB : fu_BT B) : fu_sd (fu_ofl B 4 100 a b).2 := by
  obtain ⟨L, L10, eL⟩ := fu_n2 hB
  unfold fu_ofl
  split
  · rename_i e
    simp only [Bool.and_eq_true] at e
    obtain ⟨e1, e2⟩ := e
    rw [eL, kx_ti (by omega)] at e1
    obtain ⟨x, x5, rfl, x6, x7⟩ := fu_in_n (u := 10) e1 (by omega) (by omega)
    have e2 := fu_in_t e2
    rw [fu_tn (by omega)]
    have hm : x < 10 := by omega
    obtain ⟨f0, -, -, -, -, f5, -, -⟩ := fu_flo x hm
    exact fu_sd_cons (by omega) fu_sd_nil
  · exact fu_sd_nil
theorem fu_s_drain {B : Nat → Int32} {a b : Int32} (hB : fu_BT B) : fu_sd (fu_ofl B 5 9 a b).2 := by
  obtain ⟨L, L10, eL⟩ := fu_n2 hB
  unfold fu_ofl
  split
  · rename_i e
    simp only [Bool.and_eq_true] at e
    obtain ⟨e1, e2⟩ := e
    rw [eL, kx_ti (by omega)] at e1
    obtain ⟨x, x5, rfl, x6, x7⟩ := fu_in_n (u := 10) e1 (by omega) (by omega)
    have e2 := fu_in_t e2
    rw [fu_tn (by omega)]
    have hm : x < 10 := by omega
    obtain ⟨f0, -, -, -, -, -, f6, -⟩ := fu_flo x hm
    exact fu_sd_cons (by omega) fu_sd_nil
  · exact fu_sd_nil
theorem fu_s_put {B : Nat → Int32} {a b : Int32} : fu_sd (fu_put B a b).2 := by
  unfold fu_put
  by_cases e : (fu_in a 0 1 && fu_in b 1 (if a.toInt = 0 then 20 else 9)) = true
  · rw [if_pos e]
    rw [Bool.and_eq_true] at e
    obtain ⟨e1, e2⟩ := e
    obtain ⟨x, x5, rfl, x6, x7⟩ := fu_in_n (u := 1) e1 (by omega) (by omega)
    have e2 := fu_in_t e2
    rw [fu_tn (by omega)]
    rcases (show x = 0 ∨ x = 1 by omega) with rfl | rfl
    · rw [if_pos (by decide)] at e2
      exact fu_sd_cons (by omega) fu_sd_nil
    · rw [if_neg (by decide)] at e2
      exact fu_sd_cons (by omega) fu_sd_nil
  · rw [if_neg e]
    exact fu_sd_nil
theorem fu_s_clr {B : Nat → Int32} {a : Int32} : fu_sd (fu_clr B a).2 := by
  unfold fu_clr
  split
  · rename_i e1
    obtain ⟨x, x5, rfl, x6, x7⟩ := fu_in_n (u := 1) e1 (by omega) (by omega)
    rw [fu_tn (by omega)]
    have hx : x < 2 := by omega
    exact fu_sd_cons (by omega) fu_sd_nil
  · exact fu_sd_nil
/-- a call that answers and writes as the same function tells, on both sides -/
theorem fu_both {g : kc_G} {idc idr : Nat} {av : List kc_V} {h : kc_H} {B : Nat → Int32} {S : fu_S} (hI : fu_I h) (hC : fu_C B 1 h) (hR : fu_B B h) (gd : fu_gd S.2) (c1 : kc_Con g 30 idc (.inr (.inr (.inl (some 0))) :: av) h (fun rv h' => rv = some (.inl S.1) ∧ h' = fu_cw 1 S.2 h)) (c2 : ∀ h1, kd_wt kd_ty h1 → fu_B B h1 → (∀ i, h1 260 i = h 260 i) → kc_Con g 30 idr (.inr (.inr (.inl (some 259))) :: av) h1 (fun rv h' => rv = some (.inl S.1) ∧ h' = fu_rw S.2 h1)) (hk : kI (fu_rw S.2 (fu_cw 1 S.2 h)) 260 0) : kc_Con g 30 idc (.inr (.inr (.inl (some 0))) :: av) h (fun rv h1 => ∃ z : Int32, rv = some (.inl z) ∧ kc_Con g 30 idr (.inr (.inr (.inl (some 259))) :: av) h1 (fun rv2 h2 => rv2 = some (.inl z) ∧ fu_I h2)) := by
  refine kc_Con_mono c1 (fun rv h1 hq => ?_)
  obtain ⟨rfl, rfl⟩ := hq
  have hw1 := fu_wt_c gd hI.1
  have hR1 : fu_B B (fu_cw 1 S.2 h) := fu_Beq (fun i _ => fu_cw_o gd (Or.inr (by decide))) hR
  refine ⟨S.1, rfl, kc_Con_mono (c2 _ hw1 hR1 (fun i => fu_cw_o gd (Or.inr (by decide)))) (fun rv h2 hq => ?_)⟩
  obtain ⟨rfl, rfl⟩ := hq
  exact ⟨rfl, fu_now hI (fu_wt_r gd hw1) ⟨fu_bw S.2 B, fu_Ceq (fun c i c1 c2 => fu_rw_o (by omega)) (fu_C_w gd hC), fu_B_w hR1⟩ (fun c i a b => (fu_rw_o (by omega)).trans (fu_cw_o gd (by omega))) (fun c i a => (fu_rw_o (by omega)).trans (fu_cw_o gd (by omega))) hk⟩
theorem fU_Xdoor {g : kc_G} {h : kc_H} (hg : kc_ok g) (hI : fu_I h) : kc_Con g 30 13 [.inr (.inr (.inl (some 0)))] h (fun rv h1 => ∃ z : Int32, rv = some (.inl z) ∧ kc_Con g 30 15 [.inr (.inr (.inl (some 259)))] h1 (fun rv2 h2 => rv2 = some (.inl z) ∧ fu_I h2)) := by
  obtain ⟨B, hC, hR⟩ := hI.2.1
  have hB := fu_C_T hI.1 hC
  exact fu_both hI hC hR (fu_g_door hB) (kc_Con_le (fu_cdoor (d := 0) hg hI.1 hC hB) (by decide)) (fun h1 w1 r1 _ => kc_Con_le (fu_rdoor (d := 0) hg w1 r1 hB) (by decide)) (fu_kI (fu_g_door hB) (fu_s_door hB) hI.2.2.2.2.2.1)
theorem fU_Xway {g : kc_G} {h : kc_H} {a b c : Int32} (hg : kc_ok g) (hI : fu_I h) : kc_Con g 30 16 [.inr (.inr (.inl (some 0))), .inl a, .inl b, .inl c] h (fun rv h1 => ∃ z : Int32, rv = some (.inl z) ∧ kc_Con g 30 20 [.inr (.inr (.inl (some 259))), .inl a, .inl b, .inl c] h1 (fun rv2 h2 => rv2 = some (.inl z) ∧ fu_I h2)) := by
  obtain ⟨B, hC, hR⟩ := hI.2.1
  have hB := fu_C_T hI.1 hC
  exact fu_both hI hC hR (fu_g_way hB) (kc_Con_le (fu_cway (d := 0) hg hI.1 hC hB) (by decide)) (fun h1 w1 r1 _ => kc_Con_le (fu_rway (d := 0) hg w1 r1 hB) (by decide)) (fu_kI (fu_g_way hB) (fu_s_way hB) hI.2.2.2.2.2.1)
theorem fU_Xford {g : kc_G} {h : kc_H} {a : Int32} (hg : kc_ok g) (hI : fu_I h) : kc_Con g 30 23 [.inr (.inr (.inl (some 0))), .inl a] h (fun rv h1 => ∃ z : Int32, rv = some (.inl z) ∧ kc_Con g 30 26 [.inr (.inr (.inl (some 259))), .inl a] h1 (fun rv2 h2 => rv2 = some (.inl z) ∧ fu_I h2)) := by
  obtain ⟨B, hC, hR⟩ := hI.2.1
  have hB := fu_C_T hI.1 hC
  exact fu_both hI hC hR (fu_g_ford hB) (kc_Con_le (fu_cford (d := 0) hg hI.1 hC hB) (by decide)) (fun h1 w1 r1 _ => kc_Con_le (fu_rford (d := 0) hg w1 r1 hB) (by decide)) (fu_kI (fu_g_ford hB) (fu_s_ford hB) hI.2.2.2.2.2.1)
theorem fU_Xstones {g : kc_G} {h : kc_H} {a b : Int32} (hg : kc_ok g) (hI : fu_I h) : kc_Con g 30 28 [.inr (.inr (.inl (some 0))), .inl a, .inl b] h (fun rv h1 => ∃ z : Int32, rv = some (.inl z) ∧ kc_Con g 30 30 [.inr (.inr (.inl (some 259))), .inl a, .inl b] h1 (fun rv2 h2 => rv2 = some (.inl z) ∧ fu_I h2)) := by
  obtain ⟨B, hC, hR⟩ := hI.2.1
  have hB := fu_C_T hI.1 hC
  exact fu_both hI hC hR (fu_g_stones hB) (kc_Con_le (fu_cstones (d := 0) hg hI.1 hC hB) (by decide)) (fun h1 w1 r1 _ => kc_Con_le (fu_rstones (d := 0) hg w1 r1 hB) (by decide)) (fu_kI (fu_g_stones hB) (fu_s_stones hB) hI.2.2.2.2.2.1)
theorem fU_Xmule {g : kc_G} {h : kc_H} {a b c : Int32} (hg : kc_ok g) (hI : fu_I h) : kc_Con g 30 32 [.inr (.inr (.inl (some 0))), .inl a, .inl b, .inl c] h (fun rv h1 => ∃ z : Int32, rv = some (.inl z) ∧ kc_Con g 30 34 [.inr (.inr (.inl (some 259))), .inl a, .inl b, .inl c] h1 (fun rv2 h2 => rv2 = some (.inl z) ∧ fu_I h2)) := by
  obtain ⟨B, hC, hR⟩ := hI.2.1
  have hB := fu_C_T hI.1 hC
  exact fu_both hI hC hR (fu_g_mule hB) (kc_Con_le (fu_cmule (d := 0) hg hI.1 hC hB) (by decide)) (fun h1 w1 r1 _ => kc_Con_le (fu_rmule (d := 0) hg w1 r1 hB) (by decide)) (fu_kI (fu_g_mule hB) (fu_s_mule hB) hI.2.2.2.2.2.1)
theorem fU_Xlame {g : kc_G} {h : kc_H} {a b c : Int32} (hg : kc_ok g) (hI : fu_I h) : kc_Con g 30 35 [.inr (.inr (.inl (some 0))), .inl a, .inl b, .inl c] h (fun rv h1 => ∃ z : Int32, rv = some (.inl z) ∧ kc_Con g 30 39 [.inr (.inr (.inl (some 259))), .inl a, .inl b, .inl c] h1 (fun rv2 h2 => rv2 = some (.inl z) ∧ fu_I h2)) := by
  obtain ⟨B, hC, hR⟩ := hI.2.1
  have hB := fu_C_T hI.1 hC
  exact fu_both hI hC hR (fu_g_lame hB) (kc_Con_le (fu_clame (d := 0) hg hI.1 hC hB) (by decide)) (fun h1 w1 r1 _ => kc_Con_le (fu_rlame (d := 0) hg w1 r1 hB) (by decide)) (fu_kI (fu_g_lame hB) (fu_s_lame hB) hI.2.2.2.2.2.1)
theorem fU_Xload {g : kc_G} {h : kc_H} {a b c e : Int32} (hg : kc_ok g) (hI : fu_I h) : kc_Con g 30 41 [.inr (.inr (.inl (some 0))), .inl a, .inl b, .inl c, .inl e] h (fun rv h1 => ∃ z : Int32, rv = some (.inl z) ∧ kc_Con g 30 43 [.inr (.inr (.inl (some 259))), .inl a, .inl b, .inl c, .inl e] h1 (fun rv2 h2 => rv2 = some (.inl z) ∧ fu_I h2)) := by
  obtain ⟨B, hC, hR⟩ := hI.2.1
  have hB := fu_C_T hI.1 hC
  exact fu_both hI hC hR (fu_g_load hB) (kc_Con_le (fu_cload (d := 0) hg hI.1 hC hB) (by decide)) (fun h1 w1 r1 _ => kc_Con_le (fu_rload (d := 0) hg w1 r1 hB) (by decide)) (fu_kI (fu_g_load hB) (fu_s_load hB) hI.2.2.2.2.2.1)
theorem fU_Xask {g : kc_G} {h : kc_H} {a b : Int32} (hg : kc_ok g) (hI : fu_I h) : kc_Con g 30 44 [.inr (.inr (.inl (some 0))), .inl a, .inl b] h (fun rv h1 => ∃ z : Int32, rv = some (.inl z) ∧ kc_Con g 30 47 [.inr (.inr (.inl (some 259))), .inl a, .inl b] h1 (fun rv2 h2 => rv2 = some (.inl z) ∧ fu_I h2)) := by
  obtain ⟨B, hC, hR⟩ := hI.2.1
  have hB := fu_C_T hI.1 hC
  exact fu_both hI hC hR (fu_g_ask hB) (kc_Con_le (fu_cask (d := 0) hg hI.1 hC hB) (by decide)) (fun h1 w1 r1 _ => kc_Con_le (fu_rask (d := 0) hg w1 r1 hB) (by decide)) (fu_kI (fu_g_ask hB) (fu_s_ask hB) hI.2.2.2.2.2.1)
theorem fU_Xdrain {g : kc_G} {h : kc_H} {a b : Int32} (hg : kc_ok g) (hI : fu_I h) : kc_Con g 30 49 [.inr (.inr (.inl (some 0))), .inl a, .inl b] h (fun rv h1 => ∃ z : Int32, rv = some (.inl z) ∧ kc_Con g 30 50 [.inr (.inr (.inl (some 259))), .inl a, .inl b] h1 (fun rv2 h2 => rv2 = some (.inl z) ∧ fu_I h2)) := by
  obtain ⟨B, hC, hR⟩ := hI.2.1
  have hB := fu_C_T hI.1 hC
  exact fu_both hI hC hR (fu_g_drain hB) (kc_Con_le (fu_cdrain (d := 0) hg hI.1 hC hB) (by decide)) (fun h1 w1 r1 _ => kc_Con_le (fu_rdrain (d := 0) hg w1 r1 hB) (by decide)) (fu_kI (fu_g_drain hB) (fu_s_drain hB) hI.2.2.2.2.2.1)
theorem fU_Xput {g : kc_G} {h : kc_H} {a b : Int32} (hg : kc_ok g) (hI : fu_I h) : kc_Con g 30 51 [.inr (.inr (.inl (some 0))), .inl a, .inl b] h (fun rv h1 => ∃ z : Int32, rv = some (.inl z) ∧ kc_Con g 30 53 [.inr (.inr (.inl (some 259))), .inl a, .inl b] h1 (fun rv2 h2 => rv2 = some (.inl z) ∧ fu_I h2)) := by
  obtain ⟨B, hC, hR⟩ := hI.2.1
  have hB := fu_C_T hI.1 hC
  exact fu_both hI hC hR (fu_g_put) (kc_Con_le (fu_cput (d := 0) hg hI.1 hC hB) (by decide)) (fun h1 w1 r1 _ => kc_Con_le (fu_rput (d := 0) hg w1 r1 hB) (by decide)) (fu_kI (fu_g_put) (fu_s_put) hI.2.2.2.2.2.1)
theorem fU_Xclear {g : kc_G} {h : kc_H} {a : Int32} (hg : kc_ok g) (hI : fu_I h) : kc_Con g 30 58 [.inr (.inr (.inl (some 0))), .inl a] h (fun rv h1 => ∃ z : Int32, rv = some (.inl z) ∧ kc_Con g 30 59 [.inr (.inr (.inl (some 259))), .inl a] h1 (fun rv2 h2 => rv2 = some (.inl z) ∧ fu_I h2)) := by
  obtain ⟨B, hC, hR⟩ := hI.2.1
  have hB := fu_C_T hI.1 hC
  exact fu_both hI hC hR (fu_g_clr) (kc_Con_le (fu_c58 (d := 0) hg hI.1 hC hB) (by decide)) (fun h1 w1 r1 _ => kc_Con_le (fu_rclr (d := 0) hg w1 r1 hB) (by decide)) (fu_kI (fu_g_clr) (fu_s_clr) hI.2.2.2.2.2.1)
theorem fU_Xunline {g : kc_G} {h : kc_H} (hg : kc_ok g) (hI : fu_I h) : kc_Con g 30 95 [.inr (.inr (.inl (some 0)))] h (fun rv h1 => ∃ z : Int32, rv = some (.inl z) ∧ kc_Con g 30 96 [.inr (.inr (.inl (some 259)))] h1 (fun rv2 h2 => rv2 = some (.inl z) ∧ fu_I h2)) := by
  obtain ⟨B, hC, hR⟩ := hI.2.1
  have hB := fu_C_T hI.1 hC
  refine fu_both (S := fu_unl B) hI hC hR fu_g_unl (kc_Con_le (fu_c95 (d := 0) hg hI.1 hC hB) (by decide)) (fun h1 w1 r1 _ => kc_Con_le (fu_runl (d := 0) hg w1 r1 hB) (by decide)) ⟨0, fun _ => 0, by decide, ?_, fun i hi => absurd hi (by omega), fun i j _ hj => absurd hj (by omega)⟩
  show kc_upd (fu_cw 1 (fu_unl B).2 h) 260 3 (.inl (Int32.ofNat 0)) 260 3 = .inl (Int32.ofNat 0)
  exact fu_eq
theorem fu_n4 {n : Nat} {l : Nat → Nat} {dd : Nat} (n5 : n ≤ 5) (hdd : 1 ≤ dd ∧ dd ≤ 5) (hl5 : ∀ i, i < 5 → l i ≤ 5) (hl1 : ∀ i, i < n → 1 ≤ l i) (hdist : ∀ i j, i < j → j < n → ¬ l i = l j) (hno : ∀ i, i < n → ¬ l i = dd) : n < 5 := by
  by_cases q : n < 5
  · exact q
  · exfalso
    have hn5 : n = 5 := by omega
    have := kl_pig 5 6 (fun i => (if i < 5 then l i else dd) - 1) (fun i hi => by
      show (if i < 5 then l i else dd) - 1 < 5
      split
      · have := hl5 i (by omega); omega
      · omega) (fun i j hij hj => by
      show ¬ (if i < 5 then l i else dd) - 1 = (if j < 5 then l j else dd) - 1
      rw [if_pos (by omega)]
      have a := hl1 i (by omega)
      split
      · have b := hl1 j (by omega)
        have c := hdist i j hij (by omega)
        omega
      · have c := hno i (by omega)
        omega)
    omega
theorem fu_iN {a b : Nat} (ha : a < 2147483648) (hb : b < 2147483648) (h : (.inl (Int32.ofNat a) : kc_V) = .inl (Int32.ofNat b)) : a = b := by
  have e : (Int32.ofNat a).toInt = (Int32.ofNat b).toInt := by rw [Sum.inl.inj h]
  rw [kx_ti ha, kx_ti hb] at e
  omega
/-- kI in numbers that are there -/
theorem fu_kI4 {h : kc_H} {n : Nat} {l : Nat → Nat} {dd : Nat} (hL : kI h 260 0) (n5 : n ≤ 5) (en : h 260 3 = .inl (Int32.ofNat n)) (hl5 : ∀ i, i < 5 → l i ≤ 5) (ha : ∀ i, i < 5 → h 260 (150 + i) = .inl (Int32.ofNat (l i))) (hdd : 1 ≤ dd ∧ dd ≤ 5) : (∀ i, i < n → 1 ≤ l i) ∧ (∀ i j, i < j → j < n → ¬ l i = l j) := by
  obtain ⟨n2, l2, a1, a2, a3, a4⟩ := hL
  rw [Nat.zero_add, en] at a2
  obtain rfl := fu_iN (by omega) (by omega) a2
  have hl : ∀ i, i < n → l i = l2 i := fun i hi => by
    have e := (a3 i hi).2.2
    rw [Nat.zero_add, ha i (by omega)] at e
    have := hl5 i (by omega)
    have := (a3 i hi).2.1
    exact fu_iN (by omega) (by omega) e
  exact ⟨fun i hi => by rw [hl i hi]; exact (a3 i hi).1, fun i j hij hj => by rw [hl i (by omega), hl j hj]; exact a4 i j hij hj⟩
theorem fu_rw2b {a b : Nat} {v w : Int32} {X : kc_H} : fu_rw [(a, v), (b, w)] X 260 b = .inl w := by
  show kc_upd (kc_upd X 260 a (.inl v)) 260 b (.inl w) 260 b = .inl w
  exact fu_eq
theorem fu_rw2a {a b : Nat} {v w : Int32} {X : kc_H} (h : ¬ a = b) : fu_rw [(a, v), (b, w)] X 260 a = .inl v := by
  show kc_upd (kc_upd X 260 a (.inl v)) 260 b (.inl w) 260 a = .inl v
  exact (fu_ne (fun q => h q.2)).trans fu_eq
theorem fu_kIl {h : kc_H} {B : Nat → Int32} {a : Int32} (hL : kI h 260 0) (hR : fu_B B h) (hB : fu_BT B) : kI (fu_rw (fu_line B a).2 (fu_cw 1 (fu_line B a).2 h)) 260 0 := by
  obtain ⟨D, D5, eD⟩ := fu_n0 hB
  obtain ⟨n, n5, en⟩ := fu_n3 hB
  have gd := fu_g_line (a := a) hB
  by_cases c1 : fu_in a 1 (B 0).toInt = true
  · by_cases c2 : fu_il B a n = true
    · have key : fu_line B a = (Int32.ofInt (-3), []) := by unfold fu_line; rw [if_pos c1, en, kx_ti (by omega), Int.toNat_natCast, if_pos c2]
      rw [key]
      exact hL
    · by_cases c3 : n < 5
      · have key : fu_line B a = (Int32.ofNat (n + 1), [(150 + n, a), (3, Int32.ofNat (n + 1))]) := by unfold fu_line; rw [if_pos c1, en, kx_ti (by omega), Int.toNat_natCast, if_neg c2, if_pos (show (n : Int) < 5 by omega), kx_inc1]
        have q1 := c1
        rw [eD, kx_ti (by omega)] at q1
        obtain ⟨dd, dd5, rfl, d1, d2⟩ := fu_in_n (u := 5) q1 (by omega) (by omega)
        obtain ⟨n2, l, a1, a2, a3, a4⟩ := id hL
        have e3 : h 260 3 = .inl (Int32.ofNat n) := by rw [hR 3 (by decide) (by decide), en]
        rw [Nat.zero_add, e3] at a2
        obtain rfl := fu_iN (by omega) (by omega) a2
        have hne : ∀ i, i < n → ¬ l i = dd := fun i hi e => by
          have q := (a3 i hi).2.2
          rw [Nat.zero_add, hR (150 + i) (by omega) (fu_fli i (by omega)).2.1] at q
          have q := Sum.inl.inj q
          exact fu_il_f (Bool.eq_false_iff.mpr c2) hi (by rw [q, e])
        have gd2 := gd
        rw [key] at gd2
        have hm : ∀ i, ¬ i = 3 → ¬ i = 150 + n → (fu_rw (fu_line B (Int32.ofNat dd)).2 (fu_cw 1 (fu_line B (Int32.ofNat dd)).2 h)) 260 i = h 260 i := fun i i1 i2 => by
          rw [key, fu_rw_i (fun q hq => ?_), fu_cw_o gd2 (Or.inr (by decide))]
          simp only [List.mem_cons, List.not_mem_nil, or_false] at hq
          rcases hq with rfl | rfl
          · exact fun q => i2 q.symm
          · exact fun q => i1 q.symm
        refine ⟨n + 1, fun i => if i = n then dd else l i, by omega, ?_, fun i hi => ?_, fun i j hij hj => ?_⟩
        · rw [key]
          exact fu_rw2b
        · by_cases e : i = n
          · subst e
            refine ⟨by show 1 ≤ (if i = i then dd else l i); rw [if_pos rfl]; omega, by show (if i = i then dd else l i) ≤ 5; rw [if_pos rfl]; omega, ?_⟩
            show _ = (Sum.inl (Int32.ofNat (if i = i then dd else l i)) : kc_V)
            rw [if_pos rfl, key, Nat.zero_add]
            exact fu_rw2a (by omega)
          · refine ⟨by show 1 ≤ (if i = n then dd else l i); rw [if_neg e]; exact (a3 i (by omega)).1, by show (if i = n then dd else l i) ≤ 5; rw [if_neg e]; exact (a3 i (by omega)).2.1, ?_⟩
            show _ = (Sum.inl (Int32.ofNat (if i = n then dd else l i)) : kc_V)
            rw [if_neg e, hm _ (by omega) (by omega)]
            exact (a3 i (by omega)).2.2
        · show ¬ (if i = n then dd else l i) = (if j = n then dd else l j)
          rw [if_neg (by omega)]
          by_cases e : j = n
          · rw [if_pos e]
            exact hne i (by omega)
          · rw [if_neg e]
            exact a4 i j hij (by omega)
      · have key : fu_line B a = (Int32.ofInt (-3), []) := by unfold fu_line; rw [if_pos c1, en, kx_ti (by omega), Int.toNat_natCast, if_neg c2, if_neg (show ¬ (n : Int) < 5 by omega)]
        rw [key]
        exact hL
  · have key : fu_line B a = (Int32.ofInt (-2), []) := by unfold fu_line; rw [if_neg c1]
    rw [key]
    exact hL
theorem fU_Xline {g : kc_G} {h : kc_H} {a : Int32} (hg : kc_ok g) (hI : fu_I h) : kc_Con g 30 93 [.inr (.inr (.inl (some 0))), .inl a] h (fun rv h1 => ∃ z : Int32, rv = some (.inl z) ∧ kc_Con g 30 94 [.inr (.inr (.inl (some 259))), .inl a] h1 (fun rv2 h2 => rv2 = some (.inl z) ∧ fu_I h2)) := by
  obtain ⟨B, hC, hR⟩ := hI.2.1
  have hB := fu_C_T hI.1 hC
  refine fu_both (S := fu_line B a) hI hC hR (fu_g_line hB) (kc_Con_le (fu_cline (d := 0) hg hI.1 hC hB) (by decide)) (fun h1 w1 r1 e1 => kc_Con_le (fu_rline (d := 0) hg w1 r1 hB (fun n l dd n5 en hl5 ha d1 d2 hno => ?_)) (by decide)) (fu_kIl hI.2.2.2.2.2.1 hR hB)
  obtain ⟨b1, b2⟩ := fu_kI4 (dd := dd) hI.2.2.2.2.2.1 n5 (by rw [hR 3 (by decide) (by decide), en]) hl5 (fun i hi => by rw [← e1]; exact ha i hi) (by omega)
  exact fu_n4 n5 (by omega) hl5 b1 b2 hno
theorem fU_Xcount {g : kc_G} {h : kc_H} {a : Int32} (hg : kc_ok g) (hI : fu_I h) : kc_Con g 30 161 [.inr (.inr (.inl (some 0))), .inl a] h (fun rv h1 => ∃ z : Int32, rv = some (.inl z) ∧ kc_Con g 30 163 [.inr (.inr (.inl (some 259))), .inl a] h1 (fun rv2 h2 => rv2 = some (.inl z) ∧ fu_I h2)) := by
  obtain ⟨B, hC, hR⟩ := hI.2.1
  exact fu_both (S := (fu_cnt B a, [])) hI hC hR fu_gd_nil (kc_Con_le (fu_ccnt (d := 0) hg hI.1 hC) (by decide)) (fun h1 w1 r1 _ => kc_Con_le (fu_rcnt (d := 0) hg w1 r1) (by decide)) hI.2.2.2.2.2.1
end
section
-- 99.zpf
/-! ===== type, image, from, day: all told alike ===== -/
def fu_tyB (B : Nat → Int32) (x n : Nat) (c : Nat) (v : Int64) : Nat → Int32 := fun j => if j = 160 + x then Int32.ofNat (c + n) else if 170 + 240 * x + c ≤ j ∧ j < 170 + 240 * x + c + n then kq_c v (n - 1 - (j - (170 + 240 * x + c))) else B j
theorem fu_pcx : ∀ j, j < 650 → (!(fu_t j) || ((Nat.blt j 160 || (Nat.beq j 160 || (Nat.beq j 161 || Nat.ble 170 j))) && ((!(Nat.beq (fu_p j).1 30) || (Nat.beq j (160 + (fu_p j).2))) && (!(Nat.beq (fu_p j).1 28 || Nat.beq (fu_p j).1 29) || (Nat.beq j (170 + 240 * ((fu_p j).1 - 28) + (fu_p j).2) && Nat.blt (fu_p j).2 240))))) = true := by decide +kernel
theorem fu_pc {j : Nat} (hj : j < 650) (ht : fu_t j = true) : ((fu_p j).1 = 30 → j = 160 + (fu_p j).2) ∧ ((fu_p j).1 = 28 ∨ (fu_p j).1 = 29 → j = 170 + 240 * ((fu_p j).1 - 28) + (fu_p j).2 ∧ (fu_p j).2 < 240) := by
  have h := fu_pcx j hj
  rw [ht] at h
  simp only [Bool.not_true, Bool.false_or, Bool.and_eq_true] at h
  obtain ⟨-, h1, h2⟩ := h
  refine ⟨fun e => ?_, fun e => ?_⟩
  · rw [e] at h1
    exact Nat.eq_of_beq_eq_true h1
  · rcases e with e | e <;> rw [e] at h2 <;> simp only [Nat.beq_refl, Bool.true_or, Bool.or_true, Bool.not_true, Bool.false_or, Bool.and_eq_true] at h2
    · rw [e]
      exact ⟨Nat.eq_of_beq_eq_true h2.1, Nat.le_of_ble_eq_true h2.2⟩
    · rw [e]
      exact ⟨Nat.eq_of_beq_eq_true h2.1, Nat.le_of_ble_eq_true h2.2⟩
theorem fu_tyc_C {B : Nat → Int32} {h : kc_H} {x n c : Nat} {v : Int64} (hx : x < 2) (hcn : c + n ≤ 240) (hC : fu_C B 1 h) : fu_C (fu_tyB B x n c v) 1 (kq_F h (29 + x) 0 31 x c (kq_c v) n n) := fun j hj ht => by
  obtain ⟨p1, p2⟩ := fu_pc hj ht
  unfold fu_tyB
  by_cases e1 : j = 160 + x
  · subst e1
    rw [if_pos rfl, (fu_fby x hx).1]
    exact kq_b
  · rw [if_neg e1]
    by_cases e2 : 170 + 240 * x + c ≤ j ∧ j < 170 + 240 * x + c + n
    · rw [if_pos e2]
      obtain ⟨k, rfl, k2⟩ : ∃ k, j = 170 + 240 * x + k ∧ k < 240 := ⟨j - (170 + 240 * x), by omega, by omega⟩
      rw [(fu_ftx x hx k k2).1]
      unfold kq_F
      rw [if_neg (by show ¬ (1 + (28 + x) = 31 ∧ k = x); omega), if_pos (by show 1 + (28 + x) = 29 + x ∧ _; omega), show k - (0 + c) = 170 + 240 * x + k - (170 + 240 * x + c) from by omega]
    · rw [if_neg e2, kq_o (by
        by_cases q : 1 + (fu_p j).1 = 31
        · have := p1 (by omega)
          exact Or.inr (fun r => by omega)
        · exact Or.inl q) (by
        by_cases q : 1 + (fu_p j).1 = 29 + x
        · have := p2 (by omega)
          refine Or.inr ?_
          have e3 : (fu_p j).1 - 28 = x := by omega
          rw [e3] at this
          omega
        · exact Or.inl q)]
      exact hC j hj ht
theorem fu_tyc_B {B : Nat → Int32} {h : kc_H} {x n c : Nat} {v : Int64} (hn : n ≤ 8) (hR : fu_B B h) : fu_B (fu_tyB B x n c v) (kq_F h 260 (170 + 240 * x) 260 (160 + x) c (kq_r v) n n) := fun j hj ht => by
  unfold fu_tyB
  by_cases e1 : j = 160 + x
  · subst e1
    rw [if_pos rfl]
    exact kq_b
  · rw [if_neg e1]
    by_cases e2 : 170 + 240 * x + c ≤ j ∧ j < 170 + 240 * x + c + n
    · rw [if_pos e2]
      unfold kq_F
      rw [if_neg (by omega), if_pos ⟨rfl, e2⟩, kq_eq (by omega)]
    · rw [if_neg e2, kq_o (Or.inr e1) (by omega)]
      exact hR j hj ht
theorem fU_Xtyp {g : kc_G} {h : kc_H} {x n : Nat} {v : Int64} (hg : kc_ok g) (hI : fu_I h) (hx : x < 2) (n1 : 1 ≤ n) (n8 : n ≤ 8) : kc_Con g 30 54 [.inr (.inr (.inl (some 0))), .inl (Int32.ofNat x), .inr (.inl v), .inl (Int32.ofNat n)] h (fun rv h1 => ∃ z : Int32, rv = some (.inl z) ∧ kc_Con g 30 56 [.inr (.inr (.inl (some 259))), .inl (Int32.ofNat x), .inr (.inl v), .inl (Int32.ofNat n)] h1 (fun rv2 h2 => rv2 = some (.inl z) ∧ fu_I h2)) := by
  obtain ⟨B, hC, hR⟩ := hI.2.1
  have hB := fu_C_T hI.1 hC
  obtain ⟨c, c1, ec⟩ := fu_nat (by decide) (fu_fby x hx).2.2 (hB (160 + x) (by omega) (fu_fby x hx).2.1)
  have hc : h 31 x = .inl (Int32.ofNat c) := (fu_Cj (c := 30) hC (by omega) (fu_fby x hx).2.1 (fu_fby x hx).1).trans (by rw [ec])
  refine kc_Con_mono (kc_Con_le (fq_54 (d := 0) (v := v) hg (kx_ofr (hI.1 _ _ _ kv_k0.1)) hx (kx_ofr (hI.1 _ _ _ kr_k1.1)) (kx_ofr (hI.1 _ _ _ kr_k1.2.1)) (kx_ofr (hI.1 _ _ _ (ku_kt.2.1 x hx))) hc n1 n8 c1) (by decide)) (fun rv h1 hq => ?_)
  rcases hq with ⟨q1, rfl, rfl⟩ | ⟨q1, rfl, rfl⟩
  · have hw1 : kd_wt kd_ty (kq_F h (29 + x) 0 31 x c (kq_c v) n n) := ku_Fwt hI.1 n8 q1 (fun i _ => ku_clt v i) (ku_kt.1 x hx) (fun j hj => by rw [Nat.zero_add]; exact ku_kt.2.2 x hx j hj)
    have e1 : ∀ a b, ¬ a = 31 → ¬ a = 29 + x → kq_F h (29 + x) 0 31 x c (kq_c v) n n a b = h a b := fun a b p1 p2 => kq_o (Or.inl p1) (Or.inl p2)
    have hR1 : fu_B B (kq_F h (29 + x) 0 31 x c (kq_c v) n n) := fu_Beq (fun i _ => e1 260 i (by decide) (by omega)) hR
    have hC1 := fu_tyc_C (v := v) hx q1 hC
    generalize hh : kq_F h (29 + x) 0 31 x c (kq_c v) n n = h1 at hw1 e1 hR1 hC1
    refine ⟨_, rfl, kc_Con_mono (kc_Con_le (fq_56 (d := 0) (c := c) (v := v) hg hx (kx_ofr (hw1 _ _ _ kz_k.1)) ((hR1 (160 + x) (by omega) (fu_fby x hx).2.1).trans (by rw [ec])) n1 n8 c1) (by decide)) (fun rv h2 hq => ?_)⟩
    rcases hq with ⟨q2, rfl, rfl⟩ | ⟨q2, -, -⟩
    · have e2 : ∀ a b, ¬ a = 260 → kq_F h1 260 (170 + 240 * x) 260 (160 + x) c (kq_r v) n n a b = h1 a b := fun a b p1 => kq_o (Or.inl p1) (Or.inl p1)
      have e3 : ∀ b, b < 160 → kq_F h1 260 (170 + 240 * x) 260 (160 + x) c (kq_r v) n n 260 b = h 260 b := fun b p1 => (kq_o (Or.inr (by omega)) (Or.inr (Or.inl (by omega)))).trans (e1 260 b (by decide) (by omega))
      refine ⟨rfl, fu_now hI (ku_Fwt hw1 n8 q2 (fun i hi => ku_rlt v hi) (km_k260.1 x hx) (fun j hj => by rw [show 170 + 240 * x + j = 170 + (240 * x + j) from by omega]; exact km_k260.2 _ (by omega))) ⟨fu_tyB B x n c v, fu_Ceq (fun a b a1 a2 => e2 a b (by omega)) hC1, fu_tyc_B n8 hR1⟩ (fun a b a1 a2 => (e2 a b (by omega)).trans (e1 a b (by omega) (by omega))) (fun a b a1 => (e2 a b (by omega)).trans (e1 a b (by omega) (by omega))) (kI_eq (e3 _ (by omega)) (fun i hi => e3 _ (by omega)) hI.2.2.2.2.2.1)⟩
    · omega
  · refine ⟨_, rfl, kc_Con_mono (kc_Con_le (fq_56 (d := 0) (c := c) (v := v) hg hx (kx_ofr (hI.1 _ _ _ kz_k.1)) ((hR (160 + x) (by omega) (fu_fby x hx).2.1).trans (by rw [ec])) n1 n8 c1) (by decide)) (fun rv h2 hq => ?_)⟩
    rcases hq with ⟨q2, -, -⟩ | ⟨q2, rfl, rfl⟩
    · omega
    · exact ⟨rfl, hI⟩
/-- a refused call that an engine's contract tells -/
def fu_m2 (p : kd_P) : Bool := (match p.1, p.2.2 with
  | some (0, l, u), [] => Nat.beq l 2147483646 && Nat.beq u 2147483646
  | _, _ => false)
theorem fu_no2 {g : kc_G} {d id : Nat} {T : kd_Tc} (hh : kd_hold g d kd_ty id T) (hc : T.2.2.all fu_m2 = true) {xs : List kc_V} {h : kc_H} (hw : kd_wt kd_ty h) (hv : wk_f2 (kd_g 0 (fun _ => 0)) T.1 xs) (hF : kd_gF 0 (fun _ => 0) T.2.1 h) : kc_Con g d id xs h (fun rv h' => rv = some (.inl (Int32.ofInt (-2))) ∧ h' = h) := by
  refine kc_Con_mono (hh xs h hw hv hF) (fun rv h' hq => ?_)
  obtain ⟨p, p1, p2, -, -, p5⟩ := hq
  have hp := List.all_eq_true.mp hc p p1
  obtain ⟨r, F, V⟩ := p
  unfold fu_m2 at hp
  split at hp
  · rename_i l u e1 e2
    simp only at e1 e2
    subst e1 e2
    rw [Bool.and_eq_true] at hp
    obtain rfl := Nat.eq_of_beq_eq_true hp.1
    obtain rfl := Nat.eq_of_beq_eq_true hp.2
    cases rv with
    | none => exact p2.elim
    | some y =>
      obtain ⟨z, rfl, z1, z2⟩ := p2
      refine ⟨?_, funext fun c => funext fun i => p5 c i (fun q hq => by cases hq)⟩
      rw [show z = Int32.ofInt (-2) from Int32.toInt_inj.mp (by unfold kd_nb at z1 z2; have := kv_lo z; rw [show (Int32.ofInt (-2)).toInt = -2 from by decide]; omega)]
  · cases hp
theorem fu_pair {g : kc_G} {idc idr dc dr : Nat} {xc xr : List kc_V} {h : kc_H} {z : Int32} (hI : fu_I h) (hdc : dc ≤ 30) (hdr : dr ≤ 30) (c1 : kc_Con g dc idc xc h (fun rv h' => rv = some (.inl z) ∧ h' = h)) (c2 : kc_Con g dr idr xr h (fun rv h' => rv = some (.inl z) ∧ h' = h)) : kc_Con g 30 idc xc h (fun rv h1 => ∃ z : Int32, rv = some (.inl z) ∧ kc_Con g 30 idr xr h1 (fun rv2 h2 => rv2 = some (.inl z) ∧ fu_I h2)) := by
  refine kc_Con_mono (kc_Con_le c1 hdc) (fun rv h1 hq => ?_)
  obtain ⟨rfl, rfl⟩ := hq
  refine ⟨z, rfl, kc_Con_mono (kc_Con_le c2 hdr) (fun rv h2 hq => ?_)⟩
  obtain ⟨rfl, rfl⟩ := hq
  exact ⟨rfl, hI⟩
theorem fU_Xtype {g : kc_G} {h : kc_H} {a e : Int32} {v : Int64} (hg : kc_ok g) (hI : fu_I h) : kc_Con g 30 54 [.inr (.inr (.inl (some 0))), .inl a, .inr (.inl v), .inl e] h (fun rv h1 => ∃ z : Int32, rv = some (.inl z) ∧ kc_Con g 30 56 [.inr (.inr (.inl (some 259))), .inl a, .inr (.inl v), .inl e] h1 (fun rv2 h2 => rv2 = some (.inl z) ∧ fu_I h2)) := by
  have alo := kv_lo a
  have ahi := kv_hi a
  have elo := kv_lo e
  have ehi := kv_hi e
  rcases (show (0 ≤ a.toInt ∧ a.toInt ≤ 1 ∧ 1 ≤ e.toInt ∧ e.toInt ≤ 8) ∨ a.toInt < 0 ∨ 1 < a.toInt ∨ (a.toInt = 0 ∧ e.toInt < 1) ∨ (a.toInt = 0 ∧ 8 < e.toInt) ∨ (a.toInt = 1 ∧ e.toInt < 1) ∨ (a.toInt = 1 ∧ 8 < e.toInt) by omega) with k | k | k | k | k | k | k
  · obtain ⟨x, x1, -, rfl⟩ := ku_nat (u := 1) k.1 (by omega)
    obtain ⟨n, n1, en, rfl⟩ := ku_nat (a := e) (u := 8) (by omega) (by omega)
    exact fU_Xtyp hg hI (by omega) (by omega) n1
  · exact fu_pair hI (by decide) (by decide) (fu_no2 (kd_h54tl hg) (by decide +kernel) hI.1 ⟨⟨0, rfl, by decide, by decide⟩, kv_gi (by omega) (by omega), ku_tJ v, kv_gi (by omega) (by omega), trivial⟩ (fun q hq => by cases hq)) (fu_no2 (kd_h56tl hg) (by decide +kernel) hI.1 ⟨⟨259, rfl, by decide, by decide⟩, kv_gi (by omega) (by omega), ku_tJ v, kv_gi (by omega) (by omega), trivial⟩ (fun q hq => by cases hq))
  · exact fu_pair hI (by decide) (by decide) (fu_no2 (kd_h54th hg) (by decide +kernel) hI.1 ⟨⟨0, rfl, by decide, by decide⟩, kv_gi (by omega) (by omega), ku_tJ v, kv_gi (by omega) (by omega), trivial⟩ (fun q hq => by cases hq)) (fu_no2 (kd_h56th hg) (by decide +kernel) hI.1 ⟨⟨259, rfl, by decide, by decide⟩, kv_gi (by omega) (by omega), ku_tJ v, kv_gi (by omega) (by omega), trivial⟩ (fun q hq => by cases hq))
  · exact fu_pair hI (by decide) (by decide) (fu_no2 (kd_h54nl hg) (by decide +kernel) hI.1 ⟨⟨0, rfl, by decide, by decide⟩, kv_gi (by omega) (by omega), ku_tJ v, kv_gi (by omega) (by omega), trivial⟩ (fun q hq => by cases hq)) (fu_no2 (kd_h56nl hg) (by decide +kernel) hI.1 ⟨⟨259, rfl, by decide, by decide⟩, kv_gi (by omega) (by omega), ku_tJ v, kv_gi (by omega) (by omega), trivial⟩ (fun q hq => by cases hq))
  · exact fu_pair hI (by decide) (by decide) (fu_no2 (kd_h54nh hg) (by decide +kernel) hI.1 ⟨⟨0, rfl, by decide, by decide⟩, kv_gi (by omega) (by omega), ku_tJ v, kv_gi (by omega) (by omega), trivial⟩ (fun q hq => by cases hq)) (fu_no2 (kd_h56nh hg) (by decide +kernel) hI.1 ⟨⟨259, rfl, by decide, by decide⟩, kv_gi (by omega) (by omega), ku_tJ v, kv_gi (by omega) (by omega), trivial⟩ (fun q hq => by cases hq))
  · exact fu_pair hI (by decide) (by decide) (fu_no2 (kd_h54ml hg) (by decide +kernel) hI.1 ⟨⟨0, rfl, by decide, by decide⟩, kv_gi (by omega) (by omega), ku_tJ v, kv_gi (by omega) (by omega), trivial⟩ (fun q hq => by cases hq)) (fu_no2 (kd_h56ml hg) (by decide +kernel) hI.1 ⟨⟨259, rfl, by decide, by decide⟩, kv_gi (by omega) (by omega), ku_tJ v, kv_gi (by omega) (by omega), trivial⟩ (fun q hq => by cases hq))
  · exact fu_pair hI (by decide) (by decide) (fu_no2 (kd_h54mh hg) (by decide +kernel) hI.1 ⟨⟨0, rfl, by decide, by decide⟩, kv_gi (by omega) (by omega), ku_tJ v, kv_gi (by omega) (by omega), trivial⟩ (fun q hq => by cases hq)) (fu_no2 (kd_h56mh hg) (by decide +kernel) hI.1 ⟨⟨259, rfl, by decide, by decide⟩, kv_gi (by omega) (by omega), ku_tJ v, kv_gi (by omega) (by omega), trivial⟩ (fun q hq => by cases hq))
theorem fU_Ximage0 {g : kc_G} {h : kc_H} (hg : kc_ok g) (hI : fu_I h) : kc_Con g 30 157 [.inr (.inr (.inl (some 0))), .inl (Int32.ofNat 0)] h (fun rv h1 => ∃ z : Int32, rv = some (.inl z) ∧ kc_Con g 30 158 [.inr (.inr (.inl (some 259))), .inl (Int32.ofNat 0)] h1 (fun rv2 h2 => rv2 = some (.inl z) ∧ fu_I h2)) := by
  obtain ⟨B, hC, hR⟩ := hI.2.1
  refine kc_Con_mono (kc_Con_le (fs_Ximage0 (d := 0) hg hI.1) (by decide)) (fun rv h1 hq => ?_)
  obtain ⟨rfl, hh1⟩ := hq
  have hw1 : kd_wt kd_ty h1 := by rw [hh1]; exact kz_wtb (ku_k126 0 (by decide)) (kt_K_wt hI.1 kt_ty1_64)
  have key := kz_image (d := 0) (h := h1) (i := 0) hg (by decide) (fun k hk => kz_int_r hw1 (kz_k260 k hk).1)
  rw [kz_wid hw1] at key
  refine ⟨_, rfl, kc_Con_mono (kc_Con_le key (by decide)) (fun rv h2 hq2 => ?_)⟩
  obtain ⟨rfl, hh2⟩ := hq2
  refine ⟨rfl, ?_⟩
  have hw2 : kd_wt kd_ty h2 := by
    rw [hh2]
    exact kz_wtb (kz_k262 0 (by decide)) (kz_cp_wt hw1 (fun j hj => by
      obtain ⟨-, a1, a2, -⟩ := kz_k260 j hj
      rw [Nat.zero_add]
      first | exact a1 | exact a2 | (rw [show 650 * 0 + j = j from by omega]; exact a1)))
  have f1 : ∀ c k, ¬ (64 ≤ c ∧ c < 64 + 31) → ¬ c = 126 → h1 c k = h c k := fun c k q1 q2 => by
    rw [hh1, kj_uo q2]
    unfold kt_K
    rw [if_neg (by omega)]
  have f2 : ∀ c k, ¬ (c = 261 ∧ 0 ≤ k ∧ k < 0 + 650) → ¬ c = 262 → h2 c k = h1 c k := fun c k q1 q2 => by
    rw [hh2, kj_uo q2]
    unfold kz_cp
    rw [if_neg (by omega)]
  have g1 : ∀ k, k < 31 → ∀ m, m < kt_ln k → h2 (64 + k) m = h (1 + k) m := fun k hk m hm => by
    rw [f2 _ _ (by omega) (by omega), hh1, kj_uo (by omega)]
    unfold kt_K
    rw [show 64 + k - 64 = k from by omega, if_pos ⟨by omega, by omega, hm⟩]
  have g2 : ∀ m, m < 650 → h2 261 (0 + m) = h 260 m := fun m hm => by
    rw [hh2, kj_uo (by decide)]
    unfold kz_cp
    rw [if_pos ⟨rfl, by omega, by omega⟩, f1 260 _ (by omega) (by omega), show 0 + (0 + m - 650 * 0) = m from by omega]
  have now : ∀ c k, c < 63 ∨ c = 260 → h2 c k = h c k := fun c k q => by rw [f2 c k (by omega) (by omega), f1 c k (by omega) (by omega)]
  obtain ⟨-, -, b1, b3, b5, hL, b6, b7⟩ := hI
  have C1 : fu_C B 64 h2 := fu_Ck g1 hC
  have R1 : fu_R B 261 0 h2 := fun j hj ht => by rw [g2 j hj]; exact hR j hj ht
  have far : ∀ c k, 95 ≤ c → c < 95 + 31 → h2 c k = h c k := fun c k c1 c2 => by rw [f2 c k (by omega) (by omega), f1 c k (by omega) (by omega)]
  have far2 : ∀ k, 650 ≤ k → k < 650 + 650 → h2 261 k = h 261 k := fun k c1 c2 => by rw [f2 261 k (by omega) (by omega), f1 261 k (by omega) (by omega)]
  have kq : ∀ k, ¬ k = 0 → h2 262 k = h 262 k := fun k q => by
    rw [hh2, fu_ne (by omega)]
    exact (kz_n (by decide)).trans (f1 262 k (by omega) (by omega))
  have mineI : kI h2 261 0 := by
    obtain ⟨n, l, a1, a2, a3, a4⟩ := hL
    refine ⟨n, l, a1, ?_, fun k hk => ⟨(a3 k hk).1, (a3 k hk).2.1, ?_⟩, a4⟩
    · rw [g2 3 (by decide)]; rw [Nat.zero_add] at a2; exact a2
    · rw [show 0 + 150 + k = 0 + (150 + k) from by omega, g2 (150 + k) (by omega)]
      have := (a3 k hk).2.2
      rw [Nat.zero_add] at this
      exact this
  have kp : ∀ k, k < 2 → h2 126 k = h2 262 k := fun k hk => by
    have w1 : ∀ k, ¬ k = 0 → h1 126 k = h 126 k := fun k q => by
      rw [hh1, fu_ne (by omega)]
      unfold kt_K
      rw [if_neg (by omega)]
    have w2 : ∀ k, ¬ k = 0 → h2 262 k = h1 262 k := fun k q => by
      rw [hh2, fu_ne (by omega)]
      exact kz_n (by decide)
    rw [f2 126 k (by omega) (by omega)]
    by_cases e : k = 0
    · subst e
      rw [hh1, hh2]
      exact fu_eq.trans fu_eq.symm
    · rw [w1 k e, w2 k e, f1 262 k (by omega) (by omega)]
      exact b5 k hk
  exact ⟨hw2, ⟨B, fu_Ceq (fun c i c1 c2 => now c i (by omega)) hC, fu_Beq (fun i _ => now 260 i (by omega)) hR⟩, Or.inr ⟨B, C1, R1⟩, fu_Meq (kq 1 (by decide)) far far2 b3, kp, kI_eq (now _ _ (by omega)) (fun k _ => now _ _ (by omega)) hL, mineI, kI_eq (far2 _ (by omega) (by omega)) (fun k hk => far2 _ (by omega) (by omega)) b7⟩
theorem fU_Xfrom0 {g : kc_G} {h : kc_H} (hg : kc_ok g) (hI : fu_I h) : kc_Con g 30 159 [.inr (.inr (.inl (some 0))), .inl (Int32.ofNat 0)] h (fun rv h1 => ∃ z : Int32, rv = some (.inl z) ∧ kc_Con g 30 160 [.inr (.inr (.inl (some 259))), .inl (Int32.ofNat 0)] h1 (fun rv2 h2 => rv2 = some (.inl z) ∧ fu_I h2)) := by
  obtain ⟨bo, eb⟩ := ku_kb hI.1 (i := 0) (by decide)
  obtain ⟨-, -, b1, b3, b5, hL, b6, b7⟩ := id hI
  refine kc_Con_mono (kc_Con_le (fs_Xfrom0 (d := 0) hg hI.1 eb) (by decide)) (fun rv h1 hq => ?_)
  obtain ⟨rfl, hq⟩ := hq
  have hw1 : kd_wt kd_ty h1 := by
    rcases hq with ⟨-, rfl⟩ | ⟨-, rfl⟩
    · exact kt_K_wt hI.1 kt_ty64_1
    · exact hI.1
  have f1 : ∀ c k, ¬ (1 ≤ c ∧ c < 32) → h1 c k = h c k := fun c k q1 => by
    rcases hq with ⟨-, rfl⟩ | ⟨-, rfl⟩
    · unfold kt_K
      rw [if_neg (by omega)]
    · rfl
  have eb1 : h1 262 0 = .inl (kp_b bo) := by
    rw [f1 262 0 (by omega), ← b5 0 (by decide)]
    exact eb
  have hty : ∀ j, j < 650 → kd_rn (kd_ty 261) (650 * 0 + j) = kd_rn (kd_ty 260) j := fun j hj => by
    obtain ⟨-, a1, a2, -⟩ := kz_k260 j hj
    first | exact a2 | (rw [show 650 * 0 + j = j from by omega]; exact a1)
  have key := kz_from (d := 0) (h := h1) (i := 0) (b := bo) hg (by decide) eb1 (fun k hk => kz_int_r hw1 (by rw [hty k hk]; exact (kz_k260 k hk).1))
  rw [kz_wid hw1] at key
  refine ⟨_, rfl, kc_Con_mono (kc_Con_le key (by decide)) (fun rv h2 hq2 => ?_)⟩
  rcases hq with ⟨eb0, hh1⟩ | ⟨eb0, rfl⟩
  · rcases hq2 with ⟨-, rfl, hh2⟩ | ⟨eb2, -, -⟩
    · refine ⟨by rw [eb0]; rfl, ?_⟩
      obtain ⟨B1, c1, c2⟩ : ∃ B, fu_C B 64 h ∧ fu_R B 261 0 h := by
        rcases b1 with q | q
        · rw [← b5 0 (by decide), eb, eb0] at q
          exact absurd q (by decide)
        · exact q
      have hw2 : kd_wt kd_ty h2 := by
        rw [hh2]
        exact kz_cp_wt hw1 (fun j hj => by rw [hty j hj, Nat.zero_add])
      have f2 : ∀ c k, ¬ (c = 260 ∧ k < 650) → h2 c k = h1 c k := fun c k q1 => by
        rw [hh2]
        unfold kz_cp
        rw [if_neg (by omega)]
      have g1 : ∀ k, k < 31 → ∀ m, m < kt_ln k → h2 (1 + k) m = h (64 + k) m := fun k hk m hm => by
        rw [f2 _ _ (by omega), hh1]
        unfold kt_K
        rw [show 1 + k - 1 = k from by omega, if_pos ⟨by omega, by omega, hm⟩]
      have g2 : ∀ m, m < 650 → h2 260 m = h 261 (0 + m) := fun m hm => by
        rw [hh2]
        unfold kz_cp
        rw [if_pos ⟨rfl, by omega, by omega⟩, f1 261 _ (by omega), show 650 * 0 + (m - 0) = 0 + m from by omega]
      refine fu_now hI hw2 ⟨B1, fu_Ck g1 c1, fun j hj ht => by rw [g2 j hj]; exact c2 j hj ht⟩ (fun c k q1 q2 => by rw [f2 c k (by omega), f1 c k (by omega)]) (fun c k q => by rw [f2 c k (by omega), f1 c k (by omega)]) ?_
      obtain ⟨n, l, a1, a2, a3, a4⟩ := b6
      refine ⟨n, l, a1, ?_, fun k hk => ⟨(a3 k hk).1, (a3 k hk).2.1, ?_⟩, a4⟩
      · rw [g2 (0 + 3) (by decide)]; exact a2
      · rw [g2 (0 + 150 + k) (by omega), show 0 + (0 + 150 + k) = 0 + 150 + k from by omega]
        exact (a3 k hk).2.2
    · rw [eb0] at eb2
      cases eb2
  · rcases hq2 with ⟨eb2, -, -⟩ | ⟨-, rfl, rfl⟩
    · rw [eb0] at eb2
      cases eb2
    · exact ⟨by rw [eb0]; rfl, hI⟩
theorem fU_Ximage1 {g : kc_G} {h : kc_H} (hg : kc_ok g) (hI : fu_I h) : kc_Con g 30 157 [.inr (.inr (.inl (some 0))), .inl (Int32.ofNat 1)] h (fun rv h1 => ∃ z : Int32, rv = some (.inl z) ∧ kc_Con g 30 158 [.inr (.inr (.inl (some 259))), .inl (Int32.ofNat 1)] h1 (fun rv2 h2 => rv2 = some (.inl z) ∧ fu_I h2)) := by
  obtain ⟨B, hC, hR⟩ := hI.2.1
  refine kc_Con_mono (kc_Con_le (fs_Ximage1 (d := 0) hg hI.1) (by decide)) (fun rv h1 hq => ?_)
  obtain ⟨rfl, hh1⟩ := hq
  have hw1 : kd_wt kd_ty h1 := by rw [hh1]; exact kz_wtb (ku_k126 1 (by decide)) (kt_K_wt hI.1 kt_ty1_95)
  have key := kz_image (d := 0) (h := h1) (i := 1) hg (by decide) (fun k hk => kz_int_r hw1 (kz_k260 k hk).1)
  rw [kz_wid hw1] at key
  refine ⟨_, rfl, kc_Con_mono (kc_Con_le key (by decide)) (fun rv h2 hq2 => ?_)⟩
  obtain ⟨rfl, hh2⟩ := hq2
  refine ⟨rfl, ?_⟩
  have hw2 : kd_wt kd_ty h2 := by
    rw [hh2]
    exact kz_wtb (kz_k262 1 (by decide)) (kz_cp_wt hw1 (fun j hj => by
      obtain ⟨-, a1, a2, -⟩ := kz_k260 j hj
      rw [Nat.zero_add]
      first | exact a1 | exact a2 | (rw [show 650 * 0 + j = j from by omega]; exact a1)))
  have f1 : ∀ c k, ¬ (95 ≤ c ∧ c < 95 + 31) → ¬ c = 126 → h1 c k = h c k := fun c k q1 q2 => by
    rw [hh1, kj_uo q2]
    unfold kt_K
    rw [if_neg (by omega)]
  have f2 : ∀ c k, ¬ (c = 261 ∧ 650 ≤ k ∧ k < 650 + 650) → ¬ c = 262 → h2 c k = h1 c k := fun c k q1 q2 => by
    rw [hh2, kj_uo q2]
    unfold kz_cp
    rw [if_neg (by omega)]
  have g1 : ∀ k, k < 31 → ∀ m, m < kt_ln k → h2 (95 + k) m = h (1 + k) m := fun k hk m hm => by
    rw [f2 _ _ (by omega) (by omega), hh1, kj_uo (by omega)]
    unfold kt_K
    rw [show 95 + k - 95 = k from by omega, if_pos ⟨by omega, by omega, hm⟩]
  have g2 : ∀ m, m < 650 → h2 261 (650 + m) = h 260 m := fun m hm => by
    rw [hh2, kj_uo (by decide)]
    unfold kz_cp
    rw [if_pos ⟨rfl, by omega, by omega⟩, f1 260 _ (by omega) (by omega), show 0 + (650 + m - 650 * 1) = m from by omega]
  have now : ∀ c k, c < 63 ∨ c = 260 → h2 c k = h c k := fun c k q => by rw [f2 c k (by omega) (by omega), f1 c k (by omega) (by omega)]
  obtain ⟨-, -, b1, b3, b5, hL, b6, b7⟩ := hI
  have C1 : fu_C B 95 h2 := fu_Ck g1 hC
  have R1 : fu_R B 261 650 h2 := fun j hj ht => by rw [g2 j hj]; exact hR j hj ht
  have far : ∀ c k, 64 ≤ c → c < 64 + 31 → h2 c k = h c k := fun c k c1 c2 => by rw [f2 c k (by omega) (by omega), f1 c k (by omega) (by omega)]
  have far2 : ∀ k, 0 ≤ k → k < 0 + 650 → h2 261 k = h 261 k := fun k c1 c2 => by rw [f2 261 k (by omega) (by omega), f1 261 k (by omega) (by omega)]
  have kq : ∀ k, ¬ k = 1 → h2 262 k = h 262 k := fun k q => by
    rw [hh2, fu_ne (by omega)]
    exact (kz_n (by decide)).trans (f1 262 k (by omega) (by omega))
  have mineI : kI h2 261 650 := by
    obtain ⟨n, l, a1, a2, a3, a4⟩ := hL
    refine ⟨n, l, a1, ?_, fun k hk => ⟨(a3 k hk).1, (a3 k hk).2.1, ?_⟩, a4⟩
    · rw [g2 3 (by decide)]; rw [Nat.zero_add] at a2; exact a2
    · rw [show 650 + 150 + k = 650 + (150 + k) from by omega, g2 (150 + k) (by omega)]
      have := (a3 k hk).2.2
      rw [Nat.zero_add] at this
      exact this
  have kp : ∀ k, k < 2 → h2 126 k = h2 262 k := fun k hk => by
    have w1 : ∀ k, ¬ k = 1 → h1 126 k = h 126 k := fun k q => by
      rw [hh1, fu_ne (by omega)]
      unfold kt_K
      rw [if_neg (by omega)]
    have w2 : ∀ k, ¬ k = 1 → h2 262 k = h1 262 k := fun k q => by
      rw [hh2, fu_ne (by omega)]
      exact kz_n (by decide)
    rw [f2 126 k (by omega) (by omega)]
    by_cases e : k = 1
    · subst e
      rw [hh1, hh2]
      exact fu_eq.trans fu_eq.symm
    · rw [w1 k e, w2 k e, f1 262 k (by omega) (by omega)]
      exact b5 k hk
  exact ⟨hw2, ⟨B, fu_Ceq (fun c i c1 c2 => now c i (by omega)) hC, fu_Beq (fun i _ => now 260 i (by omega)) hR⟩, fu_Meq (kq 0 (by decide)) far far2 b1, Or.inr ⟨B, C1, R1⟩, kp, kI_eq (now _ _ (by omega)) (fun k _ => now _ _ (by omega)) hL, kI_eq (far2 _ (by omega) (by omega)) (fun k hk => far2 _ (by omega) (by omega)) b6, mineI⟩
theorem fU_Xfrom1 {g : kc_G} {h : kc_H} (hg : kc_ok g) (hI : fu_I h) : kc_Con g 30 159 [.inr (.inr (.inl (some 0))), .inl (Int32.ofNat 1)] h (fun rv h1 => ∃ z : Int32, rv = some (.inl z) ∧ kc_Con g 30 160 [.inr (.inr (.inl (some 259))), .inl (Int32.ofNat 1)] h1 (fun rv2 h2 => rv2 = some (.inl z) ∧ fu_I h2)) := by
  obtain ⟨bo, eb⟩ := ku_kb hI.1 (i := 1) (by decide)
  obtain ⟨-, -, b1, b3, b5, hL, b6, b7⟩ := id hI
  refine kc_Con_mono (kc_Con_le (fs_Xfrom1 (d := 0) hg hI.1 eb) (by decide)) (fun rv h1 hq => ?_)
  obtain ⟨rfl, hq⟩ := hq
  have hw1 : kd_wt kd_ty h1 := by
    rcases hq with ⟨-, rfl⟩ | ⟨-, rfl⟩
    · exact kt_K_wt hI.1 kt_ty95_1
    · exact hI.1
  have f1 : ∀ c k, ¬ (1 ≤ c ∧ c < 32) → h1 c k = h c k := fun c k q1 => by
    rcases hq with ⟨-, rfl⟩ | ⟨-, rfl⟩
    · unfold kt_K
      rw [if_neg (by omega)]
    · rfl
  have eb1 : h1 262 1 = .inl (kp_b bo) := by
    rw [f1 262 1 (by omega), ← b5 1 (by decide)]
    exact eb
  have hty : ∀ j, j < 650 → kd_rn (kd_ty 261) (650 * 1 + j) = kd_rn (kd_ty 260) j := fun j hj => by
    obtain ⟨-, a1, a2, -⟩ := kz_k260 j hj
    first | exact a2 | (rw [show 650 * 0 + j = j from by omega]; exact a1)
  have key := kz_from (d := 0) (h := h1) (i := 1) (b := bo) hg (by decide) eb1 (fun k hk => kz_int_r hw1 (by rw [hty k hk]; exact (kz_k260 k hk).1))
  rw [kz_wid hw1] at key
  refine ⟨_, rfl, kc_Con_mono (kc_Con_le key (by decide)) (fun rv h2 hq2 => ?_)⟩
  rcases hq with ⟨eb0, hh1⟩ | ⟨eb0, rfl⟩
  · rcases hq2 with ⟨-, rfl, hh2⟩ | ⟨eb2, -, -⟩
    · refine ⟨by rw [eb0]; rfl, ?_⟩
      obtain ⟨B1, c1, c2⟩ : ∃ B, fu_C B 95 h ∧ fu_R B 261 650 h := by
        rcases b3 with q | q
        · rw [← b5 1 (by decide), eb, eb0] at q
          exact absurd q (by decide)
        · exact q
      have hw2 : kd_wt kd_ty h2 := by
        rw [hh2]
        exact kz_cp_wt hw1 (fun j hj => by rw [hty j hj, Nat.zero_add])
      have f2 : ∀ c k, ¬ (c = 260 ∧ k < 650) → h2 c k = h1 c k := fun c k q1 => by
        rw [hh2]
        unfold kz_cp
        rw [if_neg (by omega)]
      have g1 : ∀ k, k < 31 → ∀ m, m < kt_ln k → h2 (1 + k) m = h (95 + k) m := fun k hk m hm => by
        rw [f2 _ _ (by omega), hh1]
        unfold kt_K
        rw [show 1 + k - 1 = k from by omega, if_pos ⟨by omega, by omega, hm⟩]
      have g2 : ∀ m, m < 650 → h2 260 m = h 261 (650 + m) := fun m hm => by
        rw [hh2]
        unfold kz_cp
        rw [if_pos ⟨rfl, by omega, by omega⟩, f1 261 _ (by omega), show 650 * 1 + (m - 0) = 650 + m from by omega]
      refine fu_now hI hw2 ⟨B1, fu_Ck g1 c1, fun j hj ht => by rw [g2 j hj]; exact c2 j hj ht⟩ (fun c k q1 q2 => by rw [f2 c k (by omega), f1 c k (by omega)]) (fun c k q => by rw [f2 c k (by omega), f1 c k (by omega)]) ?_
      obtain ⟨n, l, a1, a2, a3, a4⟩ := b7
      refine ⟨n, l, a1, ?_, fun k hk => ⟨(a3 k hk).1, (a3 k hk).2.1, ?_⟩, a4⟩
      · rw [g2 (0 + 3) (by decide)]; exact a2
      · rw [g2 (0 + 150 + k) (by omega), show 650 + (0 + 150 + k) = 650 + 150 + k from by omega]
        exact (a3 k hk).2.2
    · rw [eb0] at eb2
      cases eb2
  · rcases hq2 with ⟨eb2, -, -⟩ | ⟨-, rfl, rfl⟩
    · rw [eb0] at eb2
      cases eb2
    · exact ⟨by rw [eb0]; rfl, hI⟩
theorem fU_Ximage {g : kc_G} {h : kc_H} {a : Int32} (hg : kc_ok g) (hI : fu_I h) : kc_Con g 30 157 [.inr (.inr (.inl (some 0))), .inl a] h (fun rv h1 => ∃ z : Int32, rv = some (.inl z) ∧ kc_Con g 30 158 [.inr (.inr (.inl (some 259))), .inl a] h1 (fun rv2 h2 => rv2 = some (.inl z) ∧ fu_I h2)) := by
  have alo := kv_lo a
  have ahi := kv_hi a
  rcases (show (0 ≤ a.toInt ∧ a.toInt ≤ 1) ∨ a.toInt < 0 ∨ 1 < a.toInt by omega) with k | k | k
  · obtain ⟨x, x1, -, rfl⟩ := ku_nat (u := 1) k.1 (by omega)
    rcases (show x = 0 ∨ x = 1 by omega) with rfl | rfl
    · exact fU_Ximage0 hg hI
    · exact fU_Ximage1 hg hI
  · exact fu_pair hI (by decide) (by decide) (fu_no2 (kd_h157tl hg) (by decide +kernel) hI.1 ⟨⟨0, rfl, by decide, by decide⟩, kv_gi (by omega) (by omega), trivial⟩ (fun q hq => by cases hq)) (fu_no2 (kd_h158a hg) (by decide +kernel) hI.1 ⟨⟨259, rfl, by decide, by decide⟩, kv_gi (by omega) (by omega), trivial⟩ (fun q hq => by cases hq))
  · exact fu_pair hI (by decide) (by decide) (fu_no2 (kd_h157th hg) (by decide +kernel) hI.1 ⟨⟨0, rfl, by decide, by decide⟩, kv_gi (by omega) (by omega), trivial⟩ (fun q hq => by cases hq)) (fu_no2 (kd_h158b hg) (by decide +kernel) hI.1 ⟨⟨259, rfl, by decide, by decide⟩, kv_gi (by omega) (by omega), trivial⟩ (fun q hq => by cases hq))
theorem fU_Xfrom {g : kc_G} {h : kc_H} {a : Int32} (hg : kc_ok g) (hI : fu_I h) : kc_Con g 30 159 [.inr (.inr (.inl (some 0))), .inl a] h (fun rv h1 => ∃ z : Int32, rv = some (.inl z) ∧ kc_Con g 30 160 [.inr (.inr (.inl (some 259))), .inl a] h1 (fun rv2 h2 => rv2 = some (.inl z) ∧ fu_I h2)) := by
  have alo := kv_lo a
  have ahi := kv_hi a
  rcases (show (0 ≤ a.toInt ∧ a.toInt ≤ 1) ∨ a.toInt < 0 ∨ 1 < a.toInt by omega) with k | k | k
  · obtain ⟨x, x1, -, rfl⟩ := ku_nat (u := 1) k.1 (by omega)
    rcases (show x = 0 ∨ x = 1 by omega) with rfl | rfl
    · exact fU_Xfrom0 hg hI
    · exact fU_Xfrom1 hg hI
  · exact fu_pair hI (by decide) (by decide) (fu_no2 (kd_h159tl hg) (by decide +kernel) hI.1 ⟨⟨0, rfl, by decide, by decide⟩, kv_gi (by omega) (by omega), trivial⟩ (fun q hq => by cases hq)) (fu_no2 (kd_h160a hg) (by decide +kernel) hI.1 ⟨⟨259, rfl, by decide, by decide⟩, kv_gi (by omega) (by omega), trivial⟩ (fun q hq => by cases hq))
  · exact fu_pair hI (by decide) (by decide) (fu_no2 (kd_h159th hg) (by decide +kernel) hI.1 ⟨⟨0, rfl, by decide, by decide⟩, kv_gi (by omega) (by omega), trivial⟩ (fun q hq => by cases hq)) (fu_no2 (kd_h160b hg) (by decide +kernel) hI.1 ⟨⟨259, rfl, by decide, by decide⟩, kv_gi (by omega) (by omega), trivial⟩ (fun q hq => by cases hq))
/-! ===== day: all told alike ===== -/
theorem fu_bw3 : ∀ {l : List (Nat × Int32)} {B : Nat → Int32}, fu_sd l → fu_bw l B 3 = B 3
  | [], _, _ => rfl
  | q :: l, B, hs => (fu_bw3 (l := l) (fun r hr => hs r (List.mem_cons_of_mem _ hr))).trans (if_neg (fun e => (hs q List.mem_cons_self).1 e.symm))
theorem fu_s_step {v : Nat} {n : Nat → Nat} {B : Nat → Int32} (hv : v < 9) (hB : fu_BT B) : fu_sd (fu_step v n B).2 := by
  rcases (show v = 0 ∨ v = 1 ∨ v = 2 ∨ v = 3 ∨ v = 4 ∨ v = 5 ∨ v = 6 ∨ v = 7 ∨ v = 8 by omega) with rfl | rfl | rfl | rfl | rfl | rfl | rfl | rfl | rfl
  · exact fu_s_mule hB
  · exact fu_s_load hB
  · exact fu_s_door hB
  · exact fu_s_way hB
  · exact fu_s_lame hB
  · exact fu_s_ford hB
  · exact fu_s_ask hB
  · exact fu_s_drain hB
  · exact fu_s_stones hB
theorem fu_fold3 : ∀ {l : List (Nat × List Nat)} {i : Nat} {B B2 : Nat → Int32}, (∀ q ∈ l, q.1 < 9) → fu_BT B → fu_fold l i B = .inl B2 → B2 3 = B 3
  | [], _, B, B2, _, _, h => by
    have h : (Sum.inl B : (Nat → Int32) ⊕ Nat) = .inl B2 := h
    cases h
    rfl
  | q :: l, i, B, B2, hl, hB, h => by
    have h : (if (fu_step q.1 (fun k => q.2.getD k 0) B).1.toInt < 0 then (.inr i : (Nat → Int32) ⊕ Nat) else fu_fold l (i + 1) (fu_bw (fu_step q.1 (fun k => q.2.getD k 0) B).2 B)) = .inl B2 := h
    have hq := hl q List.mem_cons_self
    split at h
    · cases h
    · rw [fu_fold3 (fun r hr => hl r (List.mem_cons_of_mem _ hr)) (fu_BT_w (fu_g_step hq hB) hB) h]
      exact fu_bw3 (fu_s_step hq hB)
theorem fu_dPu {B : Nat → Int32} {o : Option (Nat × ((Nat → Int32) ⊕ Nat))} {rv rv2 : Option kc_V} {B1 B2 : Nat → Int32} (h1 : fu_dP B o rv B1) (h2 : fu_dP B o rv2 B2) : B1 = B2 := by
  match o, h1, h2 with
  | none, h1, h2 => exact h1.2.trans h2.2.symm
  | some (_, .inl _), h1, h2 => exact h1.2.trans h2.2.symm
  | some (_, .inr _), h1, h2 => exact h1.2.trans h2.2.symm
theorem fu_dPz {B : Nat → Int32} {o : Option (Nat × ((Nat → Int32) ⊕ Nat))} {rv : Option kc_V} {B1 : Nat → Int32} (h1 : fu_dP B o rv B1) : ∃ z : Int32, rv = some (.inl z) := by
  match o, h1 with
  | none, h1 => exact ⟨_, h1.1.choose_spec⟩
  | some (_, .inl _), h1 => exact ⟨_, h1.1⟩
  | some (_, .inr _), h1 => exact ⟨_, h1.1⟩
theorem fu_dP3 {B : Nat → Int32} {t : Nat → Nat} {n : Nat} {rv : Option kc_V} {B1 : Nat → Int32} (hn : n ≤ 240) (hB : fu_BT B) (h1 : fu_dP B (fu_out t n B) rv B1) : B1 = B ∨ B1 3 = Int32.ofNat 0 := by
  cases hk : kp_its t n 9 0 61 0 with
  | none =>
    rw [fu_outn hk] at h1
    exact Or.inl h1.2
  | some l =>
    obtain ⟨hall, hlen⟩ := kp_its_ok hn (by decide) 61 0 0 l (by omega) (by omega) hk
    rw [fu_outs hk] at h1
    cases hf : fu_fold l 0 (fu_beg B) with
    | inl B2 =>
      rw [hf] at h1
      refine Or.inr ?_
      rw [h1.2, fu_fold3 (fun q hq => by obtain ⟨b1, -, b3, b4⟩ := hall q hq; omega) (fu_BT_beg hB) hf]
      rfl
    | inr i =>
      rw [hf] at h1
      exact Or.inl h1.2
theorem fU_day {g : kc_G} {h : kc_H} (hg : kc_ok g) (hI : fu_I h) : kc_Con g 30 67 [.inr (.inr (.inl (some 0)))] h (fun rv h1 => (∃ z : Int32, rv = some (.inl z)) ∧ kc_Con g 30 71 [.inr (.inr (.inl (some 259)))] h1 (fun rv2 h2 => (∃ z : Int32, rv2 = some (.inl z)) ∧ fu_I h2)) := by
  obtain ⟨B, hC, hR⟩ := hI.2.1
  have hB := fu_C_T hI.1 hC
  obtain ⟨n, n1, en⟩ := fu_nat (by decide) (fu_fby 0 (by decide)).2.2 (hB 160 (by decide) (by decide))
  have ht0 : ∀ j, ∃ v : Nat, j < 240 → v < 256 ∧ B (170 + j) = Int32.ofNat v := fun j => by
    by_cases hj : j < 240
    · obtain ⟨v, v1, v2⟩ := fu_nat (by decide) (fu_ftx 0 (by decide) j hj).2.2 (hB (170 + 240 * 0 + j) (by omega) (fu_ftx 0 (by decide) j hj).2.1)
      rw [show 170 + 240 * 0 + j = 170 + j from by omega] at v2
      exact ⟨v, fun _ => ⟨by omega, v2⟩⟩
    · exact ⟨0, fun q => absurd q hj⟩
  obtain ⟨t, ht⟩ := Classical.axiomOfChoice ht0
  have h29 : ∀ j, j < 240 → h 29 j = .inl (Int32.ofNat (t j)) := fun j hj => by
    have e := fu_Cj (c := 28) (i := j) hC (by omega) (fu_ftx 0 (by decide) j hj).2.1 (fu_ftx 0 (by decide) j hj).1
    rw [show 170 + 240 * 0 + j = 170 + j from by omega, (ht j hj).2] at e
    exact e
  have h31 : h 31 0 = .inl (Int32.ofNat n) := (fu_Cj (c := 30) (j := 160) hC (by decide) (by decide) (by decide)).trans (by rw [en])
  refine kc_Con_mono (kc_Con_le (fu_day67 hg hC hI.1 n1 (fun j hj => (ht j hj).1) h29 h31) (by decide)) (fun rv h1 hq => ?_)
  obtain ⟨B1, p1, C1, w1, f1⟩ := hq
  refine ⟨fu_dPz p1, ?_⟩
  have e260 : ∀ i, h1 260 i = h 260 i := fun i => f1 260 i (by decide) (by decide)
  have R1 : fu_B B h1 := fu_Beq (fun i _ => e260 i) hR
  refine kc_Con_mono (kc_Con_le (fu_day71 hg R1 hB w1 n1 (fun j hj => (ht j hj).1) (fun j hj => by rw [R1 (170 + j) (by omega) (by have := (fu_ftx 0 (by decide) j hj).2.1; rw [show 170 + 240 * 0 + j = 170 + j from by omega] at this; exact this), (ht j hj).2]) (by rw [R1 160 (by decide) (by decide), en])) (by decide)) (fun rv h2 hq => ?_)
  obtain ⟨B2, p2, R2, w2, f2, l2⟩ := hq
  obtain rfl := fu_dPu p1 p2
  refine ⟨fu_dPz p2, fu_now hI w2 ⟨B1, fu_Ceq (fun c i c1 c2 => f2 c i (by omega)) C1, R2⟩ (fun c i a b => (f2 c i (by omega)).trans (f1 c i (by omega) (by omega))) (fun c i a => (f2 c i (by omega)).trans (f1 c i (by omega) (by omega))) ?_⟩
  rcases fu_dP3 n1 hB p2 with e | e
  · refine kI_eq ?_ (fun i hi => ?_) hI.2.2.2.2.2.1
    · rw [R2 (0 + 3) (by decide) (by decide), hR (0 + 3) (by decide) (by decide), e]
    · rw [Nat.zero_add, l2 e i hi, e260]
  · exact ⟨0, fun _ => 0, by decide, by rw [R2 (0 + 3) (by decide) (by decide)]; exact congrArg Sum.inl e, fun i hi => absurd hi (by omega), fun i j _ hj => absurd hj (by omega)⟩
/-! ===== calls that keep all told alike by themselves ===== -/
def fu_P : List (Nat × Nat × Nat) := [(1, 0, 3), (3, 0, 5), (4, 0, 5), (5, 0, 5), (6, 0, 5), (7, 0, 5), (8, 0, 5), (9, 0, 5), (10, 0, 5), (12, 0, 4), (13, 0, 4), (14, 0, 4), (16, 0, 5), (17, 0, 5), (18, 0, 5), (19, 0, 5), (20, 0, 5), (21, 0, 5), (22, 0, 5), (23, 0, 5), (24, 0, 5), (25, 0, 5), (26, 0, 1), (27, 0, 4), (29, 0, 239), (30, 0, 239), (31, 0, 1), (64, 0, 3), (66, 0, 5), (67, 0, 5), (68, 0, 5), (69, 0, 5), (70, 0, 5), (71, 0, 5), (72, 0, 5), (73, 0, 5), (75, 0, 4), (76, 0, 4), (77, 0, 4), (79, 0, 5), (80, 0, 5), (81, 0, 5), (82, 0, 5), (83, 0, 5), (84, 0, 5), (85, 0, 5), (86, 0, 5), (87, 0, 5), (88, 0, 5), (89, 0, 1), (90, 0, 4), (92, 0, 239), (93, 0, 239), (94, 0, 1), (95, 0, 3), (97, 0, 5), (98, 0, 5), (99, 0, 5), (100, 0, 5), (101, 0, 5), (102, 0, 5), (103, 0, 5), (104, 0, 5), (106, 0, 4), (107, 0, 4), (108, 0, 4), (110, 0, 5), (111, 0, 5), (112, 0, 5), (113, 0, 5), (114, 0, 5), (115, 0, 5), (116, 0, 5), (117, 0, 5), (118, 0, 5), (119, 0, 5), (120, 0, 1), (121, 0, 4), (123, 0, 239), (124, 0, 239), (125, 0, 1), (126, 0, 1), (260, 0, 5), (260, 10, 57), (260, 60, 74), (260, 80, 85), (260, 87, 92), (260, 94, 99), (260, 101, 106), (260, 108, 113), (260, 115, 120), (260, 122, 127), (260, 129, 134), (260, 136, 141), (260, 143, 148), (260, 150, 154), (260, 160, 161), (260, 170, 649), (261, 0, 1299), (262, 0, 1)]
def fu_at (c i : Nat) : Bool := fu_P.any fun p => Nat.beq p.1 c && (Nat.ble p.2.1 i && Nat.ble i p.2.2)
def fu_dis (W : kd_W) : Bool := fu_P.all fun p => W.all fun q => (Nat.blt p.1 q.1 || Nat.blt q.2.1 p.1) || (Nat.blt p.2.2 q.2.2.1 || Nat.blt q.2.2.2 p.2.1)
theorem fu_ats : ∀ j, j < 650 → (!(fu_t j) || (fu_at (1 + (fu_p j).1) (fu_p j).2 && (fu_at (64 + (fu_p j).1) (fu_p j).2 && (fu_at (95 + (fu_p j).1) (fu_p j).2 && (fu_at 260 j && (fu_at 261 j && fu_at 261 (650 + j))))))) = true := by decide +kernel
theorem fu_at_r {W : kd_W} {h h' : kc_H} (hd : fu_dis W = true) (hfr : kd_fr W h h') {c i : Nat} (ha : fu_at c i = true) : h' c i = h c i := by
  obtain ⟨p, p1, p2⟩ := List.any_eq_true.mp ha
  simp only [Bool.and_eq_true] at p2
  have a1 := Nat.eq_of_beq_eq_true p2.1
  have a2 := Nat.le_of_ble_eq_true p2.2.1
  have a3 := Nat.le_of_ble_eq_true p2.2.2
  refine hfr c i (fun q hq => kb_inr ?_)
  have e := List.all_eq_true.mp (List.all_eq_true.mp hd p p1) q hq
  simp only [Bool.or_eq_true] at e
  rcases e with (e | e) | (e | e)
  · have : p.1 < q.1 := Nat.le_of_ble_eq_true e
    omega
  · have : q.2.1 < p.1 := Nat.le_of_ble_eq_true e
    omega
  · have : p.2.2 < q.2.2.1 := Nat.le_of_ble_eq_true e
    omega
  · have : q.2.2.2 < p.2.1 := Nat.le_of_ble_eq_true e
    omega
theorem fu_fr {W : kd_W} {h h' : kc_H} (hd : fu_dis W = true) (hfr : kd_fr W h h') (hw : kd_wt kd_ty h') (hI : fu_I h) : fu_I h' := by
  obtain ⟨-, ⟨B, b1, b2⟩, b3, b5, b7, hL, b8, b9⟩ := hI
  have k : ∀ j, j < 650 → fu_t j = true → fu_at (1 + (fu_p j).1) (fu_p j).2 = true ∧ fu_at (64 + (fu_p j).1) (fu_p j).2 = true ∧ fu_at (95 + (fu_p j).1) (fu_p j).2 = true ∧ fu_at 260 j = true ∧ fu_at 261 j = true ∧ fu_at 261 (650 + j) = true := fun j hj ht => by
    have := fu_ats j hj
    rw [ht] at this
    simpa only [Bool.not_true, Bool.false_or, Bool.and_eq_true] using this
  have r : ∀ {c i : Nat}, fu_at c i = true → h' c i = h c i := fun ha => fu_at_r hd hfr ha
  have kl : ∀ i, i < 5 → fu_at 260 (0 + 150 + i) = true ∧ fu_at 261 (0 + 150 + i) = true ∧ fu_at 261 (650 + 150 + i) = true := by decide +kernel
  refine ⟨hw, ⟨B, fun j hj ht => (r (k j hj ht).1).trans (b1 j hj ht), fun j hj ht => (r (k j hj ht).2.2.2.1).trans (b2 j hj ht)⟩, ?_, ?_, fun i hi => ?_, ?_, ?_, ?_⟩
  · rcases b3 with q | ⟨B1, b3, b4⟩
    · exact Or.inl ((r (by decide +kernel)).trans q)
    · refine Or.inr ⟨B1, fun j hj ht => (r (k j hj ht).2.1).trans (b3 j hj ht), fun j hj ht => ?_⟩
      rw [Nat.zero_add]
      have := b4 j hj ht
      rw [Nat.zero_add] at this
      exact (r (k j hj ht).2.2.2.2.1).trans this
  · rcases b5 with q | ⟨B2, b5, b6⟩
    · exact Or.inl ((r (by decide +kernel)).trans q)
    · exact Or.inr ⟨B2, fun j hj ht => (r (k j hj ht).2.2.1).trans (b5 j hj ht), fun j hj ht => (r (k j hj ht).2.2.2.2.2).trans (b6 j hj ht)⟩
  · rw [r ((show ∀ i, i < 2 → fu_at 126 i = true by decide +kernel) i hi), r ((show ∀ i, i < 2 → fu_at 262 i = true by decide +kernel) i hi)]
    exact b7 i hi
  · exact kI_eq (r (by decide +kernel)) (fun i hi => r (kl i hi).1) hL
  · exact kI_eq (r (by decide +kernel)) (fun i hi => r (kl i hi).2.1) b8
  · exact kI_eq (r (by decide +kernel)) (fun i hi => r (kl i hi).2.2) b9
def fU_i (p : kd_P) : Bool := (match p.1 with
  | some (0, _, _) => true
  | _ => false) && fu_dis p.2.2
def fU_j (p : kd_P) : Bool := (match p.1 with
  | some (2, _, _) => true
  | _ => false) && fu_dis p.2.2
def fU_Qi : Option kc_V → kc_H → Prop := fun rv h' => (∃ z : Int32, rv = some (.inl z)) ∧ fu_I h'
def fU_Qj : Option kc_V → kc_H → Prop := fun rv h' => (∃ z : Int64, rv = some (.inr (.inl z))) ∧ fu_I h'
theorem fU_ii {g : kc_G} {d id : Nat} {T : kd_Tc} (hh : kd_hold g d kd_ty id T) (hc : T.2.2.all fU_i = true) {xs : List kc_V} {h : kc_H} (hI : fu_I h) (hv : wk_f2 (kd_g 0 (fun _ => 0)) T.1 xs) (hF : kd_gF 0 (fun _ => 0) T.2.1 h) : kc_Con g d id xs h fU_Qi := by
  refine kc_Con_mono (hh xs h hI.1 hv hF) (fun rv h' hq => ?_)
  obtain ⟨p, p1, p2, -, p4, p5⟩ := hq
  have hp := List.all_eq_true.mp hc p p1
  unfold fU_i at hp
  rw [Bool.and_eq_true] at hp
  refine ⟨?_, fu_fr hp.2 p5 p4 hI⟩
  obtain ⟨r, F, V⟩ := p
  match r, rv, hp.1, p2 with
  | some (0, a, b), some y, _, p2 => obtain ⟨z, rfl, -, -⟩ := p2; exact ⟨z, rfl⟩
  | some (0, _, _), none, _, p2 => exact p2.elim
  | some (_ + 1, _, _), _, q, _ => cases q
  | none, _, q, _ => cases q
theorem fU_jj {g : kc_G} {d id : Nat} {T : kd_Tc} (hh : kd_hold g d kd_ty id T) (hc : T.2.2.all fU_j = true) {xs : List kc_V} {h : kc_H} (hI : fu_I h) (hv : wk_f2 (kd_g 0 (fun _ => 0)) T.1 xs) (hF : kd_gF 0 (fun _ => 0) T.2.1 h) : kc_Con g d id xs h fU_Qj := by
  refine kc_Con_mono (hh xs h hI.1 hv hF) (fun rv h' hq => ?_)
  obtain ⟨p, p1, p2, -, p4, p5⟩ := hq
  have hp := List.all_eq_true.mp hc p p1
  unfold fU_j at hp
  rw [Bool.and_eq_true] at hp
  refine ⟨?_, fu_fr hp.2 p5 p4 hI⟩
  obtain ⟨r, F, V⟩ := p
  match r, rv, hp.1, p2 with
  | some (2, a, b), some y, _, p2 => obtain ⟨z, rfl, -, -⟩ := p2; exact ⟨z, rfl⟩
  | some (2, _, _), none, _, p2 => exact p2.elim
  | some (0, _, _), _, q, _ => cases q
  | some (1, _, _), _, q, _ => cases q
  | some (_ + 3, _, _), _, q, _ => cases q
  | none, _, q, _ => cases q
theorem fU_cfault {g : kc_G} {h : kc_H} {a : Int32} (hg : kc_ok g) (hI : fu_I h) : kc_Con g 30 60 [.inr (.inr (.inl (some 0))), .inl a] h fU_Qi := kc_Con_le (fU_ii (kd_h60 hg) (by decide +kernel) hI ⟨⟨0, rfl, by decide, by decide⟩, kO_a a, trivial⟩ (fun q hq => by cases hq)) (by decide)
theorem fU_rfault {g : kc_G} {h : kc_H} {a : Int32} (hg : kc_ok g) (hI : fu_I h) : kc_Con g 30 63 [.inr (.inr (.inl (some 259))), .inl a] h fU_Qi := kc_Con_le (fU_ii (kd_h63 hg) (by decide +kernel) hI ⟨⟨259, rfl, by decide, by decide⟩, kO_a a, trivial⟩ (fun q hq => by cases hq)) (by decide)
theorem fU_crun {g : kc_G} {h : kc_H} {a : Int32} (hg : kc_ok g) (hI : fu_I h) : kc_Con g 30 72 [.inr (.inr (.inl (some 0))), .inl a] h fU_Qi := kc_Con_le (fU_ii (kd_h72 hg) (by decide +kernel) hI ⟨⟨0, rfl, by decide, by decide⟩, kO_a a, trivial⟩ (fun q hq => by cases hq)) (by decide)
theorem fU_rrun {g : kc_G} {h : kc_H} {a : Int32} (hg : kc_ok g) (hI : fu_I h) : kc_Con g 30 77 [.inr (.inr (.inl (some 259))), .inl a] h fU_Qi := kc_Con_le (fU_ii (kd_h77 hg) (by decide +kernel) hI ⟨⟨259, rfl, by decide, by decide⟩, kO_a a, trivial⟩ (fun q hq => by cases hq)) (by decide)
theorem fU_cside {g : kc_G} {h : kc_H} {a b c : Int32} (hg : kc_ok g) (hI : fu_I h) : kc_Con g 30 80 [.inr (.inr (.inl (some 0))), .inl a, .inl b, .inl c] h fU_Qi := kc_Con_le (fU_ii (kd_h80 hg) (by decide +kernel) hI ⟨⟨0, rfl, by decide, by decide⟩, kO_a a, kO_a b, kO_a c, trivial⟩ (fun q hq => by cases hq)) (by decide)
theorem fU_rside {g : kc_G} {h : kc_H} {a b c : Int32} (hg : kc_ok g) (hI : fu_I h) : kc_Con g 30 81 [.inr (.inr (.inl (some 259))), .inl a, .inl b, .inl c] h fU_Qi := kc_Con_le (fU_ii (kd_h81 hg) (by decide +kernel) hI ⟨⟨259, rfl, by decide, by decide⟩, kO_a a, kO_a b, kO_a c, trivial⟩ (fun q hq => by cases hq)) (by decide)
theorem fU_cwhere {g : kc_G} {h : kc_H} {a : Int32} (hg : kc_ok g) (hI : fu_I h) : kc_Con g 30 83 [.inr (.inr (.inl (some 0))), .inl a] h fU_Qi := kc_Con_le (fU_ii (kd_h83 hg) (by decide +kernel) hI ⟨⟨0, rfl, by decide, by decide⟩, kO_a a, trivial⟩ (fun q hq => by cases hq)) (by decide)
theorem fU_rwhere {g : kc_G} {h : kc_H} {a : Int32} (hg : kc_ok g) (hI : fu_I h) : kc_Con g 30 84 [.inr (.inr (.inl (some 259))), .inl a] h fU_Qi := kc_Con_le (fU_ii (kd_h84 hg) (by decide +kernel) hI ⟨⟨259, rfl, by decide, by decide⟩, kO_a a, trivial⟩ (fun q hq => by cases hq)) (by decide)
theorem fU_chalves {g : kc_G} {h : kc_H} {a b : Int32} (hg : kc_ok g) (hI : fu_I h) : kc_Con g 30 85 [.inr (.inr (.inl (some 0))), .inl a, .inl b] h fU_Qi := kc_Con_le (fU_ii (kd_h85 hg) (by decide +kernel) hI ⟨⟨0, rfl, by decide, by decide⟩, kO_a a, kO_a b, trivial⟩ (fun q hq => by cases hq)) (by decide)
theorem fU_rhalves {g : kc_G} {h : kc_H} {a b : Int32} (hg : kc_ok g) (hI : fu_I h) : kc_Con g 30 87 [.inr (.inr (.inl (some 259))), .inl a, .inl b] h fU_Qi := kc_Con_le (fU_ii (kd_h87 hg) (by decide +kernel) hI ⟨⟨259, rfl, by decide, by decide⟩, kO_a a, kO_a b, trivial⟩ (fun q hq => by cases hq)) (by decide)
theorem fU_cwithin {g : kc_G} {h : kc_H} {a b : Int32} (hg : kc_ok g) (hI : fu_I h) : kc_Con g 30 89 [.inr (.inr (.inl (some 0))), .inl a, .inl b] h fU_Qi := kc_Con_le (fU_ii (kd_h89 hg) (by decide +kernel) hI ⟨⟨0, rfl, by decide, by decide⟩, kO_a a, kO_a b, trivial⟩ (fun q hq => by cases hq)) (by decide)
theorem fU_rwithin {g : kc_G} {h : kc_H} {a b : Int32} (hg : kc_ok g) (hI : fu_I h) : kc_Con g 30 90 [.inr (.inr (.inl (some 259))), .inl a, .inl b] h fU_Qi := kc_Con_le (fU_ii (kd_h90 hg) (by decide +kernel) hI ⟨⟨259, rfl, by decide, by decide⟩, kO_a a, kO_a b, trivial⟩ (fun q hq => by cases hq)) (by decide)
theorem fU_chang {g : kc_G} {h : kc_H} {a b c : Int32} (hg : kc_ok g) (hI : fu_I h) : kc_Con g 30 91 [.inr (.inr (.inl (some 0))), .inl a, .inl b, .inl c] h fU_Qi := kc_Con_le (fU_ii (kd_h91 hg) (by decide +kernel) hI ⟨⟨0, rfl, by decide, by decide⟩, kO_a a, kO_a b, kO_a c, trivial⟩ (fun q hq => by cases hq)) (by decide)
theorem fU_rhang {g : kc_G} {h : kc_H} {a b c : Int32} (hg : kc_ok g) (hI : fu_I h) : kc_Con g 30 92 [.inr (.inr (.inl (some 259))), .inl a, .inl b, .inl c] h fU_Qi := kc_Con_le (fU_ii (kd_h92 hg) (by decide +kernel) hI ⟨⟨259, rfl, by decide, by decide⟩, kO_a a, kO_a b, kO_a c, trivial⟩ (fun q hq => by cases hq)) (by decide)
theorem fU_cborne {g : kc_G} {h : kc_H} (hg : kc_ok g) (hI : fu_I h) : kc_Con g 30 97 [.inr (.inr (.inl (some 0)))] h fU_Qi := kc_Con_le (fU_ii (kd_h97 hg) (by decide +kernel) hI ⟨⟨0, rfl, by decide, by decide⟩, trivial⟩ (fun q hq => by cases hq)) (by decide)
theorem fU_rborne {g : kc_G} {h : kc_H} (hg : kc_ok g) (hI : fu_I h) : kc_Con g 30 103 [.inr (.inr (.inl (some 259)))] h fU_Qi := kc_Con_le (fU_ii (kd_h103 hg) (by decide +kernel) hI ⟨⟨259, rfl, by decide, by decide⟩, trivial⟩ (fun q hq => by cases hq)) (by decide)
theorem fU_cworst {g : kc_G} {h : kc_H} (hg : kc_ok g) (hI : fu_I h) : kc_Con g 30 107 [.inr (.inr (.inl (some 0)))] h fU_Qi := kc_Con_le (fU_ii (kd_h107 hg) (by decide +kernel) hI ⟨⟨0, rfl, by decide, by decide⟩, trivial⟩ (fun q hq => by cases hq)) (by decide)
theorem fU_rworst {g : kc_G} {h : kc_H} (hg : kc_ok g) (hI : fu_I h) : kc_Con g 30 109 [.inr (.inr (.inl (some 259)))] h fU_Qi := kc_Con_le (fU_ii (kd_h109 hg) (by decide +kernel) hI ⟨⟨259, rfl, by decide, by decide⟩, trivial⟩ (fun q hq => by cases hq)) (by decide)
theorem fU_clonger {g : kc_G} {h : kc_H} (hg : kc_ok g) (hI : fu_I h) : kc_Con g 30 111 [.inr (.inr (.inl (some 0)))] h fU_Qi := kc_Con_le (fU_ii (kd_h111 hg) (by decide +kernel) hI ⟨⟨0, rfl, by decide, by decide⟩, trivial⟩ (fun q hq => by cases hq)) (by decide)
theorem fU_rlonger {g : kc_G} {h : kc_H} (hg : kc_ok g) (hI : fu_I h) : kc_Con g 30 113 [.inr (.inr (.inl (some 259)))] h fU_Qi := kc_Con_le (fU_ii (kd_h113 hg) (by decide +kernel) hI ⟨⟨259, rfl, by decide, by decide⟩, trivial⟩ (fun q hq => by cases hq)) (by decide)
theorem fU_cstays {g : kc_G} {h : kc_H} {a : Int32} (hg : kc_ok g) (hI : fu_I h) : kc_Con g 30 114 [.inr (.inr (.inl (some 0))), .inl a] h fU_Qi := kc_Con_le (fU_ii (kd_h114 hg) (by decide +kernel) hI ⟨⟨0, rfl, by decide, by decide⟩, kO_a a, trivial⟩ (fun q hq => by cases hq)) (by decide)
theorem fU_rstays {g : kc_G} {h : kc_H} {a : Int32} (hg : kc_ok g) (hI : fu_I h) : kc_Con g 30 120 [.inr (.inr (.inl (some 259))), .inl a] h fU_Qi := kc_Con_le (fU_ii (kd_h120 hg) (by decide +kernel) hI ⟨⟨259, rfl, by decide, by decide⟩, kO_a a, trivial⟩ (fun q hq => by cases hq)) (by decide)
theorem fU_cbest {g : kc_G} {h : kc_H} {a : Int32} (hg : kc_ok g) (hI : fu_I h) : kc_Con g 30 125 [.inr (.inr (.inl (some 0))), .inl a] h fU_Qi := kc_Con_le (fU_ii (kd_h125 hg) (by decide +kernel) hI ⟨⟨0, rfl, by decide, by decide⟩, kO_a a, trivial⟩ (fun q hq => by cases hq)) (by decide)
theorem fU_rbest {g : kc_G} {h : kc_H} {a : Int32} (hg : kc_ok g) (hI : fu_I h) : kc_Con g 30 129 [.inr (.inr (.inl (some 259))), .inl a] h fU_Qi := kc_Con_le (fU_ii (kd_h129 hg) (by decide +kernel) hI ⟨⟨259, rfl, by decide, by decide⟩, kO_a a, trivial⟩ (fun q hq => by cases hq)) (by decide)
theorem fU_cliftings {g : kc_G} {h : kc_H} (hg : kc_ok g) (hI : fu_I h) : kc_Con g 30 134 [.inr (.inr (.inl (some 0)))] h fU_Qi := kc_Con_le (fU_ii (kd_h134 hg) (by decide +kernel) hI ⟨⟨0, rfl, by decide, by decide⟩, trivial⟩ (fun q hq => by cases hq)) (by decide)
theorem fU_rliftings {g : kc_G} {h : kc_H} (hg : kc_ok g) (hI : fu_I h) : kc_Con g 30 136 [.inr (.inr (.inl (some 259)))] h fU_Qi := kc_Con_le (fU_ii (kd_h136 hg) (by decide +kernel) hI ⟨⟨259, rfl, by decide, by decide⟩, trivial⟩ (fun q hq => by cases hq)) (by decide)
theorem fU_cfewest {g : kc_G} {h : kc_H} (hg : kc_ok g) (hI : fu_I h) : kc_Con g 30 137 [.inr (.inr (.inl (some 0)))] h fU_Qi := kc_Con_le (fU_ii (kd_h137 hg) (by decide +kernel) hI ⟨⟨0, rfl, by decide, by decide⟩, trivial⟩ (fun q hq => by cases hq)) (by decide)
theorem fU_rfewest {g : kc_G} {h : kc_H} (hg : kc_ok g) (hI : fu_I h) : kc_Con g 30 138 [.inr (.inr (.inl (some 259)))] h fU_Qi := kc_Con_le (fU_ii (kd_h138 hg) (by decide +kernel) hI ⟨⟨259, rfl, by decide, by decide⟩, trivial⟩ (fun q hq => by cases hq)) (by decide)
theorem fU_cchance {g : kc_G} {h : kc_H} (hg : kc_ok g) (hI : fu_I h) : kc_Con g 30 139 [.inr (.inr (.inl (some 0)))] h fU_Qi := kc_Con_le (fU_ii (kd_h139 hg) (by decide +kernel) hI ⟨⟨0, rfl, by decide, by decide⟩, trivial⟩ (fun q hq => by cases hq)) (by decide)
theorem fU_rchance {g : kc_G} {h : kc_H} (hg : kc_ok g) (hI : fu_I h) : kc_Con g 30 145 [.inr (.inr (.inl (some 259)))] h fU_Qi := kc_Con_le (fU_ii (kd_h145 hg) (by decide +kernel) hI ⟨⟨259, rfl, by decide, by decide⟩, trivial⟩ (fun q hq => by cases hq)) (by decide)
theorem fU_ckeep {g : kc_G} {h : kc_H} {a : Int32} (hg : kc_ok g) (hI : fu_I h) : kc_Con g 30 151 [.inr (.inr (.inl (some 0))), .inl a] h fU_Qi := kc_Con_le (fU_ii (kd_h151 hg) (by decide +kernel) hI ⟨⟨0, rfl, by decide, by decide⟩, kO_a a, trivial⟩ (fun q hq => by cases hq)) (by decide)
theorem fU_rkeep {g : kc_G} {h : kc_H} {a : Int32} (hg : kc_ok g) (hI : fu_I h) : kc_Con g 30 152 [.inr (.inr (.inl (some 259))), .inl a] h fU_Qi := kc_Con_le (fU_ii (kd_h152 hg) (by decide +kernel) hI ⟨⟨259, rfl, by decide, by decide⟩, kO_a a, trivial⟩ (fun q hq => by cases hq)) (by decide)
theorem fU_calone {g : kc_G} {h : kc_H} {a b c : Int32} (hg : kc_ok g) (hI : fu_I h) : kc_Con g 30 153 [.inr (.inr (.inl (some 0))), .inl a, .inl b, .inl c] h fU_Qi := kc_Con_le (fU_ii (kd_h153 hg) (by decide +kernel) hI ⟨⟨0, rfl, by decide, by decide⟩, kO_a a, kO_a b, kO_a c, trivial⟩ (fun q hq => by cases hq)) (by decide)
theorem fU_ralone {g : kc_G} {h : kc_H} {a b c : Int32} (hg : kc_ok g) (hI : fu_I h) : kc_Con g 30 154 [.inr (.inr (.inl (some 259))), .inl a, .inl b, .inl c] h fU_Qi := kc_Con_le (fU_ii (kd_h154 hg) (by decide +kernel) hI ⟨⟨259, rfl, by decide, by decide⟩, kO_a a, kO_a b, kO_a c, trivial⟩ (fun q hq => by cases hq)) (by decide)
theorem fU_cpart {g : kc_G} {h : kc_H} {a : Int32} (hg : kc_ok g) (hI : fu_I h) : kc_Con g 30 155 [.inr (.inr (.inl (some 0))), .inl a] h fU_Qj := kc_Con_le (fU_jj (kd_h155 hg) (by decide +kernel) hI ⟨⟨0, rfl, by decide, by decide⟩, kO_a a, trivial⟩ (fun q hq => by cases hq)) (by decide)
theorem fU_rpart {g : kc_G} {h : kc_H} {a : Int32} (hg : kc_ok g) (hI : fu_I h) : kc_Con g 30 156 [.inr (.inr (.inl (some 259))), .inl a] h fU_Qj := kc_Con_le (fU_jj (kd_h156 hg) (by decide +kernel) hI ⟨⟨259, rfl, by decide, by decide⟩, kO_a a, trivial⟩ (fun q hq => by cases hq)) (by decide)
theorem fU_cdigest {g : kc_G} {h : kc_H} (hg : kc_ok g) (hI : fu_I h) : kc_Con g 30 165 [.inr (.inr (.inl (some 0)))] h fU_Qj := kc_Con_le (fU_jj (kd_h165 hg) (by decide +kernel) hI ⟨⟨0, rfl, by decide, by decide⟩, trivial⟩ (fun q hq => by cases hq)) (by decide)
theorem fU_rdigest {g : kc_G} {h : kc_H} (hg : kc_ok g) (hI : fu_I h) : kc_Con g 30 170 [.inr (.inr (.inl (some 259)))] h fU_Qj := kc_Con_le (fU_jj (kd_h170 hg) (by decide +kernel) hI ⟨⟨259, rfl, by decide, by decide⟩, trivial⟩ (fun q hq => by cases hq)) (by decide)
end
section
-- 99.zpk
/-! ===== parts of a set, in order ===== -/
def fh_s (W : Nat → Nat) (m o : Nat) : Nat → Int
  | 0 => 0
  | k + 1 => fh_s W m o k + (if m / 2 ^ k % 2 = 1 then (if o / 2 ^ k % 2 = 1 then (W k : Int) else -(W k : Int)) else 0)
theorem fh_s_b {W : Nat → Nat} {m o : Nat} (hW : ∀ l, l < 10 → W l ≤ 99) : ∀ k : Nat, k ≤ 10 → -(99 * (k : Int)) ≤ fh_s W m o k ∧ fh_s W m o k ≤ 99 * (k : Int)
  | 0, _ => by
    unfold fh_s
    omega
  | k + 1, hk => by
    have ih := fh_s_b (m := m) (o := o) hW k (by omega)
    have := hW k (by omega)
    unfold fh_s
    split
    · split <;> omega
    · omega
def fh_bk (k : Nat) : Nat → Bool
  | 0 => true
  | m + 1 => decide ((Int32.ofNat m >>> (Int32.ofNat k &&& 31)) &&& Int32.ofNat 1 = Int32.ofNat (m / 2 ^ k % 2)) && fh_bk k m
theorem fh_bk_r {k : Nat} : ∀ n : Nat, fh_bk k n = true → ∀ m, m < n → (Int32.ofNat m >>> (Int32.ofNat k &&& 31)) &&& Int32.ofNat 1 = Int32.ofNat (m / 2 ^ k % 2)
  | 0, _, m, hm => absurd hm (Nat.not_lt_zero _)
  | n + 1, h, m, hm => by
    have h : (decide ((Int32.ofNat n >>> (Int32.ofNat k &&& 31)) &&& Int32.ofNat 1 = Int32.ofNat (n / 2 ^ k % 2)) && fh_bk k n) = true := h
    rw [Bool.and_eq_true] at h
    by_cases e : m = n
    · subst e
      exact of_decide_eq_true h.1
    · exact fh_bk_r n h.2 m (by omega)
set_option maxRecDepth 100000 in
theorem fh_bk0 : fh_bk 0 1024 = true := by decide +kernel
set_option maxRecDepth 100000 in
theorem fh_bk1 : fh_bk 1 1024 = true := by decide +kernel
set_option maxRecDepth 100000 in
theorem fh_bk2 : fh_bk 2 1024 = true := by decide +kernel
set_option maxRecDepth 100000 in
theorem fh_bk3 : fh_bk 3 1024 = true := by decide +kernel
set_option maxRecDepth 100000 in
theorem fh_bk4 : fh_bk 4 1024 = true := by decide +kernel
set_option maxRecDepth 100000 in
theorem fh_bk5 : fh_bk 5 1024 = true := by decide +kernel
set_option maxRecDepth 100000 in
theorem fh_bk6 : fh_bk 6 1024 = true := by decide +kernel
set_option maxRecDepth 100000 in
theorem fh_bk7 : fh_bk 7 1024 = true := by decide +kernel
set_option maxRecDepth 100000 in
theorem fh_bk8 : fh_bk 8 1024 = true := by decide +kernel
set_option maxRecDepth 100000 in
theorem fh_bk9 : fh_bk 9 1024 = true := by decide +kernel
theorem fh_bit {m k : Nat} (hm : m < 1024) (hk : k < 10) : (Int32.ofNat m >>> (Int32.ofNat k &&& 31)) &&& Int32.ofNat 1 = Int32.ofNat (m / 2 ^ k % 2) := by
  rcases (show k = 0 ∨ k = 1 ∨ k = 2 ∨ k = 3 ∨ k = 4 ∨ k = 5 ∨ k = 6 ∨ k = 7 ∨ k = 8 ∨ k = 9 by omega) with rfl | rfl | rfl | rfl | rfl | rfl | rfl | rfl | rfl | rfl
  · exact fh_bk_r 1024 fh_bk0 m hm
  · exact fh_bk_r 1024 fh_bk1 m hm
  · exact fh_bk_r 1024 fh_bk2 m hm
  · exact fh_bk_r 1024 fh_bk3 m hm
  · exact fh_bk_r 1024 fh_bk4 m hm
  · exact fh_bk_r 1024 fh_bk5 m hm
  · exact fh_bk_r 1024 fh_bk6 m hm
  · exact fh_bk_r 1024 fh_bk7 m hm
  · exact fh_bk_r 1024 fh_bk8 m hm
  · exact fh_bk_r 1024 fh_bk9 m hm
theorem fh_land {x m : Nat} (hm : m < 1024) : x &&& m = (x % 1024) &&& m := by
  have e : 1023 &&& m = m := by
    rw [Nat.and_comm, show (1023 : Nat) = 2 ^ 10 - 1 from rfl, Nat.and_two_pow_sub_one_eq_mod]
    exact Nat.mod_eq_of_lt hm
  have e2 : x % 1024 = x &&& 1023 := by
    rw [show (1023 : Nat) = 2 ^ 10 - 1 from rfl, Nat.and_two_pow_sub_one_eq_mod]
  rw [e2, Nat.and_assoc, e]
theorem fh_next {o m : Nat} (ho : o < 1024) (hm : m < 1024) : (Int32.ofNat o - Int32.ofNat m) &&& Int32.ofNat m = Int32.ofNat ((o + 1024 - m) &&& m) := by
  apply Int32.toBitVec_inj.mp
  rw [Int32.toBitVec_and, Int32.toBitVec_sub, Int32.toBitVec_ofNat', Int32.toBitVec_ofNat', Int32.toBitVec_ofNat']
  apply BitVec.eq_of_toNat_eq
  rw [BitVec.toNat_and, BitVec.toNat_sub, BitVec.toNat_ofNat, BitVec.toNat_ofNat, BitVec.toNat_ofNat]
  have h1 : (o + 1024 - m) &&& m ≤ m := Nat.and_le_right
  rw [Nat.mod_eq_of_lt (show m < 2 ^ 32 by omega), Nat.mod_eq_of_lt (show o < 2 ^ 32 by omega), Nat.mod_eq_of_lt (show (o + 1024 - m) &&& m < 2 ^ 32 by omega), fh_land hm, fh_land (x := o + 1024 - m) hm]
  congr 1
  omega
theorem fh_subb {x m : Nat} (hx : x < 1024) (hm : m < 1024) : (Int32.ofNat x &&& (Int32.ofNat m ^^^ Int32.ofInt (-1))) = 0 ↔ x &&& m = x := by
  rw [← Int32.toBitVec_inj, Int32.toBitVec_and, Int32.toBitVec_xor, Int32.toBitVec_ofNat', Int32.toBitVec_ofNat', show (Int32.ofInt (-1)).toBitVec = BitVec.allOnes 32 from by decide, show (0 : Int32).toBitVec = 0#32 from by decide]
  have key : ∀ a b : BitVec 32, (a &&& (b ^^^ BitVec.allOnes 32) = 0#32) ↔ a &&& b = a := fun a b => by
    constructor
    · intro h
      apply BitVec.eq_of_getLsbD_eq
      intro i hi
      have k := congrArg (fun v => BitVec.getLsbD v i) h
      simp only [BitVec.getLsbD_and, BitVec.getLsbD_xor, BitVec.getLsbD_allOnes, BitVec.getLsbD_zero, hi, decide_true] at k
      rw [BitVec.getLsbD_and]
      revert k
      cases a.getLsbD i <;> cases b.getLsbD i <;> decide
    · intro h
      apply BitVec.eq_of_getLsbD_eq
      intro i hi
      have k := congrArg (fun v => BitVec.getLsbD v i) h
      simp only [BitVec.getLsbD_and] at k
      simp only [BitVec.getLsbD_and, BitVec.getLsbD_xor, BitVec.getLsbD_allOnes, BitVec.getLsbD_zero, hi, decide_true]
      revert k
      cases a.getLsbD i <;> cases b.getLsbD i <;> decide
  rw [key, ← BitVec.toNat_inj, BitVec.toNat_and, BitVec.toNat_ofNat, BitVec.toNat_ofNat, Nat.mod_eq_of_lt (show x < 2 ^ 32 by omega), Nat.mod_eq_of_lt (show m < 2 ^ 32 by omega)]
theorem fh_sub {x m : Nat} (hx : x < 1024) (hm : m < 1024) : (kc_cnd .ne (Int32.ofNat x &&& (Int32.ofNat m ^^^ Int32.ofInt (-1))).toInt 0 = true) ↔ ¬ x &&& m = x := by
  rw [fu_ine, ← fh_subb hx hm, show (0 : Int) = (0 : Int32).toInt from by decide, Int32.toInt_inj]
/-- each part's next part, by going through all -/
def fh_ck (m : Nat) : Nat → Nat → Bool
  | 0, _ => true
  | u + 1, e => bif Nat.beq (Nat.land (m - u) m) (m - u) then (Nat.beq (m - u) e && fh_ck m u (Nat.land (m - u + 1024 - m) m)) else fh_ck m u e
def fh_cks : Nat → Nat → Bool
  | 0, _ => true
  | n + 1, b => fh_ck (b + n) (b + n + 1) 0 && fh_cks n b
set_option maxRecDepth 100000 in
theorem fh_cks0 : fh_cks 128 0 = true := by decide +kernel
set_option maxRecDepth 100000 in
theorem fh_cks1 : fh_cks 128 128 = true := by decide +kernel
set_option maxRecDepth 100000 in
theorem fh_cks2 : fh_cks 128 256 = true := by decide +kernel
set_option maxRecDepth 100000 in
theorem fh_cks3 : fh_cks 128 384 = true := by decide +kernel
set_option maxRecDepth 100000 in
theorem fh_cks4 : fh_cks 128 512 = true := by decide +kernel
set_option maxRecDepth 100000 in
theorem fh_cks5 : fh_cks 128 640 = true := by decide +kernel
set_option maxRecDepth 100000 in
theorem fh_cks6 : fh_cks 128 768 = true := by decide +kernel
set_option maxRecDepth 100000 in
theorem fh_cks7 : fh_cks 128 896 = true := by decide +kernel
theorem fh_cks_r : ∀ (n b m : Nat), b ≤ m → m < b + n → fh_cks n b = true → fh_ck m (m + 1) 0 = true
  | 0, b, m, h1, h2, _ => by omega
  | n + 1, b, m, h1, h2, h => by
    have h : (fh_ck (b + n) (b + n + 1) 0 && fh_cks n b) = true := h
    rw [Bool.and_eq_true] at h
    by_cases e : m = b + n
    · subst e
      exact h.1
    · exact fh_cks_r n b m h1 (by omega) h.2
theorem fh_ck_all {m : Nat} (hm : m < 1024) : fh_ck m (m + 1) 0 = true := by
  rcases (show m < 128 ∨ (128 ≤ m ∧ m < 256) ∨ (256 ≤ m ∧ m < 384) ∨ (384 ≤ m ∧ m < 512) ∨ (512 ≤ m ∧ m < 640) ∨ (640 ≤ m ∧ m < 768) ∨ (768 ≤ m ∧ m < 896) ∨ 896 ≤ m by omega) with k | k | k | k | k | k | k | k
  · exact fh_cks_r 128 0 m (by omega) (by omega) fh_cks0
  · exact fh_cks_r 128 128 m (by omega) (by omega) fh_cks1
  · exact fh_cks_r 128 256 m (by omega) (by omega) fh_cks2
  · exact fh_cks_r 128 384 m (by omega) (by omega) fh_cks3
  · exact fh_cks_r 128 512 m (by omega) (by omega) fh_cks4
  · exact fh_cks_r 128 640 m (by omega) (by omega) fh_cks5
  · exact fh_cks_r 128 768 m (by omega) (by omega) fh_cks6
  · exact fh_cks_r 128 896 m (by omega) (by omega) fh_cks7
theorem fh_ck_r {m : Nat} : ∀ (u e : Nat), u ≤ m + 1 → fh_ck m u e = true → (∀ y, m + 1 - u ≤ y → y ≤ m → y &&& m = y → (∀ z, m + 1 - u ≤ z → z < y → ¬ z &&& m = z) → y = e) ∧ (∀ o y, m + 1 - u ≤ o → o < y → y ≤ m → o &&& m = o → y &&& m = y → (∀ z, o < z → z < y → ¬ z &&& m = z) → y = (o + 1024 - m) &&& m)
  | 0, e, _, _ => ⟨fun y h1 h2 => by omega, fun o y h1 h2 h3 => by omega⟩
  | u + 1, e, hu, h => by
    have h : (bif Nat.beq (Nat.land (m - u) m) (m - u) then (Nat.beq (m - u) e && fh_ck m u (Nat.land (m - u + 1024 - m) m)) else fh_ck m u e) = true := h
    cases c : Nat.beq (Nat.land (m - u) m) (m - u) with
    | true =>
      rw [c] at h
      have h : (Nat.beq (m - u) e && fh_ck m u (Nat.land (m - u + 1024 - m) m)) = true := h
      rw [Bool.and_eq_true] at h
      have e1 := Nat.eq_of_beq_eq_true h.1
      have e2 : (m - u) &&& m = m - u := Nat.eq_of_beq_eq_true c
      obtain ⟨i1, i2⟩ := fh_ck_r u _ (by omega) h.2
      refine ⟨fun y h1 h2 h3 h4 => ?_, fun o y h1 h2 h3 h4 h5 h6 => ?_⟩
      · by_cases q : y = m - u
        · omega
        · exact absurd e2 (h4 (m - u) (by omega) (by omega))
      · by_cases q : o = m - u
        · subst q
          exact i1 y (by omega) h3 h5 (fun z z1 z2 => h6 z (by omega) z2)
        · exact i2 o y (by omega) h2 h3 h4 h5 h6
    | false =>
      rw [c] at h
      have h : fh_ck m u e = true := h
      have e2 : ¬ (m - u) &&& m = m - u := fun k => by
        have k2 : Nat.beq (Nat.land (m - u) m) (m - u) = true := by
          rw [show Nat.land (m - u) m = m - u from k]
          exact Nat.beq_refl _
        rw [k2] at c
        cases c
      obtain ⟨i1, i2⟩ := fh_ck_r u e (by omega) h
      refine ⟨fun y h1 h2 h3 h4 => ?_, fun o y h1 h2 h3 h4 h5 h6 => ?_⟩
      · have q : ¬ y = m - u := fun q => by
          rw [q] at h3
          exact e2 h3
        exact i1 y (by omega) h2 h3 (fun z z1 z2 => h4 z (by omega) z2)
      · have q : ¬ o = m - u := fun q => by
          rw [q] at h4
          exact e2 h4
        exact i2 o y (by omega) h2 h3 h4 h5 h6
theorem fh_ex {m o : Nat} : ∀ u x : Nat, o < x → x + u = m → (∀ z, o < z → z < x → ¬ z &&& m = z) → ∃ y, o < y ∧ y ≤ m ∧ y &&& m = y ∧ ∀ z, o < z → z < y → ¬ z &&& m = z
  | 0, x, h1, h2, h3 => ⟨m, by omega, Nat.le_refl _, Nat.and_self _, fun z z1 z2 => h3 z z1 (by omega)⟩
  | u + 1, x, h1, h2, h3 => by
    by_cases e : x &&& m = x
    · exact ⟨x, h1, by omega, e, h3⟩
    · refine fh_ex u (x + 1) (by omega) (by omega) (fun z z1 z2 => ?_)
      by_cases q : z = x
      · rw [q]
        exact e
      · exact h3 z z1 (by omega)
theorem fh_nx {m o : Nat} (hm : m < 1024) (ho : o < m) (hs : o &&& m = o) : o < (o + 1024 - m) &&& m ∧ (o + 1024 - m) &&& m ≤ m ∧ ((o + 1024 - m) &&& m) &&& m = (o + 1024 - m) &&& m ∧ ∀ z, o < z → z < (o + 1024 - m) &&& m → ¬ z &&& m = z := by
  obtain ⟨y, y1, y2, y3, y4⟩ := fh_ex (m := m) (o := o) (m - (o + 1)) (o + 1) (by omega) (by omega) (fun z z1 z2 => by omega)
  have e := (fh_ck_r (m + 1) 0 (Nat.le_refl _) (fh_ck_all hm)).2 o y (by omega) y1 y2 hs y3 y4
  rw [← e]
  exact ⟨y1, y2, y3, y4⟩
/-- the least, how often, the first -/
abbrev fh_S : Type := Nat × Nat × Int32
def fh_u (d x : Nat) (s : fh_S) : fh_S := if d < s.1 then (d, 1, Int32.ofNat x) else if d = s.1 then (s.1, s.2.1 + 1, s.2.2) else s
def fh_f (f : Nat → fh_S → fh_S) (m : Nat) : Nat → Nat → fh_S → fh_S
  | 0, _, s => s
  | u + 1, x, s => fh_f f m u (x + 1) (if x &&& m = x then f x s else s)
theorem fh_skip {f : Nat → fh_S → fh_S} {m : Nat} : ∀ (n u x : Nat) (s : fh_S), (∀ z, x ≤ z → z < x + n → ¬ z &&& m = z) → fh_f f m (n + u) x s = fh_f f m u (x + n) s
  | 0, u, x, s, _ => by rw [Nat.zero_add, Nat.add_zero]
  | n + 1, u, x, s, h => by
    rw [show n + 1 + u = (n + u) + 1 from by omega]
    show fh_f f m (n + u) (x + 1) (if x &&& m = x then f x s else s) = _
    rw [if_neg (h x (Nat.le_refl _) (by omega)), fh_skip n u (x + 1) s (fun z z1 z2 => h z (by omega) (by omega)), show x + 1 + n = x + (n + 1) from by omega]
theorem fh_stp {f : Nat → fh_S → fh_S} {m o : Nat} {s : fh_S} (hm : m < 1024) (ho : o < m) (hs : o &&& m = o) : fh_f f m (m + 1 - o) o s = fh_f f m (m + 1 - ((o + 1024 - m) &&& m)) ((o + 1024 - m) &&& m) (f o s) := by
  obtain ⟨y1, y2, y3, y4⟩ := fh_nx hm ho hs
  generalize (o + 1024 - m) &&& m = y at y1 y2 y3 y4 ⊢
  rw [show m + 1 - o = ((y - (o + 1)) + (m + 1 - y)) + 1 from by omega]
  show fh_f f m ((y - (o + 1)) + (m + 1 - y)) (o + 1) (if o &&& m = o then f o s else s) = _
  rw [if_pos hs, fh_skip _ _ _ _ (fun z z1 z2 => y4 z (by omega) (by omega)), show o + 1 + (y - (o + 1)) = y from by omega]
theorem fh_end {f : Nat → fh_S → fh_S} {m : Nat} {s : fh_S} : fh_f f m (m + 1 - m) m s = f m s := by
  rw [show m + 1 - m = 0 + 1 from by omega]
  show (if m &&& m = m then f m s else s) = _
  rw [if_pos (Nat.and_self _)]
end
