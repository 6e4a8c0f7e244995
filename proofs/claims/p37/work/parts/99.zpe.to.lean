section
-- 99.zpe
/-! ===== all that is told is alike ===== -/
def fu_M (h : kc_H) (i o f : Nat) : Prop := h 262 i = .inl (kp_b false) ∨ ∃ B, fu_C B o h ∧ fu_R B 261 f h
theorem fu_Meq {h h' : kc_H} {i o f : Nat} (k : h' 262 i = h 262 i) (e1 : ∀ c j, o ≤ c → c < o + 31 → h' c j = h c j) (e2 : ∀ j, f ≤ j → j < f + 650 → h' 261 j = h 261 j) (hM : fu_M h i o f) : fu_M h' i o f := by
  rcases hM with b | ⟨B, b1, b2⟩
  · exact Or.inl (k.trans b)
  · exact Or.inr ⟨B, fu_Ceq e1 b1, fu_Req e2 b2⟩
/-- an IMAGE is alike, if it is kept -/
def fu_I (h : kc_H) : Prop := kd_wt kd_ty h ∧ (∃ B, fu_C B 1 h ∧ fu_B B h) ∧ fu_M h 0 64 0 ∧ fu_M h 1 95 650 ∧ (∀ i, i < 2 → h 126 i = h 262 i) ∧ kI h 260 0 ∧ kI h 261 0 ∧ kI h 261 650
theorem fu_now {h h' : kc_H} (hI : fu_I h) (hw : kd_wt kd_ty h') (hB : ∃ B, fu_C B 1 h' ∧ fu_B B h') (e1 : ∀ c i, 63 ≤ c → c ≤ 126 → h' c i = h c i) (e2 : ∀ c i, c = 261 ∨ c = 262 → h' c i = h c i) (hL : kI h' 260 0) : fu_I h' := by
  obtain ⟨-, -, b1, b3, b5, -, b6, b7⟩ := hI
  refine ⟨hw, hB, fu_Meq (e2 262 0 (Or.inr rfl)) (fun c i c1 c2 => e1 c i (by omega) (by omega)) (fun i _ _ => e2 261 i (Or.inl rfl)) b1, fu_Meq (e2 262 1 (Or.inr rfl)) (fun c i c1 c2 => e1 c i (by omega) (by omega)) (fun i _ _ => e2 261 i (Or.inl rfl)) b3, fun i hi => ?_, hL, ?_, ?_⟩
  · rw [e1 126 i (by decide) (by decide), e2 262 i (Or.inr rfl)]
    exact b5 i hi
  · exact kI_eq (e2 261 _ (Or.inl rfl)) (fun i _ => e2 261 _ (Or.inl rfl)) b6
  · exact kI_eq (e2 261 _ (Or.inl rfl)) (fun i _ => e2 261 _ (Or.inl rfl)) b7
theorem fu_rw_i : ∀ {l : List (Nat × Int32)} {h : kc_H} {i : Nat}, (∀ q ∈ l, ¬ q.1 = i) → fu_rw l h 260 i = h 260 i
  | [], _, _, _ => rfl
  | q :: l, h, i, hl => (fu_rw_i (l := l) (fun r hr => hl r (List.mem_cons_of_mem _ hr))).trans (fu_ne (fun k => hl q List.mem_cons_self k.2.symm))
/-- the places of THE LINE are left alone -/
def fu_sd (l : List (Nat × Int32)) : Prop := ∀ q ∈ l, ¬ q.1 = 3 ∧ ¬ (150 ≤ q.1 ∧ q.1 < 155)
theorem fu_sd_nil : fu_sd [] := fun q h => by cases h
theorem fu_sd_cons {j : Nat} {v : Int32} {l : List (Nat × Int32)} (h1 : ¬ j = 3 ∧ ¬ (150 ≤ j ∧ j < 155)) (h : fu_sd l) : fu_sd ((j, v) :: l) := fun q hq => by
  rcases List.mem_cons.mp hq with rfl | hq
  · exact h1
  · exact h q hq
theorem fu_kI {l : List (Nat × Int32)} {h : kc_H} (gd : fu_gd l) (hs : fu_sd l) (hL : kI h 260 0) : kI (fu_rw l (fu_cw 1 l h)) 260 0 := by
  refine kI_eq ?_ (fun i hi => ?_) hL
  · rw [fu_rw_i (fun q hq e => (hs q hq).1 (by omega)), fu_cw_o gd (by omega)]
  · rw [fu_rw_i (fun q hq e => (hs q hq).2 (by omega)), fu_cw_o gd (by omega)]
theorem fu_s_door {B : Nat → Int32} (hB : fu_BT B) : fu_sd (fu_door B).2 := by
  obtain ⟨D, D5, eD⟩ := fu_n0 hB
  unfold fu_door
  rw [eD, kx_ti (by omega)]
  split
  · rw [← Int32.ofNat_add]
    exact fu_sd_cons (by omega) fu_sd_nil
  · exact fu_sd_nil
theorem fu_s_way {B : Nat → Int32} {a b c : Int32} (hB : fu_BT B) : fu_sd (fu_way B a b c).2 := by
  obtain ⟨D, D5, eD⟩ := fu_n0 hB
  unfold fu_way
  split
  · rename_i e
    simp only [Bool.and_eq_true] at e
    obtain ⟨e1, e2, -, e4⟩ := e
    rw [eD, kx_ti (by omega)] at e1 e2
    obtain ⟨x, x5, rfl, -⟩ := fu_in_n (u := 5) e1 (by omega) (by omega)
    obtain ⟨y, y5, rfl, -⟩ := fu_in_n (u := 5) e2 (by omega) (by omega)
    have e4 := fu_in_t e4
    rw [fu_tn (by omega), fu_tn (by omega)]
    have hx : x < 6 := by omega
    have hy : y < 6 := by omega
    exact fu_sd_cons (by omega) (fu_sd_cons (by omega) fu_sd_nil)
  · exact fu_sd_nil
theorem fu_s_ford {B : Nat → Int32} {a : Int32} (hB : fu_BT B) : fu_sd (fu_ford B a).2 := by
  obtain ⟨D, D5, eD⟩ := fu_n0 hB
  unfold fu_ford
  split
  · rename_i e1
    rw [eD, kx_ti (by omega)] at e1
    obtain ⟨x, x5, rfl, -⟩ := fu_in_n (u := 5) e1 (by omega) (by omega)
    rw [fu_tn (by omega)]
    have hx : x < 6 := by omega
    split
    · exact fu_sd_nil
    · exact fu_sd_cons (by omega) fu_sd_nil
  · exact fu_sd_nil
theorem fu_s_stones {B : Nat → Int32} {a b : Int32} (hB : fu_BT B) : fu_sd (fu_stones B a b).2 := by
  obtain ⟨D, D5, eD⟩ := fu_n0 hB
  unfold fu_stones
  split
  · rename_i e
    simp only [Bool.and_eq_true] at e
    obtain ⟨e1, e2⟩ := e
    rw [eD, kx_ti (by omega)] at e1
    obtain ⟨x, x5, rfl, -⟩ := fu_in_n (u := 5) e1 (by omega) (by omega)
    have e2 := fu_in_t e2
    rw [fu_tn (by omega)]
    have hx : x < 6 := by omega
    exact fu_sd_cons (by omega) fu_sd_nil
  · exact fu_sd_nil
theorem fu_s_mule {B : Nat → Int32} {a b c : Int32} (hB : fu_BT B) : fu_sd (fu_mule B a b c).2 := by
  obtain ⟨M, M3, eM⟩ := fu_n1 hB
  unfold fu_mule
  split
  · rename_i e
    simp only [Bool.and_eq_true] at e
    obtain ⟨e1, e2, e3⟩ := e
    have e1 := fu_in_t e1
    have e2 := fu_in_t e2
    have e3 := fu_in_t e3
    rw [eM, kx_ti (by omega)]
    split
    · rw [← Int32.ofNat_add]
      have hm : M < 3 := by omega
      obtain ⟨f0, f1, f2, f3, f4, f5⟩ := fu_fmu M hm
      rw [Int.toNat_natCast]
      exact fu_sd_cons (by omega) (fu_sd_cons (by omega) (fu_sd_cons (by omega) (fu_sd_cons (by omega) (fu_sd_cons (by omega) (fu_sd_cons (by omega) fu_sd_nil)))))
    · exact fu_sd_nil
  · exact fu_sd_nil
theorem fu_s_lame {B : Nat → Int32} {a b c : Int32} (hB : fu_BT B) : fu_sd (fu_lame B a b c).2 := by
  obtain ⟨M, M3, eM⟩ := fu_n1 hB
  unfold fu_lame
  split
  · rename_i e
    simp only [Bool.and_eq_true] at e
    obtain ⟨e1, e2, e3⟩ := e
    rw [eM, kx_ti (by omega)] at e1
    obtain ⟨x, x5, rfl, x6, x7⟩ := fu_in_n (u := 3) e1 (by omega) (by omega)
    obtain ⟨y, y5, rfl, -⟩ := fu_in_n (u := 1) e2 (by omega) (by omega)
    have e3 := fu_in_t e3
    rw [fu_tn (by omega), fu_tn (by omega)]
    have hm : x < 3 := by omega
    obtain ⟨f0, -, -, -, f4, f5⟩ := fu_fmu x hm
    rcases (show y = 0 ∨ y = 1 by omega) with rfl | rfl
    · exact fu_sd_cons (by omega) fu_sd_nil
    · exact fu_sd_cons (by omega) fu_sd_nil
  · exact fu_sd_nil
theorem fu_s_load {B : Nat → Int32} {a b c e : Int32} (hB : fu_BT B) : fu_sd (fu_load B a b c e).2 := by
  obtain ⟨D, D5, eD⟩ := fu_n0 hB
  obtain ⟨L, L10, eL⟩ := fu_n2 hB
  unfold fu_load
  split
  · rename_i q
    simp only [Bool.and_eq_true] at q
    obtain ⟨e1, e2, e3, e4, -⟩ := q
    rw [eD, kx_ti (by omega)] at e3 e4
    have e1 := fu_in_t e1
    have e2 := fu_in_t e2
    have e3 := fu_in_t e3
    have e4 := fu_in_t e4
    rw [eL, kx_ti (by omega)]
    split
    · rw [← Int32.ofNat_add]
      have hm : L < 10 := by omega
      obtain ⟨f0, f1, f2, f3, f4, f5, f6, f7⟩ := fu_flo L hm
      rw [Int.toNat_natCast]
      exact fu_sd_cons (by omega) (fu_sd_cons (by omega) (fu_sd_cons (by omega) (fu_sd_cons (by omega) (fu_sd_cons (by omega) (fu_sd_cons (by omega) (fu_sd_cons (by omega) (fu_sd_cons (by omega) fu_sd_nil)))))))
    · exact fu_sd_nil
  · exact fu_sd_nil
theorem fu_s_ask {B : Nat → Int32} {a b : Int32} (hB : fu_BT B) : fu_sd (fu_ofl B 4 100 a b).2 := by
  obtain ⟨L, L10, eL⟩ := fu_n2 hB
  unfold fu_ofl
  split
  · rename_i e
    simp only [Bool.and_eq_true] at e
    obtain ⟨e1, e2⟩ := e
    rw [eL, kx_ti (by omega)] at e1
    obtain ⟨x, x5, rfl, x6, x7⟩ := fu_in_n (u := 10) e1 (by omega) (by omega)
    have e2 := fu_in_t e2
    rw [fu_tn (by omega)]
    have hm : x < 10 := by omega
    obtain ⟨f0, -, -, -, -, f5, -, -⟩ := fu_flo x hm
    exact fu_sd_cons (by omega) fu_sd_nil
  · exact fu_sd_nil
theorem fu_s_drain {B : Nat → Int32} {a b : Int32} (hB : fu_BT B) : fu_sd (fu_ofl B 5 9 a b).2 := by
  obtain ⟨L, L10, eL⟩ := fu_n2 hB
  unfold fu_ofl
  split
  · rename_i e
    simp only [Bool.and_eq_true] at e
    obtain ⟨e1, e2⟩ := e
    rw [eL, kx_ti (by omega)] at e1
    obtain ⟨x, x5, rfl, x6, x7⟩ := fu_in_n (u := 10) e1 (by omega) (by omega)
    have e2 := fu_in_t e2
    rw [fu_tn (by omega)]
    have hm : x < 10 := by omega
    obtain ⟨f0, -, -, -, -, -, f6, -⟩ := fu_flo x hm
    exact fu_sd_cons (by omega) fu_sd_nil
  · exact fu_sd_nil
theorem fu_s_put {B : Nat → Int32} {a b : Int32} : fu_sd (fu_put B a b).2 := by
  unfold fu_put
  by_cases e : (fu_in a 0 1 && fu_in b 1 (if a.toInt = 0 then 20 else 9)) = true
  · rw [if_pos e]
    rw [Bool.and_eq_true] at e
    obtain ⟨e1, e2⟩ := e
    obtain ⟨x, x5, rfl, x6, x7⟩ := fu_in_n (u := 1) e1 (by omega) (by omega)
    have e2 := fu_in_t e2
    rw [fu_tn (by omega)]
    rcases (show x = 0 ∨ x = 1 by omega) with rfl | rfl
    · rw [if_pos (by decide)] at e2
      exact fu_sd_cons (by omega) fu_sd_nil
    · rw [if_neg (by decide)] at e2
      exact fu_sd_cons (by omega) fu_sd_nil
  · rw [if_neg e]
    exact fu_sd_nil
theorem fu_s_clr {B : Nat → Int32} {a : Int32} : fu_sd (fu_clr B a).2 := by
  unfold fu_clr
  split
  · rename_i e1
    obtain ⟨x, x5, rfl, x6, x7⟩ := fu_in_n (u := 1) e1 (by omega) (by omega)
    rw [fu_tn (by omega)]
    have hx : x < 2 := by omega
    exact fu_sd_cons (by omega) fu_sd_nil
  · exact fu_sd_nil
/-- a call that answers and writes as the same function tells, on both sides -/
theorem fu_both {g : kc_G} {idc idr : Nat} {av : List kc_V} {h : kc_H} {B : Nat → Int32} {S : fu_S} (hI : fu_I h) (hC : fu_C B 1 h) (hR : fu_B B h) (gd : fu_gd S.2) (c1 : kc_Con g 30 idc (.inr (.inr (.inl (some 0))) :: av) h (fun rv h' => rv = some (.inl S.1) ∧ h' = fu_cw 1 S.2 h)) (c2 : ∀ h1, kd_wt kd_ty h1 → fu_B B h1 → (∀ i, h1 260 i = h 260 i) → kc_Con g 30 idr (.inr (.inr (.inl (some 259))) :: av) h1 (fun rv h' => rv = some (.inl S.1) ∧ h' = fu_rw S.2 h1)) (hk : kI (fu_rw S.2 (fu_cw 1 S.2 h)) 260 0) : kc_Con g 30 idc (.inr (.inr (.inl (some 0))) :: av) h (fun rv h1 => ∃ z : Int32, rv = some (.inl z) ∧ kc_Con g 30 idr (.inr (.inr (.inl (some 259))) :: av) h1 (fun rv2 h2 => rv2 = some (.inl z) ∧ fu_I h2)) := by
  refine kc_Con_mono c1 (fun rv h1 hq => ?_)
  obtain ⟨rfl, rfl⟩ := hq
  have hw1 := fu_wt_c gd hI.1
  have hR1 : fu_B B (fu_cw 1 S.2 h) := fu_Beq (fun i _ => fu_cw_o gd (Or.inr (by decide))) hR
  refine ⟨S.1, rfl, kc_Con_mono (c2 _ hw1 hR1 (fun i => fu_cw_o gd (Or.inr (by decide)))) (fun rv h2 hq => ?_)⟩
  obtain ⟨rfl, rfl⟩ := hq
  exact ⟨rfl, fu_now hI (fu_wt_r gd hw1) ⟨fu_bw S.2 B, fu_Ceq (fun c i c1 c2 => fu_rw_o (by omega)) (fu_C_w gd hC), fu_B_w hR1⟩ (fun c i a b => (fu_rw_o (by omega)).trans (fu_cw_o gd (by omega))) (fun c i a => (fu_rw_o (by omega)).trans (fu_cw_o gd (by omega))) hk⟩
theorem fU_Xdoor {g : kc_G} {h : kc_H} (hg : kc_ok g) (hI : fu_I h) : kc_Con g 30 13 [.inr (.inr (.inl (some 0)))] h (fun rv h1 => ∃ z : Int32, rv = some (.inl z) ∧ kc_Con g 30 15 [.inr (.inr (.inl (some 259)))] h1 (fun rv2 h2 => rv2 = some (.inl z) ∧ fu_I h2)) := by
  obtain ⟨B, hC, hR⟩ := hI.2.1
  have hB := fu_C_T hI.1 hC
  exact fu_both hI hC hR (fu_g_door hB) (kc_Con_le (fu_cdoor (d := 0) hg hI.1 hC hB) (by decide)) (fun h1 w1 r1 _ => kc_Con_le (fu_rdoor (d := 0) hg w1 r1 hB) (by decide)) (fu_kI (fu_g_door hB) (fu_s_door hB) hI.2.2.2.2.2.1)
theorem fU_Xway {g : kc_G} {h : kc_H} {a b c : Int32} (hg : kc_ok g) (hI : fu_I h) : kc_Con g 30 16 [.inr (.inr (.inl (some 0))), .inl a, .inl b, .inl c] h (fun rv h1 => ∃ z : Int32, rv = some (.inl z) ∧ kc_Con g 30 20 [.inr (.inr (.inl (some 259))), .inl a, .inl b, .inl c] h1 (fun rv2 h2 => rv2 = some (.inl z) ∧ fu_I h2)) := by
  obtain ⟨B, hC, hR⟩ := hI.2.1
  have hB := fu_C_T hI.1 hC
  exact fu_both hI hC hR (fu_g_way hB) (kc_Con_le (fu_cway (d := 0) hg hI.1 hC hB) (by decide)) (fun h1 w1 r1 _ => kc_Con_le (fu_rway (d := 0) hg w1 r1 hB) (by decide)) (fu_kI (fu_g_way hB) (fu_s_way hB) hI.2.2.2.2.2.1)
theorem fU_Xford {g : kc_G} {h : kc_H} {a : Int32} (hg : kc_ok g) (hI : fu_I h) : kc_Con g 30 23 [.inr (.inr (.inl (some 0))), .inl a] h (fun rv h1 => ∃ z : Int32, rv = some (.inl z) ∧ kc_Con g 30 26 [.inr (.inr (.inl (some 259))), .inl a] h1 (fun rv2 h2 => rv2 = some (.inl z) ∧ fu_I h2)) := by
  obtain ⟨B, hC, hR⟩ := hI.2.1
  have hB := fu_C_T hI.1 hC
  exact fu_both hI hC hR (fu_g_ford hB) (kc_Con_le (fu_cford (d := 0) hg hI.1 hC hB) (by decide)) (fun h1 w1 r1 _ => kc_Con_le (fu_rford (d := 0) hg w1 r1 hB) (by decide)) (fu_kI (fu_g_ford hB) (fu_s_ford hB) hI.2.2.2.2.2.1)
theorem fU_Xstones {g : kc_G} {h : kc_H} {a b : Int32} (hg : kc_ok g) (hI : fu_I h) : kc_Con g 30 28 [.inr (.inr (.inl (some 0))), .inl a, .inl b] h (fun rv h1 => ∃ z : Int32, rv = some (.inl z) ∧ kc_Con g 30 30 [.inr (.inr (.inl (some 259))), .inl a, .inl b] h1 (fun rv2 h2 => rv2 = some (.inl z) ∧ fu_I h2)) := by
  obtain ⟨B, hC, hR⟩ := hI.2.1
  have hB := fu_C_T hI.1 hC
  exact fu_both hI hC hR (fu_g_stones hB) (kc_Con_le (fu_cstones (d := 0) hg hI.1 hC hB) (by decide)) (fun h1 w1 r1 _ => kc_Con_le (fu_rstones (d := 0) hg w1 r1 hB) (by decide)) (fu_kI (fu_g_stones hB) (fu_s_stones hB) hI.2.2.2.2.2.1)
theorem fU_Xmule {g : kc_G} {h : kc_H} {a b c : Int32} (hg : kc_ok g) (hI : fu_I h) : kc_Con g 30 32 [.inr (.inr (.inl (some 0))), .inl a, .inl b, .inl c] h (fun rv h1 => ∃ z : Int32, rv = some (.inl z) ∧ kc_Con g 30 34 [.inr (.inr (.inl (some 259))), .inl a, .inl b, .inl c] h1 (fun rv2 h2 => rv2 = some (.inl z) ∧ fu_I h2)) := by
  obtain ⟨B, hC, hR⟩ := hI.2.1
  have hB := fu_C_T hI.1 hC
  exact fu_both hI hC hR (fu_g_mule hB) (kc_Con_le (fu_cmule (d := 0) hg hI.1 hC hB) (by decide)) (fun h1 w1 r1 _ => kc_Con_le (fu_rmule (d := 0) hg w1 r1 hB) (by decide)) (fu_kI (fu_g_mule hB) (fu_s_mule hB) hI.2.2.2.2.2.1)
theorem fU_Xlame {g : kc_G} {h : kc_H} {a b c : Int32} (hg : kc_ok g) (hI : fu_I h) : kc_Con g 30 35 [.inr (.inr (.inl (some 0))), .inl a, .inl b, .inl c] h (fun rv h1 => ∃ z : Int32, rv = some (.inl z) ∧ kc_Con g 30 39 [.inr (.inr (.inl (some 259))), .inl a, .inl b, .inl c] h1 (fun rv2 h2 => rv2 = some (.inl z) ∧ fu_I h2)) := by
  obtain ⟨B, hC, hR⟩ := hI.2.1
  have hB := fu_C_T hI.1 hC
  exact fu_both hI hC hR (fu_g_lame hB) (kc_Con_le (fu_clame (d := 0) hg hI.1 hC hB) (by decide)) (fun h1 w1 r1 _ => kc_Con_le (fu_rlame (d := 0) hg w1 r1 hB) (by decide)) (fu_kI (fu_g_lame hB) (fu_s_lame hB) hI.2.2.2.2.2.1)
theorem fU_Xload {g : kc_G} {h : kc_H} {a b c e : Int32} (hg : kc_ok g) (hI : fu_I h) : kc_Con g 30 41 [.inr (.inr (.inl (some 0))), .inl a, .inl b, .inl c, .inl e] h (fun rv h1 => ∃ z : Int32, rv = some (.inl z) ∧ kc_Con g 30 43 [.inr (.inr (.inl (some 259))), .inl a, .inl b, .inl c, .inl e] h1 (fun rv2 h2 => rv2 = some (.inl z) ∧ fu_I h2)) := by
  obtain ⟨B, hC, hR⟩ := hI.2.1
  have hB := fu_C_T hI.1 hC
  exact fu_both hI hC hR (fu_g_load hB) (kc_Con_le (fu_cload (d := 0) hg hI.1 hC hB) (by decide)) (fun h1 w1 r1 _ => kc_Con_le (fu_rload (d := 0) hg w1 r1 hB) (by decide)) (fu_kI (fu_g_load hB) (fu_s_load hB) hI.2.2.2.2.2.1)
theorem fU_Xask {g : kc_G} {h : kc_H} {a b : Int32} (hg : kc_ok g) (hI : fu_I h) : kc_Con g 30 44 [.inr (.inr (.inl (some 0))), .inl a, .inl b] h (fun rv h1 => ∃ z : Int32, rv = some (.inl z) ∧ kc_Con g 30 47 [.inr (.inr (.inl (some 259))), .inl a, .inl b] h1 (fun rv2 h2 => rv2 = some (.inl z) ∧ fu_I h2)) := by
  obtain ⟨B, hC, hR⟩ := hI.2.1
  have hB := fu_C_T hI.1 hC
  exact fu_both hI hC hR (fu_g_ask hB) (kc_Con_le (fu_cask (d := 0) hg hI.1 hC hB) (by decide)) (fun h1 w1 r1 _ => kc_Con_le (fu_rask (d := 0) hg w1 r1 hB) (by decide)) (fu_kI (fu_g_ask hB) (fu_s_ask hB) hI.2.2.2.2.2.1)
theorem fU_Xdrain {g : kc_G} {h : kc_H} {a b : Int32} (hg : kc_ok g) (hI : fu_I h) : kc_Con g 30 49 [.inr (.inr (.inl (some 0))), .inl a, .inl b] h (fun rv h1 => ∃ z : Int32, rv = some (.inl z) ∧ kc_Con g 30 50 [.inr (.inr (.inl (some 259))), .inl a, .inl b] h1 (fun rv2 h2 => rv2 = some (.inl z) ∧ fu_I h2)) := by
  obtain ⟨B, hC, hR⟩ := hI.2.1
  have hB := fu_C_T hI.1 hC
  exact fu_both hI hC hR (fu_g_drain hB) (kc_Con_le (fu_cdrain (d := 0) hg hI.1 hC hB) (by decide)) (fun h1 w1 r1 _ => kc_Con_le (fu_rdrain (d := 0) hg w1 r1 hB) (by decide)) (fu_kI (fu_g_drain hB) (fu_s_drain hB) hI.2.2.2.2.2.1)
theorem fU_Xput {g : kc_G} {h : kc_H} {a b : Int32} (hg : kc_ok g) (hI : fu_I h) : kc_Con g 30 51 [.inr (.inr (.inl (some 0))), .inl a, .inl b] h (fun rv h1 => ∃ z : Int32, rv = some (.inl z) ∧ kc_Con g 30 53 [.inr (.inr (.inl (some 259))), .inl a, .inl b] h1 (fun rv2 h2 => rv2 = some (.inl z) ∧ fu_I h2)) := by
  obtain ⟨B, hC, hR⟩ := hI.2.1
  have hB := fu_C_T hI.1 hC
  exact fu_both hI hC hR (fu_g_put) (kc_Con_le (fu_cput (d := 0) hg hI.1 hC hB) (by decide)) (fun h1 w1 r1 _ => kc_Con_le (fu_rput (d := 0) hg w1 r1 hB) (by decide)) (fu_kI (fu_g_put) (fu_s_put) hI.2.2.2.2.2.1)
theorem fU_Xclear {g : kc_G} {h : kc_H} {a : Int32} (hg : kc_ok g) (hI : fu_I h) : kc_Con g 30 58 [.inr (.inr (.inl (some 0))), .inl a] h (fun rv h1 => ∃ z : Int32, rv = some (.inl z) ∧ kc_Con g 30 59 [.inr (.inr (.inl (some 259))), .inl a] h1 (fun rv2 h2 => rv2 = some (.inl z) ∧ fu_I h2)) := by
  obtain ⟨B, hC, hR⟩ := hI.2.1
  have hB := fu_C_T hI.1 hC
  exact fu_both hI hC hR (fu_g_clr) (kc_Con_le (fu_c58 (d := 0) hg hI.1 hC hB) (by decide)) (fun h1 w1 r1 _ => kc_Con_le (fu_rclr (d := 0) hg w1 r1 hB) (by decide)) (fu_kI (fu_g_clr) (fu_s_clr) hI.2.2.2.2.2.1)
theorem fU_Xunline {g : kc_G} {h : kc_H} (hg : kc_ok g) (hI : fu_I h) : kc_Con g 30 95 [.inr (.inr (.inl (some 0)))] h (fun rv h1 => ∃ z : Int32, rv = some (.inl z) ∧ kc_Con g 30 96 [.inr (.inr (.inl (some 259)))] h1 (fun rv2 h2 => rv2 = some (.inl z) ∧ fu_I h2)) := by
  obtain ⟨B, hC, hR⟩ := hI.2.1
  have hB := fu_C_T hI.1 hC
  refine fu_both (S := fu_unl B) hI hC hR fu_g_unl (kc_Con_le (fu_c95 (d := 0) hg hI.1 hC hB) (by decide)) (fun h1 w1 r1 _ => kc_Con_le (fu_runl (d := 0) hg w1 r1 hB) (by decide)) ⟨0, fun _ => 0, by decide, ?_, fun i hi => absurd hi (by omega), fun i j _ hj => absurd hj (by omega)⟩
  show kc_upd (fu_cw 1 (fu_unl B).2 h) 260 3 (.inl (Int32.ofNat 0)) 260 3 = .inl (Int32.ofNat 0)
  exact fu_eq
theorem fu_n4 {n : Nat} {l : Nat → Nat} {dd : Nat} (n5 : n ≤ 5) (hdd : 1 ≤ dd ∧ dd ≤ 5) (hl5 : ∀ i, i < 5 → l i ≤ 5) (hl1 : ∀ i, i < n → 1 ≤ l i) (hdist : ∀ i j, i < j → j < n → ¬ l i = l j) (hno : ∀ i, i < n → ¬ l i = dd) : n < 5 := by
  by_cases q : n < 5
  · exact q
  · exfalso
    have hn5 : n = 5 := by omega
    have := kl_pig 5 6 (fun i => (if i < 5 then l i else dd) - 1) (fun i hi => by
      show (if i < 5 then l i else dd) - 1 < 5
      split
      · have := hl5 i (by omega); omega
      · omega) (fun i j hij hj => by
      show ¬ (if i < 5 then l i else dd) - 1 = (if j < 5 then l j else dd) - 1
      rw [if_pos (by omega)]
      have a := hl1 i (by omega)
      split
      · have b := hl1 j (by omega)
        have c := hdist i j hij (by omega)
        omega
      · have c := hno i (by omega)
        omega)
    omega
theorem fu_iN {a b : Nat} (ha : a < 2147483648) (hb : b < 2147483648) (h : (.inl (Int32.ofNat a) : kc_V) = .inl (Int32.ofNat b)) : a = b := by
  have e : (Int32.ofNat a).toInt = (Int32.ofNat b).toInt := by rw [Sum.inl.inj h]
  rw [kx_ti ha, kx_ti hb] at e
  omega
/-- kI in numbers that are there -/
theorem fu_kI4 {h : kc_H} {n : Nat} {l : Nat → Nat} {dd : Nat} (hL : kI h 260 0) (n5 : n ≤ 5) (en : h 260 3 = .inl (Int32.ofNat n)) (hl5 : ∀ i, i < 5 → l i ≤ 5) (ha : ∀ i, i < 5 → h 260 (150 + i) = .inl (Int32.ofNat (l i))) (hdd : 1 ≤ dd ∧ dd ≤ 5) : (∀ i, i < n → 1 ≤ l i) ∧ (∀ i j, i < j → j < n → ¬ l i = l j) := by
  obtain ⟨n2, l2, a1, a2, a3, a4⟩ := hL
  rw [Nat.zero_add, en] at a2
  obtain rfl := fu_iN (by omega) (by omega) a2
  have hl : ∀ i, i < n → l i = l2 i := fun i hi => by
    have e := (a3 i hi).2.2
    rw [Nat.zero_add, ha i (by omega)] at e
    have := hl5 i (by omega)
    have := (a3 i hi).2.1
    exact fu_iN (by omega) (by omega) e
  exact ⟨fun i hi => by rw [hl i hi]; exact (a3 i hi).1, fun i j hij hj => by rw [hl i (by omega), hl j hj]; exact a4 i j hij hj⟩
theorem fu_rw2b {a b : Nat} {v w : Int32} {X : kc_H} : fu_rw [(a, v), (b, w)] X 260 b = .inl w := by
  show kc_upd (kc_upd X 260 a (.inl v)) 260 b (.inl w) 260 b = .inl w
  exact fu_eq
theorem fu_rw2a {a b : Nat} {v w : Int32} {X : kc_H} (h : ¬ a = b) : fu_rw [(a, v), (b, w)] X 260 a = .inl v := by
  show kc_upd (kc_upd X 260 a (.inl v)) 260 b (.inl w) 260 a = .inl v
  exact (fu_ne (fun q => h q.2)).trans fu_eq
theorem fu_kIl {h : kc_H} {B : Nat → Int32} {a : Int32} (hL : kI h 260 0) (hR : fu_B B h) (hB : fu_BT B) : kI (fu_rw (fu_line B a).2 (fu_cw 1 (fu_line B a).2 h)) 260 0 := by
  obtain ⟨D, D5, eD⟩ := fu_n0 hB
  obtain ⟨n, n5, en⟩ := fu_n3 hB
  have gd := fu_g_line (a := a) hB
  by_cases c1 : fu_in a 1 (B 0).toInt = true
  · by_cases c2 : fu_il B a n = true
    · have key : fu_line B a = (Int32.ofInt (-3), []) := by unfold fu_line; rw [if_pos c1, en, kx_ti (by omega), Int.toNat_natCast, if_pos c2]
      rw [key]
      exact hL
    · by_cases c3 : n < 5
      · have key : fu_line B a = (Int32.ofNat (n + 1), [(150 + n, a), (3, Int32.ofNat (n + 1))]) := by unfold fu_line; rw [if_pos c1, en, kx_ti (by omega), Int.toNat_natCast, if_neg c2, if_pos (show (n : Int) < 5 by omega), kx_inc1]
        have q1 := c1
        rw [eD, kx_ti (by omega)] at q1
        obtain ⟨dd, dd5, rfl, d1, d2⟩ := fu_in_n (u := 5) q1 (by omega) (by omega)
        obtain ⟨n2, l, a1, a2, a3, a4⟩ := id hL
        have e3 : h 260 3 = .inl (Int32.ofNat n) := by rw [hR 3 (by decide) (by decide), en]
        rw [Nat.zero_add, e3] at a2
        obtain rfl := fu_iN (by omega) (by omega) a2
        have hne : ∀ i, i < n → ¬ l i = dd := fun i hi e => by
          have q := (a3 i hi).2.2
          rw [Nat.zero_add, hR (150 + i) (by omega) (fu_fli i (by omega)).2.1] at q
          have q := Sum.inl.inj q
          exact fu_il_f (Bool.eq_false_iff.mpr c2) hi (by rw [q, e])
        have gd2 := gd
        rw [key] at gd2
        have hm : ∀ i, ¬ i = 3 → ¬ i = 150 + n → (fu_rw (fu_line B (Int32.ofNat dd)).2 (fu_cw 1 (fu_line B (Int32.ofNat dd)).2 h)) 260 i = h 260 i := fun i i1 i2 => by
          rw [key, fu_rw_i (fun q hq => ?_), fu_cw_o gd2 (Or.inr (by decide))]
          simp only [List.mem_cons, List.not_mem_nil, or_false] at hq
          rcases hq with rfl | rfl
          · exact fun q => i2 q.symm
          · exact fun q => i1 q.symm
        refine ⟨n + 1, fun i => if i = n then dd else l i, by omega, ?_, fun i hi => ?_, fun i j hij hj => ?_⟩
        · rw [key]
          exact fu_rw2b
        · by_cases e : i = n
          · subst e
            refine ⟨by show 1 ≤ (if i = i then dd else l i); rw [if_pos rfl]; omega, by show (if i = i then dd else l i) ≤ 5; rw [if_pos rfl]; omega, ?_⟩
            show _ = (Sum.inl (Int32.ofNat (if i = i then dd else l i)) : kc_V)
            rw [if_pos rfl, key, Nat.zero_add]
            exact fu_rw2a (by omega)
          · refine ⟨by show 1 ≤ (if i = n then dd else l i); rw [if_neg e]; exact (a3 i (by omega)).1, by show (if i = n then dd else l i) ≤ 5; rw [if_neg e]; exact (a3 i (by omega)).2.1, ?_⟩
            show _ = (Sum.inl (Int32.ofNat (if i = n then dd else l i)) : kc_V)
            rw [if_neg e, hm _ (by omega) (by omega)]
            exact (a3 i (by omega)).2.2
        · show ¬ (if i = n then dd else l i) = (if j = n then dd else l j)
          rw [if_neg (by omega)]
          by_cases e : j = n
          · rw [if_pos e]
            exact hne i (by omega)
          · rw [if_neg e]
            exact a4 i j hij (by omega)
      · have key : fu_line B a = (Int32.ofInt (-3), []) := by unfold fu_line; rw [if_pos c1, en, kx_ti (by omega), Int.toNat_natCast, if_neg c2, if_neg (show ¬ (n : Int) < 5 by omega)]
        rw [key]
        exact hL
  · have key : fu_line B a = (Int32.ofInt (-2), []) := by unfold fu_line; rw [if_neg c1]
    rw [key]
    exact hL
theorem fU_Xline {g : kc_G} {h : kc_H} {a : Int32} (hg : kc_ok g) (hI : fu_I h) : kc_Con g 30 93 [.inr (.inr (.inl (some 0))), .inl a] h (fun rv h1 => ∃ z : Int32, rv = some (.inl z) ∧ kc_Con g 30 94 [.inr (.inr (.inl (some 259))), .inl a] h1 (fun rv2 h2 => rv2 = some (.inl z) ∧ fu_I h2)) := by
  obtain ⟨B, hC, hR⟩ := hI.2.1
  have hB := fu_C_T hI.1 hC
  refine fu_both (S := fu_line B a) hI hC hR (fu_g_line hB) (kc_Con_le (fu_cline (d := 0) hg hI.1 hC hB) (by decide)) (fun h1 w1 r1 e1 => kc_Con_le (fu_rline (d := 0) hg w1 r1 hB (fun n l dd n5 en hl5 ha d1 d2 hno => ?_)) (by decide)) (fu_kIl hI.2.2.2.2.2.1 hR hB)
  obtain ⟨b1, b2⟩ := fu_kI4 (dd := dd) hI.2.2.2.2.2.1 n5 (by rw [hR 3 (by decide) (by decide), en]) hl5 (fun i hi => by rw [← e1]; exact ha i hi) (by omega)
  exact fu_n4 n5 (by omega) hl5 b1 b2 hno
theorem fU_Xcount {g : kc_G} {h : kc_H} {a : Int32} (hg : kc_ok g) (hI : fu_I h) : kc_Con g 30 161 [.inr (.inr (.inl (some 0))), .inl a] h (fun rv h1 => ∃ z : Int32, rv = some (.inl z) ∧ kc_Con g 30 163 [.inr (.inr (.inl (some 259))), .inl a] h1 (fun rv2 h2 => rv2 = some (.inl z) ∧ fu_I h2)) := by
  obtain ⟨B, hC, hR⟩ := hI.2.1
  exact fu_both (S := (fu_cnt B a, [])) hI hC hR fu_gd_nil (kc_Con_le (fu_ccnt (d := 0) hg hI.1 hC) (by decide)) (fun h1 w1 r1 _ => kc_Con_le (fu_rcnt (d := 0) hg w1 r1) (by decide)) hI.2.2.2.2.2.1
end
section
-- 99.zpf
/-! ===== type, image, from, day: all told alike ===== -/
def fu_tyB (B : Nat → Int32) (x n : Nat) (c : Nat) (v : Int64) : Nat → Int32 := fun j => if j = 160 + x then Int32.ofNat (c + n) else if 170 + 240 * x + c ≤ j ∧ j < 170 + 240 * x + c + n then kq_c v (n - 1 - (j - (170 + 240 * x + c))) else B j
theorem fu_pcx : ∀ j, j < 650 → (!(fu_t j) || ((Nat.blt j 160 || (Nat.beq j 160 || (Nat.beq j 161 || Nat.ble 170 j))) && ((!(Nat.beq (fu_p j).1 30) || (Nat.beq j (160 + (fu_p j).2))) && (!(Nat.beq (fu_p j).1 28 || Nat.beq (fu_p j).1 29) || (Nat.beq j (170 + 240 * ((fu_p j).1 - 28) + (fu_p j).2) && Nat.blt (fu_p j).2 240))))) = true := by decide +kernel
theorem fu_pc {j : Nat} (hj : j < 650) (ht : fu_t j = true) : ((fu_p j).1 = 30 → j = 160 + (fu_p j).2) ∧ ((fu_p j).1 = 28 ∨ (fu_p j).1 = 29 → j = 170 + 240 * ((fu_p j).1 - 28) + (fu_p j).2 ∧ (fu_p j).2 < 240) := by
  have h := fu_pcx j hj
  rw [ht] at h
  simp only [Bool.not_true, Bool.false_or, Bool.and_eq_true] at h
  obtain ⟨-, h1, h2⟩ := h
  refine ⟨fun e => ?_, fun e => ?_⟩
  · rw [e] at h1
    exact Nat.eq_of_beq_eq_true h1
  · rcases e with e | e <;> rw [e] at h2 <;> simp only [Nat.beq_refl, Bool.true_or, Bool.or_true, Bool.not_true, Bool.false_or, Bool.and_eq_true] at h2
    · rw [e]
      exact ⟨Nat.eq_of_beq_eq_true h2.1, Nat.le_of_ble_eq_true h2.2⟩
    · rw [e]
      exact ⟨Nat.eq_of_beq_eq_true h2.1, Nat.le_of_ble_eq_true h2.2⟩
theorem fu_tyc_C {B : Nat → Int32} {h : kc_H} {x n c : Nat} {v : Int64} (hx : x < 2) (hcn : c + n ≤ 240) (hC : fu_C B 1 h) : fu_C (fu_tyB B x n c v) 1 (kq_F h (29 + x) 0 31 x c (kq_c v) n n) := fun j hj ht => by
  obtain ⟨p1, p2⟩ := fu_pc hj ht
  unfold fu_tyB
  by_cases e1 : j = 160 + x
  · subst e1
    rw [if_pos rfl, (fu_fby x hx).1]
    exact kq_b
  · rw [if_neg e1]
    by_cases e2 : 170 + 240 * x + c ≤ j ∧ j < 170 + 240 * x + c + n
    · rw [if_pos e2]
      obtain ⟨k, rfl, k2⟩ : ∃ k, j = 170 + 240 * x + k ∧ k < 240 := ⟨j - (170 + 240 * x), by omega, by omega⟩
      rw [(fu_ftx x hx k k2).1]
      unfold kq_F
      rw [if_neg (by show ¬ (1 + (28 + x) = 31 ∧ k = x); omega), if_pos (by show 1 + (28 + x) = 29 + x ∧ _; omega), show k - (0 + c) = 170 + 240 * x + k - (170 + 240 * x + c) from by omega]
    · rw [if_neg e2, kq_o (by
        by_cases q : 1 + (fu_p j).1 = 31
        · have := p1 (by omega)
          exact Or.inr (fun r => by omega)
        · exact Or.inl q) (by
        by_cases q : 1 + (fu_p j).1 = 29 + x
        · have := p2 (by omega)
          refine Or.inr ?_
          have e3 : (fu_p j).1 - 28 = x := by omega
          rw [e3] at this
          omega
        · exact Or.inl q)]
      exact hC j hj ht
theorem fu_tyc_B {B : Nat → Int32} {h : kc_H} {x n c : Nat} {v : Int64} (hn : n ≤ 8) (hR : fu_B B h) : fu_B (fu_tyB B x n c v) (kq_F h 260 (170 + 240 * x) 260 (160 + x) c (kq_r v) n n) := fun j hj ht => by
  unfold fu_tyB
  by_cases e1 : j = 160 + x
  · subst e1
    rw [if_pos rfl]
    exact kq_b
  · rw [if_neg e1]
    by_cases e2 : 170 + 240 * x + c ≤ j ∧ j < 170 + 240 * x + c + n
    · rw [if_pos e2]
      unfold kq_F
      rw [if_neg (by omega), if_pos ⟨rfl, e2⟩, kq_eq (by omega)]
    · rw [if_neg e2, kq_o (Or.inr e1) (by omega)]
      exact hR j hj ht
theorem fU_Xtyp {g : kc_G} {h : kc_H} {x n : Nat} {v : Int64} (hg : kc_ok g) (hI : fu_I h) (hx : x < 2) (n1 : 1 ≤ n) (n8 : n ≤ 8) : kc_Con g 30 54 [.inr (.inr (.inl (some 0))), .inl (Int32.ofNat x), .inr (.inl v), .inl (Int32.ofNat n)] h (fun rv h1 => ∃ z : Int32, rv = some (.inl z) ∧ kc_Con g 30 56 [.inr (.inr (.inl (some 259))), .inl (Int32.ofNat x), .inr (.inl v), .inl (Int32.ofNat n)] h1 (fun rv2 h2 => rv2 = some (.inl z) ∧ fu_I h2)) := by
  obtain ⟨B, hC, hR⟩ := hI.2.1
  have hB := fu_C_T hI.1 hC
  obtain ⟨c, c1, ec⟩ := fu_nat (by decide) (fu_fby x hx).2.2 (hB (160 + x) (by omega) (fu_fby x hx).2.1)
  have hc : h 31 x = .inl (Int32.ofNat c) := (fu_Cj (c := 30) hC (by omega) (fu_fby x hx).2.1 (fu_fby x hx).1).trans (by rw [ec])
  refine kc_Con_mono (kc_Con_le (fq_54 (d := 0) (v := v) hg (kx_ofr (hI.1 _ _ _ kv_k0.1)) hx (kx_ofr (hI.1 _ _ _ kr_k1.1)) (kx_ofr (hI.1 _ _ _ kr_k1.2.1)) (kx_ofr (hI.1 _ _ _ (ku_kt.2.1 x hx))) hc n1 n8 c1) (by decide)) (fun rv h1 hq => ?_)
  rcases hq with ⟨q1, rfl, rfl⟩ | ⟨q1, rfl, rfl⟩
  · have hw1 : kd_wt kd_ty (kq_F h (29 + x) 0 31 x c (kq_c v) n n) := ku_Fwt hI.1 n8 q1 (fun i _ => ku_clt v i) (ku_kt.1 x hx) (fun j hj => by rw [Nat.zero_add]; exact ku_kt.2.2 x hx j hj)
    have e1 : ∀ a b, ¬ a = 31 → ¬ a = 29 + x → kq_F h (29 + x) 0 31 x c (kq_c v) n n a b = h a b := fun a b p1 p2 => kq_o (Or.inl p1) (Or.inl p2)
    have hR1 : fu_B B (kq_F h (29 + x) 0 31 x c (kq_c v) n n) := fu_Beq (fun i _ => e1 260 i (by decide) (by omega)) hR
    have hC1 := fu_tyc_C (v := v) hx q1 hC
    generalize hh : kq_F h (29 + x) 0 31 x c (kq_c v) n n = h1 at hw1 e1 hR1 hC1
    refine ⟨_, rfl, kc_Con_mono (kc_Con_le (fq_56 (d := 0) (c := c) (v := v) hg hx (kx_ofr (hw1 _ _ _ kz_k.1)) ((hR1 (160 + x) (by omega) (fu_fby x hx).2.1).trans (by rw [ec])) n1 n8 c1) (by decide)) (fun rv h2 hq => ?_)⟩
    rcases hq with ⟨q2, rfl, rfl⟩ | ⟨q2, -, -⟩
    · have e2 : ∀ a b, ¬ a = 260 → kq_F h1 260 (170 + 240 * x) 260 (160 + x) c (kq_r v) n n a b = h1 a b := fun a b p1 => kq_o (Or.inl p1) (Or.inl p1)
      have e3 : ∀ b, b < 160 → kq_F h1 260 (170 + 240 * x) 260 (160 + x) c (kq_r v) n n 260 b = h 260 b := fun b p1 => (kq_o (Or.inr (by omega)) (Or.inr (Or.inl (by omega)))).trans (e1 260 b (by decide) (by omega))
      refine ⟨rfl, fu_now hI (ku_Fwt hw1 n8 q2 (fun i hi => ku_rlt v hi) (km_k260.1 x hx) (fun j hj => by rw [show 170 + 240 * x + j = 170 + (240 * x + j) from by omega]; exact km_k260.2 _ (by omega))) ⟨fu_tyB B x n c v, fu_Ceq (fun a b a1 a2 => e2 a b (by omega)) hC1, fu_tyc_B n8 hR1⟩ (fun a b a1 a2 => (e2 a b (by omega)).trans (e1 a b (by omega) (by omega))) (fun a b a1 => (e2 a b (by omega)).trans (e1 a b (by omega) (by omega))) (kI_eq (e3 _ (by omega)) (fun i hi => e3 _ (by omega)) hI.2.2.2.2.2.1)⟩
    · omega
  · refine ⟨_, rfl, kc_Con_mono (kc_Con_le (fq_56 (d := 0) (c := c) (v := v) hg hx (kx_ofr (hI.1 _ _ _ kz_k.1)) ((hR (160 + x) (by omega) (fu_fby x hx).2.1).trans (by rw [ec])) n1 n8 c1) (by decide)) (fun rv h2 hq => ?_)⟩
    rcases hq with ⟨q2, -, -⟩ | ⟨q2, rfl, rfl⟩
    · omega
    · exact ⟨rfl, hI⟩
/-- a refused call that an engine's contract tells -/
def fu_m2 (p : kd_P) : Bool := (match p.1, p.2.2 with
  | some (0, l, u), [] => Nat.beq l 2147483646 && Nat.beq u 2147483646
  | _, _ => false)
theorem fu_no2 {g : kc_G} {d id : Nat} {T : kd_Tc} (hh : kd_hold g d kd_ty id T) (hc : T.2.2.all fu_m2 = true) {xs : List kc_V} {h : kc_H} (hw : kd_wt kd_ty h) (hv : wk_f2 (kd_g 0 (fun _ => 0)) T.1 xs) (hF : kd_gF 0 (fun _ => 0) T.2.1 h) : kc_Con g d id xs h (fun rv h' => rv = some (.inl (Int32.ofInt (-2))) ∧ h' = h) := by
  refine kc_Con_mono (hh xs h hw hv hF) (fun rv h' hq => ?_)
  obtain ⟨p, p1, p2, -, -, p5⟩ := hq
  have hp := List.all_eq_true.mp hc p p1
  obtain ⟨r, F, V⟩ := p
  unfold fu_m2 at hp
  split at hp
  · rename_i l u e1 e2
    simp only at e1 e2
    subst e1 e2
    rw [Bool.and_eq_true] at hp
    obtain rfl := Nat.eq_of_beq_eq_true hp.1
    obtain rfl := Nat.eq_of_beq_eq_true hp.2
    cases rv with
    | none => exact p2.elim
    | some y =>
      obtain ⟨z, rfl, z1, z2⟩ := p2
      refine ⟨?_, funext fun c => funext fun i => p5 c i (fun q hq => by cases hq)⟩
      rw [show z = Int32.ofInt (-2) from Int32.toInt_inj.mp (by unfold kd_nb at z1 z2; have := kv_lo z; rw [show (Int32.ofInt (-2)).toInt = -2 from by decide]; omega)]
  · cases hp
theorem fu_pair {g : kc_G} {idc idr dc dr : Nat} {xc xr : List kc_V} {h : kc_H} {z : Int32} (hI : fu_I h) (hdc : dc ≤ 30) (hdr : dr ≤ 30) (c1 : kc_Con g dc idc xc h (fun rv h' => rv = some (.inl z) ∧ h' = h)) (c2 : kc_Con g dr idr xr h (fun rv h' => rv = some (.inl z) ∧ h' = h)) : kc_Con g 30 idc xc h (fun rv h1 => ∃ z : Int32, rv = some (.inl z) ∧ kc_Con g 30 idr xr h1 (fun rv2 h2 => rv2 = some (.inl z) ∧ fu_I h2)) := by
  refine kc_Con_mono (kc_Con_le c1 hdc) (fun rv h1 hq => ?_)
  obtain ⟨rfl, rfl⟩ := hq
  refine ⟨z, rfl, kc_Con_mono (kc_Con_le c2 hdr) (fun rv h2 hq => ?_)⟩
  obtain ⟨rfl, rfl⟩ := hq
  exact ⟨rfl, hI⟩
theorem fU_Xtype {g : kc_G} {h : kc_H} {a e : Int32} {v : Int64} (hg : kc_ok g) (hI : fu_I h) : kc_Con g 30 54 [.inr (.inr (.inl (some 0))), .inl a, .inr (.inl v), .inl e] h (fun rv h1 => ∃ z : Int32, rv = some (.inl z) ∧ kc_Con g 30 56 [.inr (.inr (.inl (some 259))), .inl a, .inr (.inl v), .inl e] h1 (fun rv2 h2 => rv2 = some (.inl z) ∧ fu_I h2)) := by
  have alo := kv_lo a
  have ahi := kv_hi a
  have elo := kv_lo e
  have ehi := kv_hi e
  rcases (show (0 ≤ a.toInt ∧ a.toInt ≤ 1 ∧ 1 ≤ e.toInt ∧ e.toInt ≤ 8) ∨ a.toInt < 0 ∨ 1 < a.toInt ∨ (a.toInt = 0 ∧ e.toInt < 1) ∨ (a.toInt = 0 ∧ 8 < e.toInt) ∨ (a.toInt = 1 ∧ e.toInt < 1) ∨ (a.toInt = 1 ∧ 8 < e.toInt) by omega) with k | k | k | k | k | k | k
  · obtain ⟨x, x1, -, rfl⟩ := ku_nat (u := 1) k.1 (by omega)
    obtain ⟨n, n1, en, rfl⟩ := ku_nat (a := e) (u := 8) (by omega) (by omega)
    exact fU_Xtyp hg hI (by omega) (by omega) n1
  · exact fu_pair hI (by decide) (by decide) (fu_no2 (kd_h54tl hg) (by decide +kernel) hI.1 ⟨⟨0, rfl, by decide, by decide⟩, kv_gi (by omega) (by omega), ku_tJ v, kv_gi (by omega) (by omega), trivial⟩ (fun q hq => by cases hq)) (fu_no2 (kd_h56tl hg) (by decide +kernel) hI.1 ⟨⟨259, rfl, by decide, by decide⟩, kv_gi (by omega) (by omega), ku_tJ v, kv_gi (by omega) (by omega), trivial⟩ (fun q hq => by cases hq))
  · exact fu_pair hI (by decide) (by decide) (fu_no2 (kd_h54th hg) (by decide +kernel) hI.1 ⟨⟨0, rfl, by decide, by decide⟩, kv_gi (by omega) (by omega), ku_tJ v, kv_gi (by omega) (by omega), trivial⟩ (fun q hq => by cases hq)) (fu_no2 (kd_h56th hg) (by decide +kernel) hI.1 ⟨⟨259, rfl, by decide, by decide⟩, kv_gi (by omega) (by omega), ku_tJ v, kv_gi (by omega) (by omega), trivial⟩ (fun q hq => by cases hq))
  · exact fu_pair hI (by decide) (by decide) (fu_no2 (kd_h54nl hg) (by decide +kernel) hI.1 ⟨⟨0, rfl, by decide, by decide⟩, kv_gi (by omega) (by omega), ku_tJ v, kv_gi (by omega) (by omega), trivial⟩ (fun q hq => by cases hq)) (fu_no2 (kd_h56nl hg) (by decide +kernel) hI.1 ⟨⟨259, rfl, by decide, by decide⟩, kv_gi (by omega) (by omega), ku_tJ v, kv_gi (by omega) (by omega), trivial⟩ (fun q hq => by cases hq))
  · exact fu_pair hI (by decide) (by decide) (fu_no2 (kd_h54nh hg) (by decide +kernel) hI.1 ⟨⟨0, rfl, by decide, by decide⟩, kv_gi (by omega) (by omega), ku_tJ v, kv_gi (by omega) (by omega), trivial⟩ (fun q hq => by cases hq)) (fu_no2 (kd_h56nh hg) (by decide +kernel) hI.1 ⟨⟨259, rfl, by decide, by decide⟩, kv_gi (by omega) (by omega), ku_tJ v, kv_gi (by omega) (by omega), trivial⟩ (fun q hq => by cases hq))
  · exact fu_pair hI (by decide) (by decide) (fu_no2 (kd_h54ml hg) (by decide +kernel) hI.1 ⟨⟨0, rfl, by decide, by decide⟩, kv_gi (by omega) (by omega), ku_tJ v, kv_gi (by omega) (by omega), trivial⟩ (fun q hq => by cases hq)) (fu_no2 (kd_h56ml hg) (by decide +kernel) hI.1 ⟨⟨259, rfl, by decide, by decide⟩, kv_gi (by omega) (by omega), ku_tJ v, kv_gi (by omega) (by omega), trivial⟩ (fun q hq => by cases hq))
  · exact fu_pair hI (by decide) (by decide) (fu_no2 (kd_h54mh hg) (by decide +kernel) hI.1 ⟨⟨0, rfl, by decide, by decide⟩, kv_gi (by omega) (by omega), ku_tJ v, kv_gi (by omega) (by omega), trivial⟩ (fun q hq => by cases hq)) (fu_no2 (kd_h56mh hg) (by decide +kernel) hI.1 ⟨⟨259, rfl, by decide, by decide⟩, kv_gi (by omega) (by omega), ku_tJ v, kv_gi (by omega) (by omega), trivial⟩ (fun q hq => by cases hq))
theorem fU_Ximage0 {g : kc_G} {h : kc_H} (hg : kc_ok g) (hI : fu_I h) : kc_Con g 30 157 [.inr (.inr (.inl (some 0))), .inl (Int32.ofNat 0)] h (fun rv h1 => ∃ z : Int32, rv = some (.inl z) ∧ kc_Con g 30 158 [.inr (.inr (.inl (some 259))), .inl (Int32.ofNat 0)] h1 (fun rv2 h2 => rv2 = some (.inl z) ∧ fu_I h2)) := by
  obtain ⟨B, hC, hR⟩ := hI.2.1
  refine kc_Con_mono (kc_Con_le (fs_Ximage0 (d := 0) hg hI.1) (by decide)) (fun rv h1 hq => ?_)
  obtain ⟨rfl, hh1⟩ := hq
  have hw1 : kd_wt kd_ty h1 := by rw [hh1]; exact kz_wtb (ku_k126 0 (by decide)) (kt_K_wt hI.1 kt_ty1_64)
  have key := kz_image (d := 0) (h := h1) (i := 0) hg (by decide) (fun k hk => kz_int_r hw1 (kz_k260 k hk).1)
  rw [kz_wid hw1] at key
  refine ⟨_, rfl, kc_Con_mono (kc_Con_le key (by decide)) (fun rv h2 hq2 => ?_)⟩
  obtain ⟨rfl, hh2⟩ := hq2
  refine ⟨rfl, ?_⟩
  have hw2 : kd_wt kd_ty h2 := by
    rw [hh2]
    exact kz_wtb (kz_k262 0 (by decide)) (kz_cp_wt hw1 (fun j hj => by
      obtain ⟨-, a1, a2, -⟩ := kz_k260 j hj
      rw [Nat.zero_add]
      first | exact a1 | exact a2 | (rw [show 650 * 0 + j = j from by omega]; exact a1)))
  have f1 : ∀ c k, ¬ (64 ≤ c ∧ c < 64 + 31) → ¬ c = 126 → h1 c k = h c k := fun c k q1 q2 => by
    rw [hh1, kj_uo q2]
    unfold kt_K
    rw [if_neg (by omega)]
  have f2 : ∀ c k, ¬ (c = 261 ∧ 0 ≤ k ∧ k < 0 + 650) → ¬ c = 262 → h2 c k = h1 c k := fun c k q1 q2 => by
    rw [hh2, kj_uo q2]
    unfold kz_cp
    rw [if_neg (by omega)]
  have g1 : ∀ k, k < 31 → ∀ m, m < kt_ln k → h2 (64 + k) m = h (1 + k) m := fun k hk m hm => by
    rw [f2 _ _ (by omega) (by omega), hh1, kj_uo (by omega)]
    unfold kt_K
    rw [show 64 + k - 64 = k from by omega, if_pos ⟨by omega, by omega, hm⟩]
  have g2 : ∀ m, m < 650 → h2 261 (0 + m) = h 260 m := fun m hm => by
    rw [hh2, kj_uo (by decide)]
    unfold kz_cp
    rw [if_pos ⟨rfl, by omega, by omega⟩, f1 260 _ (by omega) (by omega), show 0 + (0 + m - 650 * 0) = m from by omega]
  have now : ∀ c k, c < 63 ∨ c = 260 → h2 c k = h c k := fun c k q => by rw [f2 c k (by omega) (by omega), f1 c k (by omega) (by omega)]
  obtain ⟨-, -, b1, b3, b5, hL, b6, b7⟩ := hI
  have C1 : fu_C B 64 h2 := fu_Ck g1 hC
  have R1 : fu_R B 261 0 h2 := fun j hj ht => by rw [g2 j hj]; exact hR j hj ht
  have far : ∀ c k, 95 ≤ c → c < 95 + 31 → h2 c k = h c k := fun c k c1 c2 => by rw [f2 c k (by omega) (by omega), f1 c k (by omega) (by omega)]
  have far2 : ∀ k, 650 ≤ k → k < 650 + 650 → h2 261 k = h 261 k := fun k c1 c2 => by rw [f2 261 k (by omega) (by omega), f1 261 k (by omega) (by omega)]
  have kq : ∀ k, ¬ k = 0 → h2 262 k = h 262 k := fun k q => by
    rw [hh2, fu_ne (by omega)]
    exact (kz_n (by decide)).trans (f1 262 k (by omega) (by omega))
  have mineI : kI h2 261 0 := by
    obtain ⟨n, l, a1, a2, a3, a4⟩ := hL
    refine ⟨n, l, a1, ?_, fun k hk => ⟨(a3 k hk).1, (a3 k hk).2.1, ?_⟩, a4⟩
    · rw [g2 3 (by decide)]; rw [Nat.zero_add] at a2; exact a2
    · rw [show 0 + 150 + k = 0 + (150 + k) from by omega, g2 (150 + k) (by omega)]
      have := (a3 k hk).2.2
      rw [Nat.zero_add] at this
      exact this
  have kp : ∀ k, k < 2 → h2 126 k = h2 262 k := fun k hk => by
    have w1 : ∀ k, ¬ k = 0 → h1 126 k = h 126 k := fun k q => by
      rw [hh1, fu_ne (by omega)]
      unfold kt_K
      rw [if_neg (by omega)]
    have w2 : ∀ k, ¬ k = 0 → h2 262 k = h1 262 k := fun k q => by
      rw [hh2, fu_ne (by omega)]
      exact kz_n (by decide)
    rw [f2 126 k (by omega) (by omega)]
    by_cases e : k = 0
    · subst e
      rw [hh1, hh2]
      exact fu_eq.trans fu_eq.symm
    · rw [w1 k e, w2 k e, f1 262 k (by omega) (by omega)]
      exact b5 k hk
  exact ⟨hw2, ⟨B, fu_Ceq (fun c i c1 c2 => now c i (by omega)) hC, fu_Beq (fun i _ => now 260 i (by omega)) hR⟩, Or.inr ⟨B, C1, R1⟩, fu_Meq (kq 1 (by decide)) far far2 b3, kp, kI_eq (now _ _ (by omega)) (fun k _ => now _ _ (by omega)) hL, mineI, kI_eq (far2 _ (by omega) (by omega)) (fun k hk => far2 _ (by omega) (by omega)) b7⟩
theorem fU_Xfrom0 {g : kc_G} {h : kc_H} (hg : kc_ok g) (hI : fu_I h) : kc_Con g 30 159 [.inr (.inr (.inl (some 0))), .inl (Int32.ofNat 0)] h (fun rv h1 => ∃ z : Int32, rv = some (.inl z) ∧ kc_Con g 30 160 [.inr (.inr (.inl (some 259))), .inl (Int32.ofNat 0)] h1 (fun rv2 h2 => rv2 = some (.inl z) ∧ fu_I h2)) := by
  obtain ⟨bo, eb⟩ := ku_kb hI.1 (i := 0) (by decide)
  obtain ⟨-, -, b1, b3, b5, hL, b6, b7⟩ := id hI
  refine kc_Con_mono (kc_Con_le (fs_Xfrom0 (d := 0) hg hI.1 eb) (by decide)) (fun rv h1 hq => ?_)
  obtain ⟨rfl, hq⟩ := hq
  have hw1 : kd_wt kd_ty h1 := by
    rcases hq with ⟨-, rfl⟩ | ⟨-, rfl⟩
    · exact kt_K_wt hI.1 kt_ty64_1
    · exact hI.1
  have f1 : ∀ c k, ¬ (1 ≤ c ∧ c < 32) → h1 c k = h c k := fun c k q1 => by
    rcases hq with ⟨-, rfl⟩ | ⟨-, rfl⟩
    · unfold kt_K
      rw [if_neg (by omega)]
    · rfl
  have eb1 : h1 262 0 = .inl (kp_b bo) := by
    rw [f1 262 0 (by omega), ← b5 0 (by decide)]
    exact eb
  have hty : ∀ j, j < 650 → kd_rn (kd_ty 261) (650 * 0 + j) = kd_rn (kd_ty 260) j := fun j hj => by
    obtain ⟨-, a1, a2, -⟩ := kz_k260 j hj
    first | exact a2 | (rw [show 650 * 0 + j = j from by omega]; exact a1)
  have key := kz_from (d := 0) (h := h1) (i := 0) (b := bo) hg (by decide) eb1 (fun k hk => kz_int_r hw1 (by rw [hty k hk]; exact (kz_k260 k hk).1))
  rw [kz_wid hw1] at key
  refine ⟨_, rfl, kc_Con_mono (kc_Con_le key (by decide)) (fun rv h2 hq2 => ?_)⟩
  rcases hq with ⟨eb0, hh1⟩ | ⟨eb0, rfl⟩
  · rcases hq2 with ⟨-, rfl, hh2⟩ | ⟨eb2, -, -⟩
    · refine ⟨by rw [eb0]; rfl, ?_⟩
      obtain ⟨B1, c1, c2⟩ : ∃ B, fu_C B 64 h ∧ fu_R B 261 0 h := by
        rcases b1 with q | q
        · rw [← b5 0 (by decide), eb, eb0] at q
          exact absurd q (by decide)
        · exact q
      have hw2 : kd_wt kd_ty h2 := by
        rw [hh2]
        exact kz_cp_wt hw1 (fun j hj => by rw [hty j hj, Nat.zero_add])
      have f2 : ∀ c k, ¬ (c = 260 ∧ k < 650) → h2 c k = h1 c k := fun c k q1 => by
        rw [hh2]
        unfold kz_cp
        rw [if_neg (by omega)]
      have g1 : ∀ k, k < 31 → ∀ m, m < kt_ln k → h2 (1 + k) m = h (64 + k) m := fun k hk m hm => by
        rw [f2 _ _ (by omega), hh1]
        unfold kt_K
        rw [show 1 + k - 1 = k from by omega, if_pos ⟨by omega, by omega, hm⟩]
      have g2 : ∀ m, m < 650 → h2 260 m = h 261 (0 + m) := fun m hm => by
        rw [hh2]
        unfold kz_cp
        rw [if_pos ⟨rfl, by omega, by omega⟩, f1 261 _ (by omega), show 650 * 0 + (m - 0) = 0 + m from by omega]
      refine fu_now hI hw2 ⟨B1, fu_Ck g1 c1, fun j hj ht => by rw [g2 j hj]; exact c2 j hj ht⟩ (fun c k q1 q2 => by rw [f2 c k (by omega), f1 c k (by omega)]) (fun c k q => by rw [f2 c k (by omega), f1 c k (by omega)]) ?_
      obtain ⟨n, l, a1, a2, a3, a4⟩ := b6
      refine ⟨n, l, a1, ?_, fun k hk => ⟨(a3 k hk).1, (a3 k hk).2.1, ?_⟩, a4⟩
      · rw [g2 (0 + 3) (by decide)]; exact a2
      · rw [g2 (0 + 150 + k) (by omega), show 0 + (0 + 150 + k) = 0 + 150 + k from by omega]
        exact (a3 k hk).2.2
    · rw [eb0] at eb2
      cases eb2
  · rcases hq2 with ⟨eb2, -, -⟩ | ⟨-, rfl, rfl⟩
    · rw [eb0] at eb2
      cases eb2
    · exact ⟨by rw [eb0]; rfl, hI⟩
theorem fU_Ximage1 {g : kc_G} {h : kc_H} (hg : kc_ok g) (hI : fu_I h) : kc_Con g 30 157 [.inr (.inr (.inl (some 0))), .inl (Int32.ofNat 1)] h (fun rv h1 => ∃ z : Int32, rv = some (.inl z) ∧ kc_Con g 30 158 [.inr (.inr (.inl (some 259))), .inl (Int32.ofNat 1)] h1 (fun rv2 h2 => rv2 = some (.inl z) ∧ fu_I h2)) := by
  obtain ⟨B, hC, hR⟩ := hI.2.1
  refine kc_Con_mono (kc_Con_le (fs_Ximage1 (d := 0) hg hI.1) (by decide)) (fun rv h1 hq => ?_)
  obtain ⟨rfl, hh1⟩ := hq
  have hw1 : kd_wt kd_ty h1 := by rw [hh1]; exact kz_wtb (ku_k126 1 (by decide)) (kt_K_wt hI.1 kt_ty1_95)
  have key := kz_image (d := 0) (h := h1) (i := 1) hg (by decide) (fun k hk => kz_int_r hw1 (kz_k260 k hk).1)
  rw [kz_wid hw1] at key
  refine ⟨_, rfl, kc_Con_mono (kc_Con_le key (by decide)) (fun rv h2 hq2 => ?_)⟩
  obtain ⟨rfl, hh2⟩ := hq2
  refine ⟨rfl, ?_⟩
  have hw2 : kd_wt kd_ty h2 := by
    rw [hh2]
    exact kz_wtb (kz_k262 1 (by decide)) (kz_cp_wt hw1 (fun j hj => by
      obtain ⟨-, a1, a2, -⟩ := kz_k260 j hj
      rw [Nat.zero_add]
      first | exact a1 | exact a2 | (rw [show 650 * 0 + j = j from by omega]; exact a1)))
  have f1 : ∀ c k, ¬ (95 ≤ c ∧ c < 95 + 31) → ¬ c = 126 → h1 c k = h c k := fun c k q1 q2 => by
    rw [hh1, kj_uo q2]
    unfold kt_K
    rw [if_neg (by omega)]
  have f2 : ∀ c k, ¬ (c = 261 ∧ 650 ≤ k ∧ k < 650 + 650) → ¬ c = 262 → h2 c k = h1 c k := fun c k q1 q2 => by
    rw [hh2, kj_uo q2]
    unfold kz_cp
    rw [if_neg (by omega)]
  have g1 : ∀ k, k < 31 → ∀ m, m < kt_ln k → h2 (95 + k) m = h (1 + k) m := fun k hk m hm => by
    rw [f2 _ _ (by omega) (by omega), hh1, kj_uo (by omega)]
    unfold kt_K
    rw [show 95 + k - 95 = k from by omega, if_pos ⟨by omega, by omega, hm⟩]
  have g2 : ∀ m, m < 650 → h2 261 (650 + m) = h 260 m := fun m hm => by
    rw [hh2, kj_uo (by decide)]
    unfold kz_cp
    rw [if_pos ⟨rfl, by omega, by omega⟩, f1 260 _ (by omega) (by omega), show 0 + (650 + m - 650 * 1) = m from by omega]
  have now : ∀ c k, c < 63 ∨ c = 260 → h2 c k = h c k := fun c k q => by rw [f2 c k (by omega) (by omega), f1 c k (by omega) (by omega)]
  obtain ⟨-, -, b1, b3, b5, hL, b6, b7⟩ := hI
  have C1 : fu_C B 95 h2 := fu_Ck g1 hC
  have R1 : fu_R B 261 650 h2 := fun j hj ht => by rw [g2 j hj]; exact hR j hj ht
  have far : ∀ c k, 64 ≤ c → c < 64 + 31 → h2 c k = h c k := fun c k c1 c2 => by rw [f2 c k (by omega) (by omega), f1 c k (by omega) (by omega)]
  have far2 : ∀ k, 0 ≤ k → k < 0 + 650 → h2 261 k = h 261 k := fun k c1 c2 => by rw [f2 261 k (by omega) (by omega), f1 261 k (by omega) (by omega)]
  have kq : ∀ k, ¬ k = 1 → h2 262 k = h 262 k := fun k q => by
    rw [hh2, fu_ne (by omega)]
    exact (kz_n (by decide)).trans (f1 262 k (by omega) (by omega))
  have mineI : kI h2 261 650 := by
    obtain ⟨n, l, a1, a2, a3, a4⟩ := hL
    refine ⟨n, l, a1, ?_, fun k hk => ⟨(a3 k hk).1, (a3 k hk).2.1, ?_⟩, a4⟩
    · rw [g2 3 (by decide)]; rw [Nat.zero_add] at a2; exact a2
    · rw [show 650 + 150 + k = 650 + (150 + k) from by omega, g2 (150 + k) (by omega)]
      have := (a3 k hk).2.2
      rw [Nat.zero_add] at this
      exact this
  have kp : ∀ k, k < 2 → h2 126 k = h2 262 k := fun k hk => by
    have w1 : ∀ k, ¬ k = 1 → h1 126 k = h 126 k := fun k q => by
      rw [hh1, fu_ne (by omega)]
      unfold kt_K
      rw [if_neg (by omega)]
    have w2 : ∀ k, ¬ k = 1 → h2 262 k = h1 262 k := fun k q => by
      rw [hh2, fu_ne (by omega)]
      exact kz_n (by decide)
    rw [f2 126 k (by omega) (by omega)]
    by_cases e : k = 1
    · subst e
      rw [hh1, hh2]
      exact fu_eq.trans fu_eq.symm
    · rw [w1 k e, w2 k e, f1 262 k (by omega) (by omega)]
      exact b5 k hk
  exact ⟨hw2, ⟨B, fu_Ceq (fun c i c1 c2 => now c i (by omega)) hC, fu_Beq (fun i _ => now 260 i (by omega)) hR⟩, fu_Meq (kq 0 (by decide)) far far2 b1, Or.inr ⟨B, C1, R1⟩, kp, kI_eq (now _ _ (by omega)) (fun k _ => now _ _ (by omega)) hL, kI_eq (far2 _ (by omega) (by omega)) (fun k hk => far2 _ (by omega) (by omega)) b6, mineI⟩
theorem fU_Xfrom1 {g : kc_G} {h : kc_H} (hg : kc_ok g) (hI : fu_I h) : kc_Con g 30 159 [.inr (.inr (.inl (some 0))), .inl (Int32.ofNat 1)] h (fun rv h1 => ∃ z : Int32, rv = some (.inl z) ∧ kc_Con g 30 160 [.inr (.inr (.inl (some 259))), .inl (Int32.ofNat 1)] h1 (fun rv2 h2 => rv2 = some (.inl z) ∧ fu_I h2)) := by
  obtain ⟨bo, eb⟩ := ku_kb hI.1 (i := 1) (by decide)
  obtain ⟨-, -, b1, b3, b5, hL, b6, b7⟩ := id hI
  refine kc_Con_mono (kc_Con_le (fs_Xfrom1 (d := 0) hg hI.1 eb) (by decide)) (fun rv h1 hq => ?_)
  obtain ⟨rfl, hq⟩ := hq
  have hw1 : kd_wt kd_ty h1 := by
    rcases hq with ⟨-, rfl⟩ | ⟨-, rfl⟩
    · exact kt_K_wt hI.1 kt_ty95_1
    · exact hI.1
  have f1 : ∀ c k, ¬ (1 ≤ c ∧ c < 32) → h1 c k = h c k := fun c k q1 => by
    rcases hq with ⟨-, rfl⟩ | ⟨-, rfl⟩
    · unfold kt_K
      rw [if_neg (by omega)]
    · rfl
  have eb1 : h1 262 1 = .inl (kp_b bo) := by
    rw [f1 262 1 (by omega), ← b5 1 (by decide)]
    exact eb
  have hty : ∀ j, j < 650 → kd_rn (kd_ty 261) (650 * 1 + j) = kd_rn (kd_ty 260) j := fun j hj => by
    obtain ⟨-, a1, a2, -⟩ := kz_k260 j hj
    first | exact a2 | (rw [show 650 * 0 + j = j from by omega]; exact a1)
  have key := kz_from (d := 0) (h := h1) (i := 1) (b := bo) hg (by decide) eb1 (fun k hk => kz_int_r hw1 (by rw [hty k hk]; exact (kz_k260 k hk).1))
  rw [kz_wid hw1] at key
  refine ⟨_, rfl, kc_Con_mono (kc_Con_le key (by decide)) (fun rv h2 hq2 => ?_)⟩
  rcases hq with ⟨eb0, hh1⟩ | ⟨eb0, rfl⟩
  · rcases hq2 with ⟨-, rfl, hh2⟩ | ⟨eb2, -, -⟩
    · refine ⟨by rw [eb0]; rfl, ?_⟩
      obtain ⟨B1, c1, c2⟩ : ∃ B, fu_C B 95 h ∧ fu_R B 261 650 h := by
        rcases b3 with q | q
        · rw [← b5 1 (by decide), eb, eb0] at q
          exact absurd q (by decide)
        · exact q
      have hw2 : kd_wt kd_ty h2 := by
        rw [hh2]
        exact kz_cp_wt hw1 (fun j hj => by rw [hty j hj, Nat.zero_add])
      have f2 : ∀ c k, ¬ (c = 260 ∧ k < 650) → h2 c k = h1 c k := fun c k q1 => by
        rw [hh2]
        unfold kz_cp
        rw [if_neg (by omega)]
      have g1 : ∀ k, k < 31 → ∀ m, m < kt_ln k → h2 (1 + k) m = h (95 + k) m := fun k hk m hm => by
        rw [f2 _ _ (by omega), hh1]
        unfold kt_K
        rw [show 1 + k - 1 = k from by omega, if_pos ⟨by omega, by omega, hm⟩]
      have g2 : ∀ m, m < 650 → h2 260 m = h 261 (650 + m) := fun m hm => by
        rw [hh2]
        unfold kz_cp
        rw [if_pos ⟨rfl, by omega, by omega⟩, f1 261 _ (by omega), show 650 * 1 + (m - 0) = 650 + m from by omega]
      refine fu_now hI hw2 ⟨B1, fu_Ck g1 c1, fun j hj ht => by rw [g2 j hj]; exact c2 j hj ht⟩ (fun c k q1 q2 => by rw [f2 c k (by omega), f1 c k (by omega)]) (fun c k q => by rw [f2 c k (by omega), f1 c k (by omega)]) ?_
      obtain ⟨n, l, a1, a2, a3, a4⟩ := b7
      refine ⟨n, l, a1, ?_, fun k hk => ⟨(a3 k hk).1, (a3 k hk).2.1, ?_⟩, a4⟩
      · rw [g2 (0 + 3) (by decide)]; exact a2
      · rw [g2 (0 + 150 + k) (by omega), show 650 + (0 + 150 + k) = 650 + 150 + k from by omega]
        exact (a3 k hk).2.2
    · rw [eb0] at eb2
      cases eb2
  · rcases hq2 with ⟨eb2, -, -⟩ | ⟨-, rfl, rfl⟩
    · rw [eb0] at eb2
      cases eb2
    · exact ⟨by rw [eb0]; rfl, hI⟩
theorem fU_Ximage {g : kc_G} {h : kc_H} {a : Int32} (hg : kc_ok g) (hI : fu_I h) : kc_Con g 30 157 [.inr (.inr (.inl (some 0))), .inl a] h (fun rv h1 => ∃ z : Int32, rv = some (.inl z) ∧ kc_Con g 30 158 [.inr (.inr (.inl (some 259))), .inl a] h1 (fun rv2 h2 => rv2 = some (.inl z) ∧ fu_I h2)) := by
  have alo := kv_lo a
  have ahi := kv_hi a
  rcases (show (0 ≤ a.toInt ∧ a.toInt ≤ 1) ∨ a.toInt < 0 ∨ 1 < a.toInt by omega) with k | k | k
  · obtain ⟨x, x1, -, rfl⟩ := ku_nat (u := 1) k.1 (by omega)
    rcases (show x = 0 ∨ x = 1 by omega) with rfl | rfl
    · exact fU_Ximage0 hg hI
    · exact fU_Ximage1 hg hI
  · exact fu_pair hI (by decide) (by decide) (fu_no2 (kd_h157tl hg) (by decide +kernel) hI.1 ⟨⟨0, rfl, by decide, by decide⟩, kv_gi (by omega) (by omega), trivial⟩ (fun q hq => by cases hq)) (fu_no2 (kd_h158a hg) (by decide +kernel) hI.1 ⟨⟨259, rfl, by decide, by decide⟩, kv_gi (by omega) (by omega), trivial⟩ (fun q hq => by cases hq))
  · exact fu_pair hI (by decide) (by decide) (fu_no2 (kd_h157th hg) (by decide +kernel) hI.1 ⟨⟨0, rfl, by decide, by decide⟩, kv_gi (by omega) (by omega), trivial⟩ (fun q hq => by cases hq)) (fu_no2 (kd_h158b hg) (by decide +kernel) hI.1 ⟨⟨259, rfl, by decide, by decide⟩, kv_gi (by omega) (by omega), trivial⟩ (fun q hq => by cases hq))
theorem fU_Xfrom {g : kc_G} {h : kc_H} {a : Int32} (hg : kc_ok g) (hI : fu_I h) : kc_Con g 30 159 [.inr (.inr (.inl (some 0))), .inl a] h (fun rv h1 => ∃ z : Int32, rv = some (.inl z) ∧ kc_Con g 30 160 [.inr (.inr (.inl (some 259))), .inl a] h1 (fun rv2 h2 => rv2 = some (.inl z) ∧ fu_I h2)) := by
  have alo := kv_lo a
  have ahi := kv_hi a
  rcases (show (0 ≤ a.toInt ∧ a.toInt ≤ 1) ∨ a.toInt < 0 ∨ 1 < a.toInt by omega) with k | k | k
  · obtain ⟨x, x1, -, rfl⟩ := ku_nat (u := 1) k.1 (by omega)
    rcases (show x = 0 ∨ x = 1 by omega) with rfl | rfl
    · exact fU_Xfrom0 hg hI
    · exact fU_Xfrom1 hg hI
  · exact fu_pair hI (by decide) (by decide) (fu_no2 (kd_h159tl hg) (by decide +kernel) hI.1 ⟨⟨0, rfl, by decide, by decide⟩, kv_gi (by omega) (by omega), trivial⟩ (fun q hq => by cases hq)) (fu_no2 (kd_h160a hg) (by decide +kernel) hI.1 ⟨⟨259, rfl, by decide, by decide⟩, kv_gi (by omega) (by omega), trivial⟩ (fun q hq => by cases hq))
  · exact fu_pair hI (by decide) (by decide) (fu_no2 (kd_h159th hg) (by decide +kernel) hI.1 ⟨⟨0, rfl, by decide, by decide⟩, kv_gi (by omega) (by omega), trivial⟩ (fun q hq => by cases hq)) (fu_no2 (kd_h160b hg) (by decide +kernel) hI.1 ⟨⟨259, rfl, by decide, by decide⟩, kv_gi (by omega) (by omega), trivial⟩ (fun q hq => by cases hq))
/-! ===== day: all told alike ===== -/
theorem fu_bw3 : ∀ {l : List (Nat × Int32)} {B : Nat → Int32}, fu_sd l → fu_bw l B 3 = B 3
  | [], _, _ => rfl
  | q :: l, B, hs => (fu_bw3 (l := l) (fun r hr => hs r (List.mem_cons_of_mem _ hr))).trans (if_neg (fun e => (hs q List.mem_cons_self).1 e.symm))
theorem fu_s_step {v : Nat} {n : Nat → Nat} {B : Nat → Int32} (hv : v < 9) (hB : fu_BT B) : fu_sd (fu_step v n B).2 := by
  rcases (show v = 0 ∨ v = 1 ∨ v = 2 ∨ v = 3 ∨ v = 4 ∨ v = 5 ∨ v = 6 ∨ v = 7 ∨ v = 8 by omega) with rfl | rfl | rfl | rfl | rfl | rfl | rfl | rfl | rfl
  · exact fu_s_mule hB
  · exact fu_s_load hB
  · exact fu_s_door hB
  · exact fu_s_way hB
  · exact fu_s_lame hB
  · exact fu_s_ford hB
  · exact fu_s_ask hB
  · exact fu_s_drain hB
  · exact fu_s_stones hB
theorem fu_fold3 : ∀ {l : List (Nat × List Nat)} {i : Nat} {B B2 : Nat → Int32}, (∀ q ∈ l, q.1 < 9) → fu_BT B → fu_fold l i B = .inl B2 → B2 3 = B 3
  | [], _, B, B2, _, _, h => by
    have h : (Sum.inl B : (Nat → Int32) ⊕ Nat) = .inl B2 := h
    cases h
    rfl
  | q :: l, i, B, B2, hl, hB, h => by
    have h : (if (fu_step q.1 (fun k => q.2.getD k 0) B).1.toInt < 0 then (.inr i : (Nat → Int32) ⊕ Nat) else fu_fold l (i + 1) (fu_bw (fu_step q.1 (fun k => q.2.getD k 0) B).2 B)) = .inl B2 := h
    have hq := hl q List.mem_cons_self
    split at h
    · cases h
    · rw [fu_fold3 (fun r hr => hl r (List.mem_cons_of_mem _ hr)) (fu_BT_w (fu_g_step hq hB) hB) h]
      exact fu_bw3 (fu_s_step hq hB)
theorem fu_dPu {B : Nat → Int32} {o : Option (Nat × ((Nat → Int32) ⊕ Nat))} {rv rv2 : Option kc_V} {B1 B2 : Nat → Int32} (h1 : fu_dP B o rv B1) (h2 : fu_dP B o rv2 B2) : B1 = B2 := by
  match o, h1, h2 with
  | none, h1, h2 => exact h1.2.trans h2.2.symm
  | some (_, .inl _), h1, h2 => exact h1.2.trans h2.2.symm
  | some (_, .inr _), h1, h2 => exact h1.2.trans h2.2.symm
theorem fu_dPz {B : Nat → Int32} {o : Option (Nat × ((Nat → Int32) ⊕ Nat))} {rv : Option kc_V} {B1 : Nat → Int32} (h1 : fu_dP B o rv B1) : ∃ z : Int32, rv = some (.inl z) := by
  match o, h1 with
  | none, h1 => exact ⟨_, h1.1.choose_spec⟩
  | some (_, .inl _), h1 => exact ⟨_, h1.1⟩
  | some (_, .inr _), h1 => exact ⟨_, h1.1⟩
theorem fu_dP3 {B : Nat → Int32} {t : Nat → Nat} {n : Nat} {rv : Option kc_V} {B1 : Nat → Int32} (hn : n ≤ 240) (hB : fu_BT B) (h1 : fu_dP B (fu_out t n B) rv B1) : B1 = B ∨ B1 3 = Int32.ofNat 0 := by
  cases hk : kp_its t n 9 0 61 0 with
  | none =>
    rw [fu_outn hk] at h1
    exact Or.inl h1.2
  | some l =>
    obtain ⟨hall, hlen⟩ := kp_its_ok hn (by decide) 61 0 0 l (by omega) (by omega) hk
    rw [fu_outs hk] at h1
    cases hf : fu_fold l 0 (fu_beg B) with
    | inl B2 =>
      rw [hf] at h1
      refine Or.inr ?_
      rw [h1.2, fu_fold3 (fun q hq => by obtain ⟨b1, -, b3, b4⟩ := hall q hq; omega) (fu_BT_beg hB) hf]
      rfl
    | inr i =>
      rw [hf] at h1
      exact Or.inl h1.2
theorem fU_day {g : kc_G} {h : kc_H} (hg : kc_ok g) (hI : fu_I h) : kc_Con g 30 67 [.inr (.inr (.inl (some 0)))] h (fun rv h1 => (∃ z : Int32, rv = some (.inl z)) ∧ kc_Con g 30 71 [.inr (.inr (.inl (some 259)))] h1 (fun rv2 h2 => (∃ z : Int32, rv2 = some (.inl z)) ∧ fu_I h2)) := by
  obtain ⟨B, hC, hR⟩ := hI.2.1
  have hB := fu_C_T hI.1 hC
  obtain ⟨n, n1, en⟩ := fu_nat (by decide) (fu_fby 0 (by decide)).2.2 (hB 160 (by decide) (by decide))
  have ht0 : ∀ j, ∃ v : Nat, j < 240 → v < 256 ∧ B (170 + j) = Int32.ofNat v := fun j => by
    by_cases hj : j < 240
    · obtain ⟨v, v1, v2⟩ := fu_nat (by decide) (fu_ftx 0 (by decide) j hj).2.2 (hB (170 + 240 * 0 + j) (by omega) (fu_ftx 0 (by decide) j hj).2.1)
      rw [show 170 + 240 * 0 + j = 170 + j from by omega] at v2
      exact ⟨v, fun _ => ⟨by omega, v2⟩⟩
    · exact ⟨0, fun q => absurd q hj⟩
  obtain ⟨t, ht⟩ := Classical.axiomOfChoice ht0
  have h29 : ∀ j, j < 240 → h 29 j = .inl (Int32.ofNat (t j)) := fun j hj => by
    have e := fu_Cj (c := 28) (i := j) hC (by omega) (fu_ftx 0 (by decide) j hj).2.1 (fu_ftx 0 (by decide) j hj).1
    rw [show 170 + 240 * 0 + j = 170 + j from by omega, (ht j hj).2] at e
    exact e
  have h31 : h 31 0 = .inl (Int32.ofNat n) := (fu_Cj (c := 30) (j := 160) hC (by decide) (by decide) (by decide)).trans (by rw [en])
  refine kc_Con_mono (kc_Con_le (fu_day67 hg hC hI.1 n1 (fun j hj => (ht j hj).1) h29 h31) (by decide)) (fun rv h1 hq => ?_)
  obtain ⟨B1, p1, C1, w1, f1⟩ := hq
  refine ⟨fu_dPz p1, ?_⟩
  have e260 : ∀ i, h1 260 i = h 260 i := fun i => f1 260 i (by decide) (by decide)
  have R1 : fu_B B h1 := fu_Beq (fun i _ => e260 i) hR
  refine kc_Con_mono (kc_Con_le (fu_day71 hg R1 hB w1 n1 (fun j hj => (ht j hj).1) (fun j hj => by rw [R1 (170 + j) (by omega) (by have := (fu_ftx 0 (by decide) j hj).2.1; rw [show 170 + 240 * 0 + j = 170 + j from by omega] at this; exact this), (ht j hj).2]) (by rw [R1 160 (by decide) (by decide), en])) (by decide)) (fun rv h2 hq => ?_)
  obtain ⟨B2, p2, R2, w2, f2, l2⟩ := hq
  obtain rfl := fu_dPu p1 p2
  refine ⟨fu_dPz p2, fu_now hI w2 ⟨B1, fu_Ceq (fun c i c1 c2 => f2 c i (by omega)) C1, R2⟩ (fun c i a b => (f2 c i (by omega)).trans (f1 c i (by omega) (by omega))) (fun c i a => (f2 c i (by omega)).trans (f1 c i (by omega) (by omega))) ?_⟩
  rcases fu_dP3 n1 hB p2 with e | e
  · refine kI_eq ?_ (fun i hi => ?_) hI.2.2.2.2.2.1
    · rw [R2 (0 + 3) (by decide) (by decide), hR (0 + 3) (by decide) (by decide), e]
    · rw [Nat.zero_add, l2 e i hi, e260]
  · exact ⟨0, fun _ => 0, by decide, by rw [R2 (0 + 3) (by decide) (by decide)]; exact congrArg Sum.inl e, fun i hi => absurd hi (by omega), fun i j _ hj => absurd hj (by omega)⟩
/-! ===== calls that keep all told alike by themselves ===== -/
def fu_P : List (Nat × Nat × Nat) := [(1, 0, 3), (3, 0, 5), (4, 0, 5), (5, 0, 5), (6, 0, 5), (7, 0, 5), (8, 0, 5), (9, 0, 5), (10, 0, 5), (12, 0, 4), (13, 0, 4), (14, 0, 4), (16, 0, 5), (17, 0, 5), (18, 0, 5), (19, 0, 5), (20, 0, 5), (21, 0, 5), (22, 0, 5), (23, 0, 5), (24, 0, 5), (25, 0, 5), (26, 0, 1), (27, 0, 4), (29, 0, 239), (30, 0, 239), (31, 0, 1), (64, 0, 3), (66, 0, 5), (67, 0, 5), (68, 0, 5), (69, 0, 5), (70, 0, 5), (71, 0, 5), (72, 0, 5), (73, 0, 5), (75, 0, 4), (76, 0, 4), (77, 0, 4), (79, 0, 5), (80, 0, 5), (81, 0, 5), (82, 0, 5), (83, 0, 5), (84, 0, 5), (85, 0, 5), (86, 0, 5), (87, 0, 5), (88, 0, 5), (89, 0, 1), (90, 0, 4), (92, 0, 239), (93, 0, 239), (94, 0, 1), (95, 0, 3), (97, 0, 5), (98, 0, 5), (99, 0, 5), (100, 0, 5), (101, 0, 5), (102, 0, 5), (103, 0, 5), (104, 0, 5), (106, 0, 4), (107, 0, 4), (108, 0, 4), (110, 0, 5), (111, 0, 5), (112, 0, 5), (113, 0, 5), (114, 0, 5), (115, 0, 5), (116, 0, 5), (117, 0, 5), (118, 0, 5), (119, 0, 5), (120, 0, 1), (121, 0, 4), (123, 0, 239), (124, 0, 239), (125, 0, 1), (126, 0, 1), (260, 0, 5), (260, 10, 57), (260, 60, 74), (260, 80, 85), (260, 87, 92), (260, 94, 99), (260, 101, 106), (260, 108, 113), (260, 115, 120), (260, 122, 127), (260, 129, 134), (260, 136, 141), (260, 143, 148), (260, 150, 154), (260, 160, 161), (260, 170, 649), (261, 0, 1299), (262, 0, 1)]
def fu_at (c i : Nat) : Bool := fu_P.any fun p => Nat.beq p.1 c && (Nat.ble p.2.1 i && Nat.ble i p.2.2)
def fu_dis (W : kd_W) : Bool := fu_P.all fun p => W.all fun q => (Nat.blt p.1 q.1 || Nat.blt q.2.1 p.1) || (Nat.blt p.2.2 q.2.2.1 || Nat.blt q.2.2.2 p.2.1)
theorem fu_ats : ∀ j, j < 650 → (!(fu_t j) || (fu_at (1 + (fu_p j).1) (fu_p j).2 && (fu_at (64 + (fu_p j).1) (fu_p j).2 && (fu_at (95 + (fu_p j).1) (fu_p j).2 && (fu_at 260 j && (fu_at 261 j && fu_at 261 (650 + j))))))) = true := by decide +kernel
theorem fu_at_r {W : kd_W} {h h' : kc_H} (hd : fu_dis W = true) (hfr : kd_fr W h h') {c i : Nat} (ha : fu_at c i = true) : h' c i = h c i := by
  obtain ⟨p, p1, p2⟩ := List.any_eq_true.mp ha
  simp only [Bool.and_eq_true] at p2
  have a1 := Nat.eq_of_beq_eq_true p2.1
  have a2 := Nat.le_of_ble_eq_true p2.2.1
  have a3 := Nat.le_of_ble_eq_true p2.2.2
  refine hfr c i (fun q hq => kb_inr ?_)
  have e := List.all_eq_true.mp (List.all_eq_true.mp hd p p1) q hq
  simp only [Bool.or_eq_true] at e
  rcases e with (e | e) | (e | e)
  · have : p.1 < q.1 := Nat.le_of_ble_eq_true e
    omega
  · have : q.2.1 < p.1 := Nat.le_of_ble_eq_true e
    omega
  · have : p.2.2 < q.2.2.1 := Nat.le_of_ble_eq_true e
    omega
  · have : q.2.2.2 < p.2.1 := Nat.le_of_ble_eq_true e
    omega
theorem fu_fr {W : kd_W} {h h' : kc_H} (hd : fu_dis W = true) (hfr : kd_fr W h h') (hw : kd_wt kd_ty h') (hI : fu_I h) : fu_I h' := by
  obtain ⟨-, ⟨B, b1, b2⟩, b3, b5, b7, hL, b8, b9⟩ := hI
  have k : ∀ j, j < 650 → fu_t j = true → fu_at (1 + (fu_p j).1) (fu_p j).2 = true ∧ fu_at (64 + (fu_p j).1) (fu_p j).2 = true ∧ fu_at (95 + (fu_p j).1) (fu_p j).2 = true ∧ fu_at 260 j = true ∧ fu_at 261 j = true ∧ fu_at 261 (650 + j) = true := fun j hj ht => by
    have := fu_ats j hj
    rw [ht] at this
    simpa only [Bool.not_true, Bool.false_or, Bool.and_eq_true] using this
  have r : ∀ {c i : Nat}, fu_at c i = true → h' c i = h c i := fun ha => fu_at_r hd hfr ha
  have kl : ∀ i, i < 5 → fu_at 260 (0 + 150 + i) = true ∧ fu_at 261 (0 + 150 + i) = true ∧ fu_at 261 (650 + 150 + i) = true := by decide +kernel
  refine ⟨hw, ⟨B, fun j hj ht => (r (k j hj ht).1).trans (b1 j hj ht), fun j hj ht => (r (k j hj ht).2.2.2.1).trans (b2 j hj ht)⟩, ?_, ?_, fun i hi => ?_, ?_, ?_, ?_⟩
  · rcases b3 with q | ⟨B1, b3, b4⟩
    · exact Or.inl ((r (by decide +kernel)).trans q)
    · refine Or.inr ⟨B1, fun j hj ht => (r (k j hj ht).2.1).trans (b3 j hj ht), fun j hj ht => ?_⟩
      rw [Nat.zero_add]
      have := b4 j hj ht
      rw [Nat.zero_add] at this
      exact (r (k j hj ht).2.2.2.2.1).trans this
  · rcases b5 with q | ⟨B2, b5, b6⟩
    · exact Or.inl ((r (by decide +kernel)).trans q)
    · exact Or.inr ⟨B2, fun j hj ht => (r (k j hj ht).2.2.1).trans (b5 j hj ht), fun j hj ht => (r (k j hj ht).2.2.2.2.2).trans (b6 j hj ht)⟩
  · rw [r ((show ∀ i, i < 2 → fu_at 126 i = true by decide +kernel) i hi), r ((show ∀ i, i < 2 → fu_at 262 i = true by decide +kernel) i hi)]
    exact b7 i hi
  · exact kI_eq (r (by decide +kernel)) (fun i hi => r (kl i hi).1) hL
  · exact kI_eq (r (by decide +kernel)) (fun i hi => r (kl i hi).2.1) b8
  · exact kI_eq (r (by decide +kernel)) (fun i hi => r (kl i hi).2.2) b9
def fU_i (p : kd_P) : Bool := (match p.1 with
  | some (0, _, _) => true
  | _ => false) && fu_dis p.2.2
def fU_j (p : kd_P) : Bool := (match p.1 with
  | some (2, _, _) => true
  | _ => false) && fu_dis p.2.2
def fU_Qi : Option kc_V → kc_H → Prop := fun rv h' => (∃ z : Int32, rv = some (.inl z)) ∧ fu_I h'
def fU_Qj : Option kc_V → kc_H → Prop := fun rv h' => (∃ z : Int64, rv = some (.inr (.inl z))) ∧ fu_I h'
theorem fU_ii {g : kc_G} {d id : Nat} {T : kd_Tc} (hh : kd_hold g d kd_ty id T) (hc : T.2.2.all fU_i = true) {xs : List kc_V} {h : kc_H} (hI : fu_I h) (hv : wk_f2 (kd_g 0 (fun _ => 0)) T.1 xs) (hF : kd_gF 0 (fun _ => 0) T.2.1 h) : kc_Con g d id xs h fU_Qi := by
  refine kc_Con_mono (hh xs h hI.1 hv hF) (fun rv h' hq => ?_)
  obtain ⟨p, p1, p2, -, p4, p5⟩ := hq
  have hp := List.all_eq_true.mp hc p p1
  unfold fU_i at hp
  rw [Bool.and_eq_true] at hp
  refine ⟨?_, fu_fr hp.2 p5 p4 hI⟩
  obtain ⟨r, F, V⟩ := p
  match r, rv, hp.1, p2 with
  | some (0, a, b), some y, _, p2 => obtain ⟨z, rfl, -, -⟩ := p2; exact ⟨z, rfl⟩
  | some (0, _, _), none, _, p2 => exact p2.elim
  | some (_ + 1, _, _), _, q, _ => cases q
  | none, _, q, _ => cases q
theorem fU_jj {g : kc_G} {d id : Nat} {T : kd_Tc} (hh : kd_hold g d kd_ty id T) (hc : T.2.2.all fU_j = true) {xs : List kc_V} {h : kc_H} (hI : fu_I h) (hv : wk_f2 (kd_g 0 (fun _ => 0)) T.1 xs) (hF : kd_gF 0 (fun _ => 0) T.2.1 h) : kc_Con g d id xs h fU_Qj := by
  refine kc_Con_mono (hh xs h hI.1 hv hF) (fun rv h' hq => ?_)
  obtain ⟨p, p1, p2, -, p4, p5⟩ := hq
  have hp := List.all_eq_true.mp hc p p1
  unfold fU_j at hp
  rw [Bool.and_eq_true] at hp
  refine ⟨?_, fu_fr hp.2 p5 p4 hI⟩
  obtain ⟨r, F, V⟩ := p
  match r, rv, hp.1, p2 with
  | some (2, a, b), some y, _, p2 => obtain ⟨z, rfl, -, -⟩ := p2; exact ⟨z, rfl⟩
  | some (2, _, _), none, _, p2 => exact p2.elim
  | some (0, _, _), _, q, _ => cases q
  | some (1, _, _), _, q, _ => cases q
  | some (_ + 3, _, _), _, q, _ => cases q
  | none, _, q, _ => cases q
theorem fU_cfault {g : kc_G} {h : kc_H} {a : Int32} (hg : kc_ok g) (hI : fu_I h) : kc_Con g 30 60 [.inr (.inr (.inl (some 0))), .inl a] h fU_Qi := kc_Con_le (fU_ii (kd_h60 hg) (by decide +kernel) hI ⟨⟨0, rfl, by decide, by decide⟩, kO_a a, trivial⟩ (fun q hq => by cases hq)) (by decide)
theorem fU_rfault {g : kc_G} {h : kc_H} {a : Int32} (hg : kc_ok g) (hI : fu_I h) : kc_Con g 30 63 [.inr (.inr (.inl (some 259))), .inl a] h fU_Qi := kc_Con_le (fU_ii (kd_h63 hg) (by decide +kernel) hI ⟨⟨259, rfl, by decide, by decide⟩, kO_a a, trivial⟩ (fun q hq => by cases hq)) (by decide)
theorem fU_crun {g : kc_G} {h : kc_H} {a : Int32} (hg : kc_ok g) (hI : fu_I h) : kc_Con g 30 72 [.inr (.inr (.inl (some 0))), .inl a] h fU_Qi := kc_Con_le (fU_ii (kd_h72 hg) (by decide +kernel) hI ⟨⟨0, rfl, by decide, by decide⟩, kO_a a, trivial⟩ (fun q hq => by cases hq)) (by decide)
theorem fU_rrun {g : kc_G} {h : kc_H} {a : Int32} (hg : kc_ok g) (hI : fu_I h) : kc_Con g 30 77 [.inr (.inr (.inl (some 259))), .inl a] h fU_Qi := kc_Con_le (fU_ii (kd_h77 hg) (by decide +kernel) hI ⟨⟨259, rfl, by decide, by decide⟩, kO_a a, trivial⟩ (fun q hq => by cases hq)) (by decide)
theorem fU_cside {g : kc_G} {h : kc_H} {a b c : Int32} (hg : kc_ok g) (hI : fu_I h) : kc_Con g 30 80 [.inr (.inr (.inl (some 0))), .inl a, .inl b, .inl c] h fU_Qi := kc_Con_le (fU_ii (kd_h80 hg) (by decide +kernel) hI ⟨⟨0, rfl, by decide, by decide⟩, kO_a a, kO_a b, kO_a c, trivial⟩ (fun q hq => by cases hq)) (by decide)
theorem fU_rside {g : kc_G} {h : kc_H} {a b c : Int32} (hg : kc_ok g) (hI : fu_I h) : kc_Con g 30 81 [.inr (.inr (.inl (some 259))), .inl a, .inl b, .inl c] h fU_Qi := kc_Con_le (fU_ii (kd_h81 hg) (by decide +kernel) hI ⟨⟨259, rfl, by decide, by decide⟩, kO_a a, kO_a b, kO_a c, trivial⟩ (fun q hq => by cases hq)) (by decide)
theorem fU_cwhere {g : kc_G} {h : kc_H} {a : Int32} (hg : kc_ok g) (hI : fu_I h) : kc_Con g 30 83 [.inr (.inr (.inl (some 0))), .inl a] h fU_Qi := kc_Con_le (fU_ii (kd_h83 hg) (by decide +kernel) hI ⟨⟨0, rfl, by decide, by decide⟩, kO_a a, trivial⟩ (fun q hq => by cases hq)) (by decide)
theorem fU_rwhere {g : kc_G} {h : kc_H} {a : Int32} (hg : kc_ok g) (hI : fu_I h) : kc_Con g 30 84 [.inr (.inr (.inl (some 259))), .inl a] h fU_Qi := kc_Con_le (fU_ii (kd_h84 hg) (by decide +kernel) hI ⟨⟨259, rfl, by decide, by decide⟩, kO_a a, trivial⟩ (fun q hq => by cases hq)) (by decide)
theorem fU_chalves {g : kc_G} {h : kc_H} {a b : Int32} (hg : kc_ok g) (hI : fu_I h) : kc_Con g 30 85 [.inr (.inr (.inl (some 0))), .inl a, .inl b] h fU_Qi := kc_Con_le (fU_ii (kd_h85 hg) (by decide +kernel) hI ⟨⟨0, rfl, by decide, by decide⟩, kO_a a, kO_a b, trivial⟩ (fun q hq => by cases hq)) (by decide)
theorem fU_rhalves {g : kc_G} {h : kc_H} {a b : Int32} (hg : kc_ok g) (hI : fu_I h) : kc_Con g 30 87 [.inr (.inr (.inl (some 259))), .inl a, .inl b] h fU_Qi := kc_Con_le (fU_ii (kd_h87 hg) (by decide +kernel) hI ⟨⟨259, rfl, by decide, by decide⟩, kO_a a, kO_a b, trivial⟩ (fun q hq => by cases hq)) (by decide)
theorem fU_cwithin {g : kc_G} {h : kc_H} {a b : Int32} (hg : kc_ok g) (hI : fu_I h) : kc_Con g 30 89 [.inr (.inr (.inl (some 0))), .inl a, .inl b] h fU_Qi := kc_Con_le (fU_ii (kd_h89 hg) (by decide +kernel) hI ⟨⟨0, rfl, by decide, by decide⟩, kO_a a, kO_a b, trivial⟩ (fun q hq => by cases hq)) (by decide)
theorem fU_rwithin {g : kc_G} {h : kc_H} {a b : Int32} (hg : kc_ok g) (hI : fu_I h) : kc_Con g 30 90 [.inr (.inr (.inl (some 259))), .inl a, .inl b] h fU_Qi := kc_Con_le (fU_ii (kd_h90 hg) (by decide +kernel) hI ⟨⟨259, rfl, by decide, by decide⟩, kO_a a, kO_a b, trivial⟩ (fun q hq => by cases hq)) (by decide)
theorem fU_chang {g : kc_G} {h : kc_H} {a b c : Int32} (hg : kc_ok g) (hI : fu_I h) : kc_Con g 30 91 [.inr (.inr (.inl (some 0))), .inl a, .inl b, .inl c] h fU_Qi := kc_Con_le (fU_ii (kd_h91 hg) (by decide +kernel) hI ⟨⟨0, rfl, by decide, by decide⟩, kO_a a, kO_a b, kO_a c, trivial⟩ (fun q hq => by cases hq)) (by decide)
theorem fU_rhang {g : kc_G} {h : kc_H} {a b c : Int32} (hg : kc_ok g) (hI : fu_I h) : kc_Con g 30 92 [.inr (.inr (.inl (some 259))), .inl a, .inl b, .inl c] h fU_Qi := kc_Con_le (fU_ii (kd_h92 hg) (by decide +kernel) hI ⟨⟨259, rfl, by decide, by decide⟩, kO_a a, kO_a b, kO_a c, trivial⟩ (fun q hq => by cases hq)) (by decide)
theorem fU_cborne {g : kc_G} {h : kc_H} (hg : kc_ok g) (hI : fu_I h) : kc_Con g 30 97 [.inr (.inr (.inl (some 0)))] h fU_Qi := kc_Con_le (fU_ii (kd_h97 hg) (by decide +kernel) hI ⟨⟨0, rfl, by decide, by decide⟩, trivial⟩ (fun q hq => by cases hq)) (by decide)
theorem fU_rborne {g : kc_G} {h : kc_H} (hg : kc_ok g) (hI : fu_I h) : kc_Con g 30 103 [.inr (.inr (.inl (some 259)))] h fU_Qi := kc_Con_le (fU_ii (kd_h103 hg) (by decide +kernel) hI ⟨⟨259, rfl, by decide, by decide⟩, trivial⟩ (fun q hq => by cases hq)) (by decide)
theorem fU_cworst {g : kc_G} {h : kc_H} (hg : kc_ok g) (hI : fu_I h) : kc_Con g 30 107 [.inr (.inr (.inl (some 0)))] h fU_Qi := kc_Con_le (fU_ii (kd_h107 hg) (by decide +kernel) hI ⟨⟨0, rfl, by decide, by decide⟩, trivial⟩ (fun q hq => by cases hq)) (by decide)
theorem fU_rworst {g : kc_G} {h : kc_H} (hg : kc_ok g) (hI : fu_I h) : kc_Con g 30 109 [.inr (.inr (.inl (some 259)))] h fU_Qi := kc_Con_le (fU_ii (kd_h109 hg) (by decide +kernel) hI ⟨⟨259, rfl, by decide, by decide⟩, trivial⟩ (fun q hq => by cases hq)) (by decide)
theorem fU_clonger {g : kc_G} {h : kc_H} (hg : kc_ok g) (hI : fu_I h) : kc_Con g 30 111 [.inr (.inr (.inl (some 0)))] h fU_Qi := kc_Con_le (fU_ii (kd_h111 hg) (by decide +kernel) hI ⟨⟨0, rfl, by decide, by decide⟩, trivial⟩ (fun q hq => by cases hq)) (by decide)
theorem fU_rlonger {g : kc_G} {h : kc_H} (hg : kc_ok g) (hI : fu_I h) : kc_Con g 30 113 [.inr (.inr (.inl (some 259)))] h fU_Qi := kc_Con_le (fU_ii (kd_h113 hg) (by decide +kernel) hI ⟨⟨259, rfl, by decide, by decide⟩, trivial⟩ (fun q hq => by cases hq)) (by decide)
theorem fU_cstays {g : kc_G} {h : kc_H} {a : Int32} (hg : kc_ok g) (hI : fu_I h) : kc_Con g 30 114 [.inr (.inr (.inl (some 0))), .inl a] h fU_Qi := kc_Con_le (fU_ii (kd_h114 hg) (by decide +kernel) hI ⟨⟨0, rfl, by decide, by decide⟩, kO_a a, trivial⟩ (fun q hq => by cases hq)) (by decide)
theorem fU_rstays {g : kc_G} {h : kc_H} {a : Int32} (hg : kc_ok g) (hI : fu_I h) : kc_Con g 30 120 [.inr (.inr (.inl (some 259))), .inl a] h fU_Qi := kc_Con_le (fU_ii (kd_h120 hg) (by decide +kernel) hI ⟨⟨259, rfl, by decide, by decide⟩, kO_a a, trivial⟩ (fun q hq => by cases hq)) (by decide)
theorem fU_cbest {g : kc_G} {h : kc_H} {a : Int32} (hg : kc_ok g) (hI : fu_I h) : kc_Con g 30 125 [.inr (.inr (.inl (some 0))), .inl a] h fU_Qi := kc_Con_le (fU_ii (kd_h125 hg) (by decide +kernel) hI ⟨⟨0, rfl, by decide, by decide⟩, kO_a a, trivial⟩ (fun q hq => by cases hq)) (by decide)
theorem fU_rbest {g : kc_G} {h : kc_H} {a : Int32} (hg : kc_ok g) (hI : fu_I h) : kc_Con g 30 129 [.inr (.inr (.inl (some 259))), .inl a] h fU_Qi := kc_Con_le (fU_ii (kd_h129 hg) (by decide +kernel) hI ⟨⟨259, rfl, by decide, by decide⟩, kO_a a, trivial⟩ (fun q hq => by cases hq)) (by decide)
theorem fU_cliftings {g : kc_G} {h : kc_H} (hg : kc_ok g) (hI : fu_I h) : kc_Con g 30 134 [.inr (.inr (.inl (some 0)))] h fU_Qi := kc_Con_le (fU_ii (kd_h134 hg) (by decide +kernel) hI ⟨⟨0, rfl, by decide, by decide⟩, trivial⟩ (fun q hq => by cases hq)) (by decide)
theorem fU_rliftings {g : kc_G} {h : kc_H} (hg : kc_ok g) (hI : fu_I h) : kc_Con g 30 136 [.inr (.inr (.inl (some 259)))] h fU_Qi := kc_Con_le (fU_ii (kd_h136 hg) (by decide +kernel) hI ⟨⟨259, rfl, by decide, by decide⟩, trivial⟩ (fun q hq => by cases hq)) (by decide)
theorem fU_cfewest {g : kc_G} {h : kc_H} (hg : kc_ok g) (hI : fu_I h) : kc_Con g 30 137 [.inr (.inr (.inl (some 0)))] h fU_Qi := kc_Con_le (fU_ii (kd_h137 hg) (by decide +kernel) hI ⟨⟨0, rfl, by decide, by decide⟩, trivial⟩ (fun q hq => by cases hq)) (by decide)
theorem fU_rfewest {g : kc_G} {h : kc_H} (hg : kc_ok g) (hI : fu_I h) : kc_Con g 30 138 [.inr (.inr (.inl (some 259)))] h fU_Qi := kc_Con_le (fU_ii (kd_h138 hg) (by decide +kernel) hI ⟨⟨259, rfl, by decide, by decide⟩, trivial⟩ (fun q hq => by cases hq)) (by decide)
theorem fU_cchance {g : kc_G} {h : kc_H} (hg : kc_ok g) (hI : fu_I h) : kc_Con g 30 139 [.inr (.inr (.inl (some 0)))] h fU_Qi := kc_Con_le (fU_ii (kd_h139 hg) (by decide +kernel) hI ⟨⟨0, rfl, by decide, by decide⟩, trivial⟩ (fun q hq => by cases hq)) (by decide)
theorem fU_rchance {g : kc_G} {h : kc_H} (hg : kc_ok g) (hI : fu_I h) : kc_Con g 30 145 [.inr (.inr (.inl (some 259)))] h fU_Qi := kc_Con_le (fU_ii (kd_h145 hg) (by decide +kernel) hI ⟨⟨259, rfl, by decide, by decide⟩, trivial⟩ (fun q hq => by cases hq)) (by decide)
theorem fU_ckeep {g : kc_G} {h : kc_H} {a : Int32} (hg : kc_ok g) (hI : fu_I h) : kc_Con g 30 151 [.inr (.inr (.inl (some 0))), .inl a] h fU_Qi := kc_Con_le (fU_ii (kd_h151 hg) (by decide +kernel) hI ⟨⟨0, rfl, by decide, by decide⟩, kO_a a, trivial⟩ (fun q hq => by cases hq)) (by decide)
theorem fU_rkeep {g : kc_G} {h : kc_H} {a : Int32} (hg : kc_ok g) (hI : fu_I h) : kc_Con g 30 152 [.inr (.inr (.inl (some 259))), .inl a] h fU_Qi := kc_Con_le (fU_ii (kd_h152 hg) (by decide +kernel) hI ⟨⟨259, rfl, by decide, by decide⟩, kO_a a, trivial⟩ (fun q hq => by cases hq)) (by decide)
theorem fU_calone {g : kc_G} {h : kc_H} {a b c : Int32} (hg : kc_ok g) (hI : fu_I h) : kc_Con g 30 153 [.inr (.inr (.inl (some 0))), .inl a, .inl b, .inl c] h fU_Qi := kc_Con_le (fU_ii (kd_h153 hg) (by decide +kernel) hI ⟨⟨0, rfl, by decide, by decide⟩, kO_a a, kO_a b, kO_a c, trivial⟩ (fun q hq => by cases hq)) (by decide)
theorem fU_ralone {g : kc_G} {h : kc_H} {a b c : Int32} (hg : kc_ok g) (hI : fu_I h) : kc_Con g 30 154 [.inr (.inr (.inl (some 259))), .inl a, .inl b, .inl c] h fU_Qi := kc_Con_le (fU_ii (kd_h154 hg) (by decide +kernel) hI ⟨⟨259, rfl, by decide, by decide⟩, kO_a a, kO_a b, kO_a c, trivial⟩ (fun q hq => by cases hq)) (by decide)
theorem fU_cpart {g : kc_G} {h : kc_H} {a : Int32} (hg : kc_ok g) (hI : fu_I h) : kc_Con g 30 155 [.inr (.inr (.inl (some 0))), .inl a] h fU_Qj := kc_Con_le (fU_jj (kd_h155 hg) (by decide +kernel) hI ⟨⟨0, rfl, by decide, by decide⟩, kO_a a, trivial⟩ (fun q hq => by cases hq)) (by decide)
theorem fU_rpart {g : kc_G} {h : kc_H} {a : Int32} (hg : kc_ok g) (hI : fu_I h) : kc_Con g 30 156 [.inr (.inr (.inl (some 259))), .inl a] h fU_Qj := kc_Con_le (fU_jj (kd_h156 hg) (by decide +kernel) hI ⟨⟨259, rfl, by decide, by decide⟩, kO_a a, trivial⟩ (fun q hq => by cases hq)) (by decide)
theorem fU_cdigest {g : kc_G} {h : kc_H} (hg : kc_ok g) (hI : fu_I h) : kc_Con g 30 165 [.inr (.inr (.inl (some 0)))] h fU_Qj := kc_Con_le (fU_jj (kd_h165 hg) (by decide +kernel) hI ⟨⟨0, rfl, by decide, by decide⟩, trivial⟩ (fun q hq => by cases hq)) (by decide)
theorem fU_rdigest {g : kc_G} {h : kc_H} (hg : kc_ok g) (hI : fu_I h) : kc_Con g 30 170 [.inr (.inr (.inl (some 259)))] h fU_Qj := kc_Con_le (fU_jj (kd_h170 hg) (by decide +kernel) hI ⟨⟨259, rfl, by decide, by decide⟩, trivial⟩ (fun q hq => by cases hq)) (by decide)
end
section
-- 99.zq
/-! ===== the law's rows ===== -/
def wk_mL : wk_M := (99, ⟨"EvenSidesLaw", "law", "([I)Z"⟩, code, 4, (some FieldType.boolean), 289, 10466, 1, [
  [(0, .new 7, 3, (8, 0, 0), [130, 131, 113], 40, 0), (3, .dup, 1, (0, 0, 0), [], 26, 0), (4, .invokespecial 9, 3, (2, 0, 0), [132], 40, 0), (7, .astore_n 1, 1, (0, 0, 0), [], 6, 1), (8, .new 10, 3, (9, 0, 0), [1256, 1257, 123], 40, 0), (11, .dup, 1, (0, 0, 0), [], 26, 0), (12, .invokespecial 12, 3, (2, 11, 0), [1258], 40, 0), (15, .astore_n 2, 1, (0, 0, 0), [], 6, 2)],
  [(16, .iconst 0, 1, (0, 0, 0), [], 1, 0), (17, .istore_n 3, 1, (0, 0, 0), [], 5, 3), (18, .iload_n 3, 1, (0, 0, 0), [], 2, 3), (19, .aload_n 0, 1, (0, 0, 0), [], 3, 0), (20, .arraylength, 1, (0, 0, 0), [], 33, 0), (21, .iconst 5, 1, (0, 0, 0), [], 1, 5), (22, .isub, 1, (0, 0, 0), [], 22, 0), (23, .if_icmp .gt 1190, 3, (0, 0, 0), [], 19, 1213), (26, .aload_n 0, 1, (0, 0, 0), [], 3, 0), (27, .iload_n 3, 1, (0, 0, 0), [], 2, 3), (28, .iaload, 1, (0, 0, 0), [], 35, 0), (29, .bipush 63, 2, (0, 0, 0), [], 1, 63), (31, .iand, 1, (0, 0, 0), [], 40, 0)],
  [(32, .tableswitch 1175 0 36 #[164, 177, 220, 243, 276, 319, 362, 415, 448, 481, 514, 587, 610, 633, 646, 669, 712, 735, 768, 801, 844, 867, 880, 893, 906, 919, 942, 965, 978, 991, 1004, 1027, 1070, 1093, 1116, 1139, 1162], 164, (0, 0, 0), [], 40, 0)],
  [],
  [],
  [],
  [],
  [],
  [],
  [],
  [],
  [],
  [(196, .aload_n 1, 1, (0, 0, 0), [], 3, 1), (197, .invokevirtual 13, 3, (0, 13, 0), [541], 40, 0), (200, .pop, 1, (0, 0, 0), [], 40, 0), (201, .aload_n 2, 1, (0, 0, 0), [], 3, 2), (202, .invokevirtual 17, 3, (0, 15, 0), [1414], 40, 0), (205, .pop, 1, (0, 0, 0), [], 40, 0), (206, .goto 1001, 3, (0, 0, 0), [], 8, 1207)],
  [(209, .aload_n 1, 1, (0, 0, 0), [], 3, 1), (210, .aload_n 0, 1, (0, 0, 0), [], 3, 0), (211, .iload_n 3, 1, (0, 0, 0), [], 2, 3), (212, .iconst 1, 1, (0, 0, 0), [], 1, 1), (213, .iadd, 1, (0, 0, 0), [], 21, 0), (214, .iaload, 1, (0, 0, 0), [], 35, 0), (215, .aload_n 0, 1, (0, 0, 0), [], 3, 0), (216, .iload_n 3, 1, (0, 0, 0), [], 2, 3), (217, .iconst 2, 1, (0, 0, 0), [], 1, 2), (218, .iadd, 1, (0, 0, 0), [], 21, 0), (219, .iaload, 1, (0, 0, 0), [], 35, 0), (220, .aload_n 0, 1, (0, 0, 0), [], 3, 0), (221, .iload_n 3, 1, (0, 0, 0), [], 2, 3), (222, .iconst 3, 1, (0, 0, 0), [], 1, 3), (223, .iadd, 1, (0, 0, 0), [], 21, 0)],
  [(224, .iaload, 1, (0, 0, 0), [], 35, 0), (225, .invokevirtual 18, 3, (0, 16, 0), [549], 40, 0), (228, .pop, 1, (0, 0, 0), [], 40, 0), (229, .aload_n 2, 1, (0, 0, 0), [], 3, 2), (230, .aload_n 0, 1, (0, 0, 0), [], 3, 0), (231, .iload_n 3, 1, (0, 0, 0), [], 2, 3), (232, .iconst 1, 1, (0, 0, 0), [], 1, 1), (233, .iadd, 1, (0, 0, 0), [], 21, 0), (234, .iaload, 1, (0, 0, 0), [], 35, 0), (235, .aload_n 0, 1, (0, 0, 0), [], 3, 0), (236, .iload_n 3, 1, (0, 0, 0), [], 2, 3), (237, .iconst 2, 1, (0, 0, 0), [], 1, 2), (238, .iadd, 1, (0, 0, 0), [], 21, 0), (239, .iaload, 1, (0, 0, 0), [], 35, 0)],
  [(240, .aload_n 0, 1, (0, 0, 0), [], 3, 0), (241, .iload_n 3, 1, (0, 0, 0), [], 2, 3), (242, .iconst 3, 1, (0, 0, 0), [], 1, 3), (243, .iadd, 1, (0, 0, 0), [], 21, 0), (244, .iaload, 1, (0, 0, 0), [], 35, 0), (245, .invokevirtual 22, 3, (0, 20, 0), [1418], 40, 0), (248, .pop, 1, (0, 0, 0), [], 40, 0), (249, .goto 958, 3, (0, 0, 0), [], 8, 1207), (252, .aload_n 1, 1, (0, 0, 0), [], 3, 1), (253, .aload_n 0, 1, (0, 0, 0), [], 3, 0), (254, .iload_n 3, 1, (0, 0, 0), [], 2, 3), (255, .iconst 1, 1, (0, 0, 0), [], 1, 1)],
  [(256, .iadd, 1, (0, 0, 0), [], 21, 0), (257, .iaload, 1, (0, 0, 0), [], 35, 0), (258, .invokevirtual 23, 3, (0, 23, 0), [564], 40, 0), (261, .pop, 1, (0, 0, 0), [], 40, 0), (262, .aload_n 2, 1, (0, 0, 0), [], 3, 2), (263, .aload_n 0, 1, (0, 0, 0), [], 3, 0), (264, .iload_n 3, 1, (0, 0, 0), [], 2, 3), (265, .iconst 1, 1, (0, 0, 0), [], 1, 1), (266, .iadd, 1, (0, 0, 0), [], 21, 0), (267, .iaload, 1, (0, 0, 0), [], 35, 0), (268, .invokevirtual 27, 3, (0, 26, 0), [1434], 40, 0), (271, .pop, 1, (0, 0, 0), [], 40, 0)],
  [(272, .goto 935, 3, (0, 0, 0), [], 8, 1207), (275, .aload_n 1, 1, (0, 0, 0), [], 3, 1), (276, .aload_n 0, 1, (0, 0, 0), [], 3, 0), (277, .iload_n 3, 1, (0, 0, 0), [], 2, 3), (278, .iconst 1, 1, (0, 0, 0), [], 1, 1), (279, .iadd, 1, (0, 0, 0), [], 21, 0), (280, .iaload, 1, (0, 0, 0), [], 35, 0), (281, .aload_n 0, 1, (0, 0, 0), [], 3, 0), (282, .iload_n 3, 1, (0, 0, 0), [], 2, 3), (283, .iconst 2, 1, (0, 0, 0), [], 1, 2), (284, .iadd, 1, (0, 0, 0), [], 21, 0), (285, .iaload, 1, (0, 0, 0), [], 35, 0), (286, .invokevirtual 28, 3, (0, 28, 0), [576], 40, 0)],
  [(289, .pop, 1, (0, 0, 0), [], 40, 0), (290, .aload_n 2, 1, (0, 0, 0), [], 3, 2), (291, .aload_n 0, 1, (0, 0, 0), [], 3, 0), (292, .iload_n 3, 1, (0, 0, 0), [], 2, 3), (293, .iconst 1, 1, (0, 0, 0), [], 1, 1), (294, .iadd, 1, (0, 0, 0), [], 21, 0), (295, .iaload, 1, (0, 0, 0), [], 35, 0), (296, .aload_n 0, 1, (0, 0, 0), [], 3, 0), (297, .iload_n 3, 1, (0, 0, 0), [], 2, 3), (298, .iconst 2, 1, (0, 0, 0), [], 1, 2), (299, .iadd, 1, (0, 0, 0), [], 21, 0), (300, .iaload, 1, (0, 0, 0), [], 35, 0), (301, .invokevirtual 32, 3, (0, 30, 0), [1442], 40, 0)],
  [(304, .pop, 1, (0, 0, 0), [], 40, 0), (305, .goto 902, 3, (0, 0, 0), [], 8, 1207), (308, .aload_n 1, 1, (0, 0, 0), [], 3, 1), (309, .aload_n 0, 1, (0, 0, 0), [], 3, 0), (310, .iload_n 3, 1, (0, 0, 0), [], 2, 3), (311, .iconst 1, 1, (0, 0, 0), [], 1, 1), (312, .iadd, 1, (0, 0, 0), [], 21, 0), (313, .iaload, 1, (0, 0, 0), [], 35, 0), (314, .aload_n 0, 1, (0, 0, 0), [], 3, 0), (315, .iload_n 3, 1, (0, 0, 0), [], 2, 3), (316, .iconst 2, 1, (0, 0, 0), [], 1, 2), (317, .iadd, 1, (0, 0, 0), [], 21, 0), (318, .iaload, 1, (0, 0, 0), [], 35, 0), (319, .aload_n 0, 1, (0, 0, 0), [], 3, 0)],
  [(320, .iload_n 3, 1, (0, 0, 0), [], 2, 3), (321, .iconst 3, 1, (0, 0, 0), [], 1, 3), (322, .iadd, 1, (0, 0, 0), [], 21, 0), (323, .iaload, 1, (0, 0, 0), [], 35, 0), (324, .invokevirtual 33, 3, (0, 32, 0), [584], 40, 0), (327, .pop, 1, (0, 0, 0), [], 40, 0), (328, .aload_n 2, 1, (0, 0, 0), [], 3, 2), (329, .aload_n 0, 1, (0, 0, 0), [], 3, 0), (330, .iload_n 3, 1, (0, 0, 0), [], 2, 3), (331, .iconst 1, 1, (0, 0, 0), [], 1, 1), (332, .iadd, 1, (0, 0, 0), [], 21, 0), (333, .iaload, 1, (0, 0, 0), [], 35, 0), (334, .aload_n 0, 1, (0, 0, 0), [], 3, 0), (335, .iload_n 3, 1, (0, 0, 0), [], 2, 3)],
  [(336, .iconst 2, 1, (0, 0, 0), [], 1, 2), (337, .iadd, 1, (0, 0, 0), [], 21, 0), (338, .iaload, 1, (0, 0, 0), [], 35, 0), (339, .aload_n 0, 1, (0, 0, 0), [], 3, 0), (340, .iload_n 3, 1, (0, 0, 0), [], 2, 3), (341, .iconst 3, 1, (0, 0, 0), [], 1, 3), (342, .iadd, 1, (0, 0, 0), [], 21, 0), (343, .iaload, 1, (0, 0, 0), [], 35, 0), (344, .invokevirtual 36, 3, (0, 34, 0), [1447], 40, 0), (347, .pop, 1, (0, 0, 0), [], 40, 0), (348, .goto 859, 3, (0, 0, 0), [], 8, 1207), (351, .aload_n 1, 1, (0, 0, 0), [], 3, 1)],
  [(352, .aload_n 0, 1, (0, 0, 0), [], 3, 0), (353, .iload_n 3, 1, (0, 0, 0), [], 2, 3), (354, .iconst 1, 1, (0, 0, 0), [], 1, 1), (355, .iadd, 1, (0, 0, 0), [], 21, 0), (356, .iaload, 1, (0, 0, 0), [], 35, 0), (357, .aload_n 0, 1, (0, 0, 0), [], 3, 0), (358, .iload_n 3, 1, (0, 0, 0), [], 2, 3), (359, .iconst 2, 1, (0, 0, 0), [], 1, 2), (360, .iadd, 1, (0, 0, 0), [], 21, 0), (361, .iaload, 1, (0, 0, 0), [], 35, 0), (362, .aload_n 0, 1, (0, 0, 0), [], 3, 0), (363, .iload_n 3, 1, (0, 0, 0), [], 2, 3), (364, .iconst 3, 1, (0, 0, 0), [], 1, 3), (365, .iadd, 1, (0, 0, 0), [], 21, 0), (366, .iaload, 1, (0, 0, 0), [], 35, 0), (367, .invokevirtual 37, 3, (0, 35, 0), [592], 40, 0)],
  [(370, .pop, 1, (0, 0, 0), [], 40, 0), (371, .aload_n 2, 1, (0, 0, 0), [], 3, 2), (372, .aload_n 0, 1, (0, 0, 0), [], 3, 0), (373, .iload_n 3, 1, (0, 0, 0), [], 2, 3), (374, .iconst 1, 1, (0, 0, 0), [], 1, 1), (375, .iadd, 1, (0, 0, 0), [], 21, 0), (376, .iaload, 1, (0, 0, 0), [], 35, 0), (377, .aload_n 0, 1, (0, 0, 0), [], 3, 0), (378, .iload_n 3, 1, (0, 0, 0), [], 2, 3), (379, .iconst 2, 1, (0, 0, 0), [], 1, 2), (380, .iadd, 1, (0, 0, 0), [], 21, 0), (381, .iaload, 1, (0, 0, 0), [], 35, 0), (382, .aload_n 0, 1, (0, 0, 0), [], 3, 0), (383, .iload_n 3, 1, (0, 0, 0), [], 2, 3)],
  [(384, .iconst 3, 1, (0, 0, 0), [], 1, 3), (385, .iadd, 1, (0, 0, 0), [], 21, 0), (386, .iaload, 1, (0, 0, 0), [], 35, 0), (387, .invokevirtual 40, 3, (0, 39, 0), [1452], 40, 0), (390, .pop, 1, (0, 0, 0), [], 40, 0), (391, .goto 816, 3, (0, 0, 0), [], 8, 1207), (394, .aload_n 1, 1, (0, 0, 0), [], 3, 1), (395, .aload_n 0, 1, (0, 0, 0), [], 3, 0), (396, .iload_n 3, 1, (0, 0, 0), [], 2, 3), (397, .iconst 1, 1, (0, 0, 0), [], 1, 1), (398, .iadd, 1, (0, 0, 0), [], 21, 0), (399, .iaload, 1, (0, 0, 0), [], 35, 0)],
  [(400, .aload_n 0, 1, (0, 0, 0), [], 3, 0), (401, .iload_n 3, 1, (0, 0, 0), [], 2, 3), (402, .iconst 2, 1, (0, 0, 0), [], 1, 2), (403, .iadd, 1, (0, 0, 0), [], 21, 0), (404, .iaload, 1, (0, 0, 0), [], 35, 0), (405, .aload_n 0, 1, (0, 0, 0), [], 3, 0), (406, .iload_n 3, 1, (0, 0, 0), [], 2, 3), (407, .iconst 3, 1, (0, 0, 0), [], 1, 3), (408, .iadd, 1, (0, 0, 0), [], 21, 0), (409, .iaload, 1, (0, 0, 0), [], 35, 0), (410, .aload_n 0, 1, (0, 0, 0), [], 3, 0), (411, .iload_n 3, 1, (0, 0, 0), [], 2, 3), (412, .iconst 4, 1, (0, 0, 0), [], 1, 4), (413, .iadd, 1, (0, 0, 0), [], 21, 0), (414, .iaload, 1, (0, 0, 0), [], 35, 0), (415, .invokevirtual 41, 3, (0, 41, 0), [608], 40, 0)],
  [(418, .pop, 1, (0, 0, 0), [], 40, 0), (419, .aload_n 2, 1, (0, 0, 0), [], 3, 2), (420, .aload_n 0, 1, (0, 0, 0), [], 3, 0), (421, .iload_n 3, 1, (0, 0, 0), [], 2, 3), (422, .iconst 1, 1, (0, 0, 0), [], 1, 1), (423, .iadd, 1, (0, 0, 0), [], 21, 0), (424, .iaload, 1, (0, 0, 0), [], 35, 0), (425, .aload_n 0, 1, (0, 0, 0), [], 3, 0), (426, .iload_n 3, 1, (0, 0, 0), [], 2, 3), (427, .iconst 2, 1, (0, 0, 0), [], 1, 2), (428, .iadd, 1, (0, 0, 0), [], 21, 0), (429, .iaload, 1, (0, 0, 0), [], 35, 0), (430, .aload_n 0, 1, (0, 0, 0), [], 3, 0), (431, .iload_n 3, 1, (0, 0, 0), [], 2, 3)],
  [(432, .iconst 3, 1, (0, 0, 0), [], 1, 3), (433, .iadd, 1, (0, 0, 0), [], 21, 0), (434, .iaload, 1, (0, 0, 0), [], 35, 0), (435, .aload_n 0, 1, (0, 0, 0), [], 3, 0), (436, .iload_n 3, 1, (0, 0, 0), [], 2, 3), (437, .iconst 4, 1, (0, 0, 0), [], 1, 4), (438, .iadd, 1, (0, 0, 0), [], 21, 0), (439, .iaload, 1, (0, 0, 0), [], 35, 0), (440, .invokevirtual 45, 3, (0, 43, 0), [1463], 40, 0), (443, .pop, 1, (0, 0, 0), [], 40, 0), (444, .goto 763, 3, (0, 0, 0), [], 8, 1207), (447, .aload_n 1, 1, (0, 0, 0), [], 3, 1)],
  [(448, .aload_n 0, 1, (0, 0, 0), [], 3, 0), (449, .iload_n 3, 1, (0, 0, 0), [], 2, 3), (450, .iconst 1, 1, (0, 0, 0), [], 1, 1), (451, .iadd, 1, (0, 0, 0), [], 21, 0), (452, .iaload, 1, (0, 0, 0), [], 35, 0), (453, .aload_n 0, 1, (0, 0, 0), [], 3, 0), (454, .iload_n 3, 1, (0, 0, 0), [], 2, 3), (455, .iconst 2, 1, (0, 0, 0), [], 1, 2), (456, .iadd, 1, (0, 0, 0), [], 21, 0), (457, .iaload, 1, (0, 0, 0), [], 35, 0), (458, .invokevirtual 46, 3, (0, 44, 0), [616], 40, 0), (461, .pop, 1, (0, 0, 0), [], 40, 0), (462, .aload_n 2, 1, (0, 0, 0), [], 3, 2), (463, .aload_n 0, 1, (0, 0, 0), [], 3, 0)],
  [(464, .iload_n 3, 1, (0, 0, 0), [], 2, 3), (465, .iconst 1, 1, (0, 0, 0), [], 1, 1), (466, .iadd, 1, (0, 0, 0), [], 21, 0), (467, .iaload, 1, (0, 0, 0), [], 35, 0), (468, .aload_n 0, 1, (0, 0, 0), [], 3, 0), (469, .iload_n 3, 1, (0, 0, 0), [], 2, 3), (470, .iconst 2, 1, (0, 0, 0), [], 1, 2), (471, .iadd, 1, (0, 0, 0), [], 21, 0), (472, .iaload, 1, (0, 0, 0), [], 35, 0), (473, .invokevirtual 49, 3, (0, 47, 0), [1467], 40, 0), (476, .pop, 1, (0, 0, 0), [], 40, 0), (477, .goto 730, 3, (0, 0, 0), [], 8, 1207)],
  [(480, .aload_n 1, 1, (0, 0, 0), [], 3, 1), (481, .aload_n 0, 1, (0, 0, 0), [], 3, 0), (482, .iload_n 3, 1, (0, 0, 0), [], 2, 3), (483, .iconst 1, 1, (0, 0, 0), [], 1, 1), (484, .iadd, 1, (0, 0, 0), [], 21, 0), (485, .iaload, 1, (0, 0, 0), [], 35, 0), (486, .aload_n 0, 1, (0, 0, 0), [], 3, 0), (487, .iload_n 3, 1, (0, 0, 0), [], 2, 3), (488, .iconst 2, 1, (0, 0, 0), [], 1, 2), (489, .iadd, 1, (0, 0, 0), [], 21, 0), (490, .iaload, 1, (0, 0, 0), [], 35, 0), (491, .invokevirtual 50, 3, (0, 49, 0), [628], 40, 0), (494, .pop, 1, (0, 0, 0), [], 40, 0), (495, .aload_n 2, 1, (0, 0, 0), [], 3, 2)],
  [(496, .aload_n 0, 1, (0, 0, 0), [], 3, 0), (497, .iload_n 3, 1, (0, 0, 0), [], 2, 3), (498, .iconst 1, 1, (0, 0, 0), [], 1, 1), (499, .iadd, 1, (0, 0, 0), [], 21, 0), (500, .iaload, 1, (0, 0, 0), [], 35, 0), (501, .aload_n 0, 1, (0, 0, 0), [], 3, 0), (502, .iload_n 3, 1, (0, 0, 0), [], 2, 3), (503, .iconst 2, 1, (0, 0, 0), [], 1, 2), (504, .iadd, 1, (0, 0, 0), [], 21, 0), (505, .iaload, 1, (0, 0, 0), [], 35, 0), (506, .invokevirtual 53, 3, (0, 50, 0), [1476], 40, 0), (509, .pop, 1, (0, 0, 0), [], 40, 0), (510, .goto 697, 3, (0, 0, 0), [], 8, 1207)],
  [(513, .aload_n 1, 1, (0, 0, 0), [], 3, 1), (514, .aload_n 0, 1, (0, 0, 0), [], 3, 0), (515, .iload_n 3, 1, (0, 0, 0), [], 2, 3), (516, .iconst 1, 1, (0, 0, 0), [], 1, 1), (517, .iadd, 1, (0, 0, 0), [], 21, 0), (518, .iaload, 1, (0, 0, 0), [], 35, 0), (519, .aload_n 0, 1, (0, 0, 0), [], 3, 0), (520, .iload_n 3, 1, (0, 0, 0), [], 2, 3), (521, .iconst 2, 1, (0, 0, 0), [], 1, 2), (522, .iadd, 1, (0, 0, 0), [], 21, 0), (523, .iaload, 1, (0, 0, 0), [], 35, 0), (524, .invokevirtual 54, 3, (0, 51, 0), [632], 40, 0), (527, .pop, 1, (0, 0, 0), [], 40, 0)],
  [(528, .aload_n 2, 1, (0, 0, 0), [], 3, 2), (529, .aload_n 0, 1, (0, 0, 0), [], 3, 0), (530, .iload_n 3, 1, (0, 0, 0), [], 2, 3), (531, .iconst 1, 1, (0, 0, 0), [], 1, 1), (532, .iadd, 1, (0, 0, 0), [], 21, 0), (533, .iaload, 1, (0, 0, 0), [], 35, 0), (534, .aload_n 0, 1, (0, 0, 0), [], 3, 0), (535, .iload_n 3, 1, (0, 0, 0), [], 2, 3), (536, .iconst 2, 1, (0, 0, 0), [], 1, 2), (537, .iadd, 1, (0, 0, 0), [], 21, 0), (538, .iaload, 1, (0, 0, 0), [], 35, 0), (539, .invokevirtual 57, 3, (0, 53, 0), [1480], 40, 0), (542, .pop, 1, (0, 0, 0), [], 40, 0), (543, .goto 664, 3, (0, 0, 0), [], 8, 1207)],
  [(546, .aload_n 1, 1, (0, 0, 0), [], 3, 1), (547, .aload_n 0, 1, (0, 0, 0), [], 3, 0), (548, .iload_n 3, 1, (0, 0, 0), [], 2, 3), (549, .iconst 1, 1, (0, 0, 0), [], 1, 1), (550, .iadd, 1, (0, 0, 0), [], 21, 0), (551, .iaload, 1, (0, 0, 0), [], 35, 0), (552, .aload_n 0, 1, (0, 0, 0), [], 3, 0), (553, .iload_n 3, 1, (0, 0, 0), [], 2, 3), (554, .iconst 2, 1, (0, 0, 0), [], 1, 2), (555, .iadd, 1, (0, 0, 0), [], 21, 0), (556, .iaload, 1, (0, 0, 0), [], 35, 0), (557, .i2l, 1, (0, 0, 0), [], 24, 0), (558, .bipush 32, 2, (0, 0, 0), [], 1, 32)],
  [(560, .lshl, 1, (0, 0, 0), [], 40, 0), (561, .aload_n 0, 1, (0, 0, 0), [], 3, 0), (562, .iload_n 3, 1, (0, 0, 0), [], 2, 3), (563, .iconst 3, 1, (0, 0, 0), [], 1, 3), (564, .iadd, 1, (0, 0, 0), [], 21, 0), (565, .iaload, 1, (0, 0, 0), [], 35, 0), (566, .i2l, 1, (0, 0, 0), [], 24, 0), (567, .ldc2_w 58, 3, (0, 0, 4294967295), [1910], 28, 4294967295), (570, .land, 1, (0, 0, 0), [], 40, 0), (571, .lor, 1, (0, 0, 0), [], 40, 0), (572, .aload_n 0, 1, (0, 0, 0), [], 3, 0), (573, .iload_n 3, 1, (0, 0, 0), [], 2, 3), (574, .iconst 4, 1, (0, 0, 0), [], 1, 4), (575, .iadd, 1, (0, 0, 0), [], 21, 0)],
  [(576, .iaload, 1, (0, 0, 0), [], 35, 0), (577, .invokevirtual 60, 3, (0, 54, 0), [640], 40, 0), (580, .pop, 1, (0, 0, 0), [], 40, 0), (581, .aload_n 2, 1, (0, 0, 0), [], 3, 2), (582, .aload_n 0, 1, (0, 0, 0), [], 3, 0), (583, .iload_n 3, 1, (0, 0, 0), [], 2, 3), (584, .iconst 1, 1, (0, 0, 0), [], 1, 1), (585, .iadd, 1, (0, 0, 0), [], 21, 0), (586, .iaload, 1, (0, 0, 0), [], 35, 0), (587, .aload_n 0, 1, (0, 0, 0), [], 3, 0), (588, .iload_n 3, 1, (0, 0, 0), [], 2, 3), (589, .iconst 2, 1, (0, 0, 0), [], 1, 2), (590, .iadd, 1, (0, 0, 0), [], 21, 0), (591, .iaload, 1, (0, 0, 0), [], 35, 0)],
  [(592, .i2l, 1, (0, 0, 0), [], 24, 0), (593, .bipush 32, 2, (0, 0, 0), [], 1, 32), (595, .lshl, 1, (0, 0, 0), [], 40, 0), (596, .aload_n 0, 1, (0, 0, 0), [], 3, 0), (597, .iload_n 3, 1, (0, 0, 0), [], 2, 3), (598, .iconst 3, 1, (0, 0, 0), [], 1, 3), (599, .iadd, 1, (0, 0, 0), [], 21, 0), (600, .iaload, 1, (0, 0, 0), [], 35, 0), (601, .i2l, 1, (0, 0, 0), [], 24, 0), (602, .ldc2_w 58, 3, (0, 0, 4294967295), [1910], 28, 4294967295), (605, .land, 1, (0, 0, 0), [], 40, 0), (606, .lor, 1, (0, 0, 0), [], 40, 0), (607, .aload_n 0, 1, (0, 0, 0), [], 3, 0)],
  [(608, .iload_n 3, 1, (0, 0, 0), [], 2, 3), (609, .iconst 4, 1, (0, 0, 0), [], 1, 4), (610, .iadd, 1, (0, 0, 0), [], 21, 0), (611, .iaload, 1, (0, 0, 0), [], 35, 0), (612, .invokevirtual 64, 3, (0, 56, 0), [1485], 40, 0), (615, .pop, 1, (0, 0, 0), [], 40, 0), (616, .goto 591, 3, (0, 0, 0), [], 8, 1207), (619, .aload_n 1, 1, (0, 0, 0), [], 3, 1), (620, .aload_n 0, 1, (0, 0, 0), [], 3, 0), (621, .iload_n 3, 1, (0, 0, 0), [], 2, 3), (622, .iconst 1, 1, (0, 0, 0), [], 1, 1), (623, .iadd, 1, (0, 0, 0), [], 21, 0)],
  [(624, .iaload, 1, (0, 0, 0), [], 35, 0), (625, .invokevirtual 65, 3, (0, 58, 0), [648], 40, 0), (628, .pop, 1, (0, 0, 0), [], 40, 0), (629, .aload_n 2, 1, (0, 0, 0), [], 3, 2), (630, .aload_n 0, 1, (0, 0, 0), [], 3, 0), (631, .iload_n 3, 1, (0, 0, 0), [], 2, 3), (632, .iconst 1, 1, (0, 0, 0), [], 1, 1), (633, .iadd, 1, (0, 0, 0), [], 21, 0), (634, .iaload, 1, (0, 0, 0), [], 35, 0), (635, .invokevirtual 68, 3, (0, 59, 0), [1494], 40, 0), (638, .pop, 1, (0, 0, 0), [], 40, 0), (639, .goto 568, 3, (0, 0, 0), [], 8, 1207)],
  [(642, .aload_n 1, 1, (0, 0, 0), [], 3, 1), (643, .aload_n 0, 1, (0, 0, 0), [], 3, 0), (644, .iload_n 3, 1, (0, 0, 0), [], 2, 3), (645, .iconst 1, 1, (0, 0, 0), [], 1, 1), (646, .iadd, 1, (0, 0, 0), [], 21, 0), (647, .iaload, 1, (0, 0, 0), [], 35, 0), (648, .invokevirtual 69, 3, (0, 60, 0), [653], 40, 0), (651, .pop, 1, (0, 0, 0), [], 40, 0), (652, .aload_n 2, 1, (0, 0, 0), [], 3, 2), (653, .aload_n 0, 1, (0, 0, 0), [], 3, 0), (654, .iload_n 3, 1, (0, 0, 0), [], 2, 3), (655, .iconst 1, 1, (0, 0, 0), [], 1, 1)],
  [(656, .iadd, 1, (0, 0, 0), [], 21, 0), (657, .iaload, 1, (0, 0, 0), [], 35, 0), (658, .invokevirtual 72, 3, (0, 63, 0), [1498], 40, 0), (661, .pop, 1, (0, 0, 0), [], 40, 0), (662, .goto 545, 3, (0, 0, 0), [], 8, 1207), (665, .aload_n 1, 1, (0, 0, 0), [], 3, 1), (666, .invokevirtual 73, 3, (0, 67, 0), [771], 40, 0), (669, .pop, 1, (0, 0, 0), [], 40, 0), (670, .aload_n 2, 1, (0, 0, 0), [], 3, 2), (671, .invokevirtual 76, 3, (0, 71, 0), [1547], 40, 0)],
  [(674, .pop, 1, (0, 0, 0), [], 40, 0), (675, .goto 532, 3, (0, 0, 0), [], 8, 1207), (678, .aload_n 1, 1, (0, 0, 0), [], 3, 1), (679, .aload_n 0, 1, (0, 0, 0), [], 3, 0), (680, .iload_n 3, 1, (0, 0, 0), [], 2, 3), (681, .iconst 1, 1, (0, 0, 0), [], 1, 1), (682, .iadd, 1, (0, 0, 0), [], 21, 0), (683, .iaload, 1, (0, 0, 0), [], 35, 0), (684, .invokevirtual 77, 3, (0, 72, 0), [804], 40, 0), (687, .pop, 1, (0, 0, 0), [], 40, 0)],
  [(688, .aload_n 2, 1, (0, 0, 0), [], 3, 2), (689, .aload_n 0, 1, (0, 0, 0), [], 3, 0), (690, .iload_n 3, 1, (0, 0, 0), [], 2, 3), (691, .iconst 1, 1, (0, 0, 0), [], 1, 1), (692, .iadd, 1, (0, 0, 0), [], 21, 0), (693, .iaload, 1, (0, 0, 0), [], 35, 0), (694, .invokevirtual 80, 3, (0, 77, 0), [1568], 40, 0), (697, .pop, 1, (0, 0, 0), [], 40, 0), (698, .goto 509, 3, (0, 0, 0), [], 8, 1207), (701, .aload_n 1, 1, (0, 0, 0), [], 3, 1), (702, .aload_n 0, 1, (0, 0, 0), [], 3, 0), (703, .iload_n 3, 1, (0, 0, 0), [], 2, 3)],
  [(704, .iconst 1, 1, (0, 0, 0), [], 1, 1), (705, .iadd, 1, (0, 0, 0), [], 21, 0), (706, .iaload, 1, (0, 0, 0), [], 35, 0), (707, .aload_n 0, 1, (0, 0, 0), [], 3, 0), (708, .iload_n 3, 1, (0, 0, 0), [], 2, 3), (709, .iconst 2, 1, (0, 0, 0), [], 1, 2), (710, .iadd, 1, (0, 0, 0), [], 21, 0), (711, .iaload, 1, (0, 0, 0), [], 35, 0), (712, .aload_n 0, 1, (0, 0, 0), [], 3, 0), (713, .iload_n 3, 1, (0, 0, 0), [], 2, 3), (714, .iconst 3, 1, (0, 0, 0), [], 1, 3), (715, .iadd, 1, (0, 0, 0), [], 21, 0), (716, .iaload, 1, (0, 0, 0), [], 35, 0), (717, .invokevirtual 81, 3, (0, 80, 0), [900], 40, 0)],
  [(720, .pop, 1, (0, 0, 0), [], 40, 0), (721, .aload_n 2, 1, (0, 0, 0), [], 3, 2), (722, .aload_n 0, 1, (0, 0, 0), [], 3, 0), (723, .iload_n 3, 1, (0, 0, 0), [], 2, 3), (724, .iconst 1, 1, (0, 0, 0), [], 1, 1), (725, .iadd, 1, (0, 0, 0), [], 21, 0), (726, .iaload, 1, (0, 0, 0), [], 35, 0), (727, .aload_n 0, 1, (0, 0, 0), [], 3, 0), (728, .iload_n 3, 1, (0, 0, 0), [], 2, 3), (729, .iconst 2, 1, (0, 0, 0), [], 1, 2), (730, .iadd, 1, (0, 0, 0), [], 21, 0), (731, .iaload, 1, (0, 0, 0), [], 35, 0), (732, .aload_n 0, 1, (0, 0, 0), [], 3, 0), (733, .iload_n 3, 1, (0, 0, 0), [], 2, 3), (734, .iconst 3, 1, (0, 0, 0), [], 1, 3), (735, .iadd, 1, (0, 0, 0), [], 21, 0)],
  [(736, .iaload, 1, (0, 0, 0), [], 35, 0), (737, .invokevirtual 84, 3, (0, 81, 0), [1665], 40, 0), (740, .pop, 1, (0, 0, 0), [], 40, 0), (741, .goto 466, 3, (0, 0, 0), [], 8, 1207), (744, .aload_n 1, 1, (0, 0, 0), [], 3, 1), (745, .aload_n 0, 1, (0, 0, 0), [], 3, 0), (746, .iload_n 3, 1, (0, 0, 0), [], 2, 3), (747, .iconst 1, 1, (0, 0, 0), [], 1, 1), (748, .iadd, 1, (0, 0, 0), [], 21, 0), (749, .iaload, 1, (0, 0, 0), [], 35, 0), (750, .invokevirtual 85, 3, (0, 83, 0), [907], 40, 0)],
  [(753, .pop, 1, (0, 0, 0), [], 40, 0), (754, .aload_n 2, 1, (0, 0, 0), [], 3, 2), (755, .aload_n 0, 1, (0, 0, 0), [], 3, 0), (756, .iload_n 3, 1, (0, 0, 0), [], 2, 3), (757, .iconst 1, 1, (0, 0, 0), [], 1, 1), (758, .iadd, 1, (0, 0, 0), [], 21, 0), (759, .iaload, 1, (0, 0, 0), [], 35, 0), (760, .invokevirtual 88, 3, (0, 84, 0), [1670], 40, 0), (763, .pop, 1, (0, 0, 0), [], 40, 0), (764, .goto 443, 3, (0, 0, 0), [], 8, 1207), (767, .aload_n 1, 1, (0, 0, 0), [], 3, 1)],
  [(768, .aload_n 0, 1, (0, 0, 0), [], 3, 0), (769, .iload_n 3, 1, (0, 0, 0), [], 2, 3), (770, .iconst 1, 1, (0, 0, 0), [], 1, 1), (771, .iadd, 1, (0, 0, 0), [], 21, 0), (772, .iaload, 1, (0, 0, 0), [], 35, 0), (773, .aload_n 0, 1, (0, 0, 0), [], 3, 0), (774, .iload_n 3, 1, (0, 0, 0), [], 2, 3), (775, .iconst 2, 1, (0, 0, 0), [], 1, 2), (776, .iadd, 1, (0, 0, 0), [], 21, 0), (777, .iaload, 1, (0, 0, 0), [], 35, 0), (778, .invokevirtual 89, 3, (0, 85, 0), [912], 40, 0), (781, .pop, 1, (0, 0, 0), [], 40, 0), (782, .aload_n 2, 1, (0, 0, 0), [], 3, 2), (783, .aload_n 0, 1, (0, 0, 0), [], 3, 0)],
  [(784, .iload_n 3, 1, (0, 0, 0), [], 2, 3), (785, .iconst 1, 1, (0, 0, 0), [], 1, 1), (786, .iadd, 1, (0, 0, 0), [], 21, 0), (787, .iaload, 1, (0, 0, 0), [], 35, 0), (788, .aload_n 0, 1, (0, 0, 0), [], 3, 0), (789, .iload_n 3, 1, (0, 0, 0), [], 2, 3), (790, .iconst 2, 1, (0, 0, 0), [], 1, 2), (791, .iadd, 1, (0, 0, 0), [], 21, 0), (792, .iaload, 1, (0, 0, 0), [], 35, 0), (793, .invokevirtual 92, 3, (0, 87, 0), [1674], 40, 0), (796, .pop, 1, (0, 0, 0), [], 40, 0), (797, .goto 410, 3, (0, 0, 0), [], 8, 1207)],
  [(800, .aload_n 1, 1, (0, 0, 0), [], 3, 1), (801, .aload_n 0, 1, (0, 0, 0), [], 3, 0), (802, .iload_n 3, 1, (0, 0, 0), [], 2, 3), (803, .iconst 1, 1, (0, 0, 0), [], 1, 1), (804, .iadd, 1, (0, 0, 0), [], 21, 0), (805, .iaload, 1, (0, 0, 0), [], 35, 0), (806, .aload_n 0, 1, (0, 0, 0), [], 3, 0), (807, .iload_n 3, 1, (0, 0, 0), [], 2, 3), (808, .iconst 2, 1, (0, 0, 0), [], 1, 2), (809, .iadd, 1, (0, 0, 0), [], 21, 0), (810, .iaload, 1, (0, 0, 0), [], 35, 0), (811, .invokevirtual 93, 3, (0, 89, 0), [929], 40, 0), (814, .pop, 1, (0, 0, 0), [], 40, 0), (815, .aload_n 2, 1, (0, 0, 0), [], 3, 2)],
  [(816, .aload_n 0, 1, (0, 0, 0), [], 3, 0), (817, .iload_n 3, 1, (0, 0, 0), [], 2, 3), (818, .iconst 1, 1, (0, 0, 0), [], 1, 1), (819, .iadd, 1, (0, 0, 0), [], 21, 0), (820, .iaload, 1, (0, 0, 0), [], 35, 0), (821, .aload_n 0, 1, (0, 0, 0), [], 3, 0), (822, .iload_n 3, 1, (0, 0, 0), [], 2, 3), (823, .iconst 2, 1, (0, 0, 0), [], 1, 2), (824, .iadd, 1, (0, 0, 0), [], 21, 0), (825, .iaload, 1, (0, 0, 0), [], 35, 0), (826, .invokevirtual 96, 3, (0, 90, 0), [1688], 40, 0), (829, .pop, 1, (0, 0, 0), [], 40, 0), (830, .goto 377, 3, (0, 0, 0), [], 8, 1207)],
  [(833, .aload_n 1, 1, (0, 0, 0), [], 3, 1), (834, .aload_n 0, 1, (0, 0, 0), [], 3, 0), (835, .iload_n 3, 1, (0, 0, 0), [], 2, 3), (836, .iconst 1, 1, (0, 0, 0), [], 1, 1), (837, .iadd, 1, (0, 0, 0), [], 21, 0), (838, .iaload, 1, (0, 0, 0), [], 35, 0), (839, .aload_n 0, 1, (0, 0, 0), [], 3, 0), (840, .iload_n 3, 1, (0, 0, 0), [], 2, 3), (841, .iconst 2, 1, (0, 0, 0), [], 1, 2), (842, .iadd, 1, (0, 0, 0), [], 21, 0), (843, .iaload, 1, (0, 0, 0), [], 35, 0), (844, .aload_n 0, 1, (0, 0, 0), [], 3, 0), (845, .iload_n 3, 1, (0, 0, 0), [], 2, 3), (846, .iconst 3, 1, (0, 0, 0), [], 1, 3), (847, .iadd, 1, (0, 0, 0), [], 21, 0)],
  [(848, .iaload, 1, (0, 0, 0), [], 35, 0), (849, .invokevirtual 97, 3, (0, 91, 0), [937], 40, 0), (852, .pop, 1, (0, 0, 0), [], 40, 0), (853, .aload_n 2, 1, (0, 0, 0), [], 3, 2), (854, .aload_n 0, 1, (0, 0, 0), [], 3, 0), (855, .iload_n 3, 1, (0, 0, 0), [], 2, 3), (856, .iconst 1, 1, (0, 0, 0), [], 1, 1), (857, .iadd, 1, (0, 0, 0), [], 21, 0), (858, .iaload, 1, (0, 0, 0), [], 35, 0), (859, .aload_n 0, 1, (0, 0, 0), [], 3, 0), (860, .iload_n 3, 1, (0, 0, 0), [], 2, 3), (861, .iconst 2, 1, (0, 0, 0), [], 1, 2), (862, .iadd, 1, (0, 0, 0), [], 21, 0), (863, .iaload, 1, (0, 0, 0), [], 35, 0)],
  [(864, .aload_n 0, 1, (0, 0, 0), [], 3, 0), (865, .iload_n 3, 1, (0, 0, 0), [], 2, 3), (866, .iconst 3, 1, (0, 0, 0), [], 1, 3), (867, .iadd, 1, (0, 0, 0), [], 21, 0), (868, .iaload, 1, (0, 0, 0), [], 35, 0), (869, .invokevirtual 100, 3, (0, 92, 0), [1692], 40, 0), (872, .pop, 1, (0, 0, 0), [], 40, 0), (873, .goto 334, 3, (0, 0, 0), [], 8, 1207), (876, .aload_n 1, 1, (0, 0, 0), [], 3, 1), (877, .aload_n 0, 1, (0, 0, 0), [], 3, 0), (878, .iload_n 3, 1, (0, 0, 0), [], 2, 3), (879, .iconst 1, 1, (0, 0, 0), [], 1, 1)],
  [(880, .iadd, 1, (0, 0, 0), [], 21, 0), (881, .iaload, 1, (0, 0, 0), [], 35, 0), (882, .invokevirtual 101, 3, (0, 93, 0), [942], 40, 0), (885, .pop, 1, (0, 0, 0), [], 40, 0), (886, .aload_n 2, 1, (0, 0, 0), [], 3, 2), (887, .aload_n 0, 1, (0, 0, 0), [], 3, 0), (888, .iload_n 3, 1, (0, 0, 0), [], 2, 3), (889, .iconst 1, 1, (0, 0, 0), [], 1, 1), (890, .iadd, 1, (0, 0, 0), [], 21, 0), (891, .iaload, 1, (0, 0, 0), [], 35, 0), (892, .invokevirtual 104, 3, (0, 94, 0), [1697], 40, 0), (895, .pop, 1, (0, 0, 0), [], 40, 0)],
  [(896, .goto 311, 3, (0, 0, 0), [], 8, 1207), (899, .aload_n 1, 1, (0, 0, 0), [], 3, 1), (900, .invokevirtual 105, 3, (0, 95, 0), [951], 40, 0), (903, .pop, 1, (0, 0, 0), [], 40, 0), (904, .aload_n 2, 1, (0, 0, 0), [], 3, 2), (905, .invokevirtual 108, 3, (0, 96, 0), [1709], 40, 0), (908, .pop, 1, (0, 0, 0), [], 40, 0), (909, .goto 298, 3, (0, 0, 0), [], 8, 1207)],
  [(912, .aload_n 1, 1, (0, 0, 0), [], 3, 1), (913, .invokevirtual 109, 3, (0, 97, 0), [955], 40, 0), (916, .pop, 1, (0, 0, 0), [], 40, 0), (917, .aload_n 2, 1, (0, 0, 0), [], 3, 2), (918, .invokevirtual 112, 3, (0, 103, 0), [1713], 40, 0), (921, .pop, 1, (0, 0, 0), [], 40, 0), (922, .goto 285, 3, (0, 0, 0), [], 8, 1207), (925, .aload_n 1, 1, (0, 0, 0), [], 3, 1), (926, .invokevirtual 113, 3, (0, 107, 0), [1003], 40, 0)],
  [(929, .pop, 1, (0, 0, 0), [], 40, 0), (930, .aload_n 2, 1, (0, 0, 0), [], 3, 2), (931, .invokevirtual 116, 3, (0, 109, 0), [1733], 40, 0), (934, .pop, 1, (0, 0, 0), [], 40, 0), (935, .goto 272, 3, (0, 0, 0), [], 8, 1207), (938, .aload_n 1, 1, (0, 0, 0), [], 3, 1), (939, .invokevirtual 117, 3, (0, 111, 0), [1017], 40, 0), (942, .pop, 1, (0, 0, 0), [], 40, 0), (943, .aload_n 2, 1, (0, 0, 0), [], 3, 2)],
  [(944, .invokevirtual 120, 3, (0, 113, 0), [1745], 40, 0), (947, .pop, 1, (0, 0, 0), [], 40, 0), (948, .goto 259, 3, (0, 0, 0), [], 8, 1207), (951, .aload_n 1, 1, (0, 0, 0), [], 3, 1), (952, .aload_n 0, 1, (0, 0, 0), [], 3, 0), (953, .iload_n 3, 1, (0, 0, 0), [], 2, 3), (954, .iconst 1, 1, (0, 0, 0), [], 1, 1), (955, .iadd, 1, (0, 0, 0), [], 21, 0), (956, .iaload, 1, (0, 0, 0), [], 35, 0), (957, .invokevirtual 121, 3, (0, 114, 0), [1025], 40, 0)],
  [(960, .pop, 1, (0, 0, 0), [], 40, 0), (961, .aload_n 2, 1, (0, 0, 0), [], 3, 2), (962, .aload_n 0, 1, (0, 0, 0), [], 3, 0), (963, .iload_n 3, 1, (0, 0, 0), [], 2, 3), (964, .iconst 1, 1, (0, 0, 0), [], 1, 1), (965, .iadd, 1, (0, 0, 0), [], 21, 0), (966, .iaload, 1, (0, 0, 0), [], 35, 0), (967, .invokevirtual 124, 3, (0, 120, 0), [1757], 40, 0), (970, .pop, 1, (0, 0, 0), [], 40, 0), (971, .goto 236, 3, (0, 0, 0), [], 8, 1207), (974, .aload_n 1, 1, (0, 0, 0), [], 3, 1), (975, .aload_n 0, 1, (0, 0, 0), [], 3, 0)],
  [(976, .iload_n 3, 1, (0, 0, 0), [], 2, 3), (977, .iconst 1, 1, (0, 0, 0), [], 1, 1), (978, .iadd, 1, (0, 0, 0), [], 21, 0), (979, .iaload, 1, (0, 0, 0), [], 35, 0), (980, .invokevirtual 125, 3, (0, 125, 0), [1072], 40, 0), (983, .pop, 1, (0, 0, 0), [], 40, 0), (984, .aload_n 2, 1, (0, 0, 0), [], 3, 2), (985, .aload_n 0, 1, (0, 0, 0), [], 3, 0), (986, .iload_n 3, 1, (0, 0, 0), [], 2, 3), (987, .iconst 1, 1, (0, 0, 0), [], 1, 1), (988, .iadd, 1, (0, 0, 0), [], 21, 0), (989, .iaload, 1, (0, 0, 0), [], 35, 0), (990, .invokevirtual 128, 3, (0, 129, 0), [1777], 40, 0)],
  [(993, .pop, 1, (0, 0, 0), [], 40, 0), (994, .goto 213, 3, (0, 0, 0), [], 8, 1207), (997, .aload_n 1, 1, (0, 0, 0), [], 3, 1), (998, .invokevirtual 129, 3, (0, 134, 0), [1097], 40, 0), (1001, .pop, 1, (0, 0, 0), [], 40, 0), (1002, .aload_n 2, 1, (0, 0, 0), [], 3, 2), (1003, .invokevirtual 132, 3, (0, 136, 0), [1805], 40, 0), (1006, .pop, 1, (0, 0, 0), [], 40, 0), (1007, .goto 200, 3, (0, 0, 0), [], 8, 1207)],
  [(1010, .aload_n 1, 1, (0, 0, 0), [], 3, 1), (1011, .invokevirtual 133, 3, (0, 137, 0), [1135], 40, 0), (1014, .pop, 1, (0, 0, 0), [], 40, 0), (1015, .aload_n 2, 1, (0, 0, 0), [], 3, 2), (1016, .invokevirtual 136, 3, (0, 138, 0), [1837], 40, 0), (1019, .pop, 1, (0, 0, 0), [], 40, 0), (1020, .goto 187, 3, (0, 0, 0), [], 8, 1207), (1023, .aload_n 1, 1, (0, 0, 0), [], 3, 1)],
  [(1024, .invokevirtual 137, 3, (0, 139, 0), [1149], 40, 0), (1027, .pop, 1, (0, 0, 0), [], 40, 0), (1028, .aload_n 2, 1, (0, 0, 0), [], 3, 2), (1029, .invokevirtual 140, 3, (0, 145, 0), [1845], 40, 0), (1032, .pop, 1, (0, 0, 0), [], 40, 0), (1033, .goto 174, 3, (0, 0, 0), [], 8, 1207), (1036, .aload_n 1, 1, (0, 0, 0), [], 3, 1), (1037, .aload_n 0, 1, (0, 0, 0), [], 3, 0), (1038, .iload_n 3, 1, (0, 0, 0), [], 2, 3), (1039, .iconst 1, 1, (0, 0, 0), [], 1, 1)],
  [(1040, .iadd, 1, (0, 0, 0), [], 21, 0), (1041, .iaload, 1, (0, 0, 0), [], 35, 0), (1042, .invokevirtual 141, 3, (0, 151, 0), [1176], 40, 0), (1045, .pop, 1, (0, 0, 0), [], 40, 0), (1046, .aload_n 2, 1, (0, 0, 0), [], 3, 2), (1047, .aload_n 0, 1, (0, 0, 0), [], 3, 0), (1048, .iload_n 3, 1, (0, 0, 0), [], 2, 3), (1049, .iconst 1, 1, (0, 0, 0), [], 1, 1), (1050, .iadd, 1, (0, 0, 0), [], 21, 0), (1051, .iaload, 1, (0, 0, 0), [], 35, 0), (1052, .invokevirtual 144, 3, (0, 152, 0), [1868], 40, 0), (1055, .pop, 1, (0, 0, 0), [], 40, 0)],
  [(1056, .goto 151, 3, (0, 0, 0), [], 8, 1207), (1059, .aload_n 1, 1, (0, 0, 0), [], 3, 1), (1060, .aload_n 0, 1, (0, 0, 0), [], 3, 0), (1061, .iload_n 3, 1, (0, 0, 0), [], 2, 3), (1062, .iconst 1, 1, (0, 0, 0), [], 1, 1), (1063, .iadd, 1, (0, 0, 0), [], 21, 0), (1064, .iaload, 1, (0, 0, 0), [], 35, 0), (1065, .aload_n 0, 1, (0, 0, 0), [], 3, 0), (1066, .iload_n 3, 1, (0, 0, 0), [], 2, 3), (1067, .iconst 2, 1, (0, 0, 0), [], 1, 2), (1068, .iadd, 1, (0, 0, 0), [], 21, 0), (1069, .iaload, 1, (0, 0, 0), [], 35, 0), (1070, .aload_n 0, 1, (0, 0, 0), [], 3, 0), (1071, .iload_n 3, 1, (0, 0, 0), [], 2, 3)],
  [(1072, .iconst 3, 1, (0, 0, 0), [], 1, 3), (1073, .iadd, 1, (0, 0, 0), [], 21, 0), (1074, .iaload, 1, (0, 0, 0), [], 35, 0), (1075, .invokevirtual 145, 3, (0, 153, 0), [1186], 40, 0), (1078, .pop, 1, (0, 0, 0), [], 40, 0), (1079, .aload_n 2, 1, (0, 0, 0), [], 3, 2), (1080, .aload_n 0, 1, (0, 0, 0), [], 3, 0), (1081, .iload_n 3, 1, (0, 0, 0), [], 2, 3), (1082, .iconst 1, 1, (0, 0, 0), [], 1, 1), (1083, .iadd, 1, (0, 0, 0), [], 21, 0), (1084, .iaload, 1, (0, 0, 0), [], 35, 0), (1085, .aload_n 0, 1, (0, 0, 0), [], 3, 0), (1086, .iload_n 3, 1, (0, 0, 0), [], 2, 3), (1087, .iconst 2, 1, (0, 0, 0), [], 1, 2)],
  [(1088, .iadd, 1, (0, 0, 0), [], 21, 0), (1089, .iaload, 1, (0, 0, 0), [], 35, 0), (1090, .aload_n 0, 1, (0, 0, 0), [], 3, 0), (1091, .iload_n 3, 1, (0, 0, 0), [], 2, 3), (1092, .iconst 3, 1, (0, 0, 0), [], 1, 3), (1093, .iadd, 1, (0, 0, 0), [], 21, 0), (1094, .iaload, 1, (0, 0, 0), [], 35, 0), (1095, .invokevirtual 148, 3, (0, 154, 0), [1872], 40, 0), (1098, .pop, 1, (0, 0, 0), [], 40, 0), (1099, .goto 108, 3, (0, 0, 0), [], 8, 1207), (1102, .aload_n 1, 1, (0, 0, 0), [], 3, 1), (1103, .aload_n 0, 1, (0, 0, 0), [], 3, 0)],
  [(1104, .iload_n 3, 1, (0, 0, 0), [], 2, 3), (1105, .iconst 1, 1, (0, 0, 0), [], 1, 1), (1106, .iadd, 1, (0, 0, 0), [], 21, 0), (1107, .iaload, 1, (0, 0, 0), [], 35, 0), (1108, .invokevirtual 149, 3, (0, 155, 0), [1212], 40, 0), (1111, .pop2, 1, (0, 0, 0), [], 40, 0), (1112, .aload_n 2, 1, (0, 0, 0), [], 3, 2), (1113, .aload_n 0, 1, (0, 0, 0), [], 3, 0), (1114, .iload_n 3, 1, (0, 0, 0), [], 2, 3), (1115, .iconst 1, 1, (0, 0, 0), [], 1, 1), (1116, .iadd, 1, (0, 0, 0), [], 21, 0), (1117, .iaload, 1, (0, 0, 0), [], 35, 0), (1118, .invokevirtual 153, 3, (0, 156, 0), [1880], 40, 0)],
  [(1121, .pop2, 1, (0, 0, 0), [], 40, 0), (1122, .goto 85, 3, (0, 0, 0), [], 8, 1207), (1125, .aload_n 1, 1, (0, 0, 0), [], 3, 1), (1126, .aload_n 0, 1, (0, 0, 0), [], 3, 0), (1127, .iload_n 3, 1, (0, 0, 0), [], 2, 3), (1128, .iconst 1, 1, (0, 0, 0), [], 1, 1), (1129, .iadd, 1, (0, 0, 0), [], 21, 0), (1130, .iaload, 1, (0, 0, 0), [], 35, 0), (1131, .invokevirtual 154, 3, (0, 157, 0), [1217], 40, 0), (1134, .pop, 1, (0, 0, 0), [], 40, 0), (1135, .aload_n 2, 1, (0, 0, 0), [], 3, 2)],
  [(1136, .aload_n 0, 1, (0, 0, 0), [], 3, 0), (1137, .iload_n 3, 1, (0, 0, 0), [], 2, 3), (1138, .iconst 1, 1, (0, 0, 0), [], 1, 1), (1139, .iadd, 1, (0, 0, 0), [], 21, 0), (1140, .iaload, 1, (0, 0, 0), [], 35, 0), (1141, .invokevirtual 157, 3, (0, 158, 0), [1884], 40, 0), (1144, .pop, 1, (0, 0, 0), [], 40, 0), (1145, .goto 62, 3, (0, 0, 0), [], 8, 1207), (1148, .aload_n 1, 1, (0, 0, 0), [], 3, 1), (1149, .aload_n 0, 1, (0, 0, 0), [], 3, 0), (1150, .iload_n 3, 1, (0, 0, 0), [], 2, 3), (1151, .iconst 1, 1, (0, 0, 0), [], 1, 1)],
  [(1152, .iadd, 1, (0, 0, 0), [], 21, 0), (1153, .iaload, 1, (0, 0, 0), [], 35, 0), (1154, .invokevirtual 158, 3, (0, 159, 0), [1221], 40, 0), (1157, .pop, 1, (0, 0, 0), [], 40, 0), (1158, .aload_n 2, 1, (0, 0, 0), [], 3, 2), (1159, .aload_n 0, 1, (0, 0, 0), [], 3, 0), (1160, .iload_n 3, 1, (0, 0, 0), [], 2, 3), (1161, .iconst 1, 1, (0, 0, 0), [], 1, 1), (1162, .iadd, 1, (0, 0, 0), [], 21, 0), (1163, .iaload, 1, (0, 0, 0), [], 35, 0), (1164, .invokevirtual 161, 3, (0, 160, 0), [1888], 40, 0), (1167, .pop, 1, (0, 0, 0), [], 40, 0)],
  [(1168, .goto 39, 3, (0, 0, 0), [], 8, 1207), (1171, .aload_n 1, 1, (0, 0, 0), [], 3, 1), (1172, .aload_n 0, 1, (0, 0, 0), [], 3, 0), (1173, .iload_n 3, 1, (0, 0, 0), [], 2, 3), (1174, .iconst 1, 1, (0, 0, 0), [], 1, 1), (1175, .iadd, 1, (0, 0, 0), [], 21, 0), (1176, .iaload, 1, (0, 0, 0), [], 35, 0), (1177, .invokevirtual 162, 3, (0, 161, 0), [1225], 40, 0), (1180, .aload_n 2, 1, (0, 0, 0), [], 3, 2), (1181, .aload_n 0, 1, (0, 0, 0), [], 3, 0), (1182, .iload_n 3, 1, (0, 0, 0), [], 2, 3), (1183, .iconst 1, 1, (0, 0, 0), [], 1, 1)],
  [(1184, .iadd, 1, (0, 0, 0), [], 21, 0), (1185, .iaload, 1, (0, 0, 0), [], 35, 0), (1186, .invokevirtual 165, 3, (0, 163, 0), [1892], 40, 0), (1189, .if_icmp .eq 18, 3, (0, 0, 0), [], 15, 1207), (1192, .iconst 0, 1, (0, 0, 0), [], 1, 0), (1193, .ireturn, 1, (0, 0, 0), [], 40, 0), (1194, .aload_n 1, 1, (0, 0, 0), [], 3, 1), (1195, .invokevirtual 166, 3, (0, 165, 0), [1233], 40, 0), (1198, .pop2, 1, (0, 0, 0), [], 40, 0), (1199, .aload_n 2, 1, (0, 0, 0), [], 3, 2)],
  [(1200, .invokevirtual 170, 3, (0, 170, 0), [1900], 40, 0), (1203, .pop2, 1, (0, 0, 0), [], 40, 0), (1204, .goto 3, 3, (0, 0, 0), [], 8, 1207), (1207, .iinc 3 5, 3, (3, 0, 5), [], 7, 5), (1210, .goto (-1192), 3, (0, 0, 0), [], 8, 18), (1213, .iconst 1, 1, (0, 0, 0), [], 1, 1), (1214, .ireturn, 1, (0, 0, 0), [], 40, 0)]])
theorem wk_L_len : (wk_Mx wk_mL).length = 76 := by decide +kernel
set_option maxRecDepth 100000 in
theorem wk_okLF : wq_sqs (wk_Mb wk_mL) (wq_f (wk_My wk_mL) 10 wk_mw) (wk_Mx wk_mL) 0 (wk_Mb wk_mL).data.toList = true := by decide +kernel
theorem wk_okLc : wq_cn 10 = (wk_My wk_mL).cls := by decide +kernel
theorem wk_L_ok : ∀ r ∈ wk_Mx wk_mL, ∀ row ∈ r, wk_okx wk_mt wk_mw (wk_My wk_mL) (wk_Mb wk_mL) row = true := by
  intro r hr row hrow
  obtain ⟨h7, h8⟩ := wq_sqs_ok (pc := 0) wk_okLF r hr row hrow
  obtain ⟨pc, i, n, x, wd, t, a⟩ := row
  unfold wq_f at h7
  simp only [Bool.and_eq_true] at h7
  unfold wk_okx
  simp only [Bool.and_eq_true, decide_eq_true_eq]
  exact ⟨h8, h7.1, wq_w_ok wk_okLc h7.2.1, h7.2.2⟩
end
section
-- 99.zr
/-! ===== the law's body: cells have been made ===== -/
def kL_Ev (g : kc_G) (M : wk_M) (p : Program) (e : Env) (R : Room) (s : State) (m : MethodId) (args : Array Value) (below : List Frame) (meth : Method) (c : Code) (as : List Nat) (nc ns : Nat) (Z : State → Prop) (pc : Nat) (AL : kc_L) (AS : List kc_V) (h : kc_H) : Prop :=
  ∀ (H : Heap) (locs : List Loc) (ws : va_W) (ls : Array Slot) (lv : List (Nat × Value)) (st : List Value), va_S (kc_gA g) s.heap H locs → wk_hr (kc_gD g) (kc_gA g) s as (kc_gz g) (kc_gs g) (kc_A h) ws H → lv_has ls (wk_Ml M) lv → wk_f2 (wk_rl as (kc_gz g) (kc_gs g)) (kc_el AL) lv → wk_f2 (wk_r as (kc_gz g) (kc_gs g)) (AS.map kc_e) st → W p g.1 e R s m args below meth c H locs nc ns Z (F0 m pc ls st)
section KLE
variable {g : kc_G} {d : Nat} {M : wk_M} {p : Program} {e : Env} {R : Room} {s : State} {m : MethodId} {args : Array Value} {below : List Frame} {meth : Method} {c : Code} {as : List Nat} {nc ns : Nat} {Z : State → Prop} {pc : Nat} {AL : kc_L} {AS : List kc_V} {h : kc_H} {i : Instr} {n : Nat} {x : Nat × Nat × Int} {wd : List Nat} {t : Nat} {a : Int}
set_option maxHeartbeats 1000000 in
theorem kL_pure (hF : kc_fix g d M p R s m args meth c) (hf : wk_fetch M pc = some (pc, i, n, x, wd, t, a)) {P : kc_P} (hp : kc_pure (wk_Ml M) i x.2.2 pc AL AS = some P) (k : kL_Ev g M p e R s m args below meth c as nc ns Z P.1 P.2.1 P.2.2 h) : kL_Ev g M p e R s m args below meth c as nc ns Z pc AL AS h := by
  intro H locs ws ls lv st hS hr hl ha hs
  obtain ⟨hd, hlk, hw, hot, hoc⟩ := kc_row hF hf
  have C := hF.1
  obtain ⟨hx, hb, hml, hown, hts, hK, hA, hname, hX, hz, hzA, hLz⟩ := id C
  have hc1 : ∀ idx, i = .ldc idx ∨ i = .ldc_w idx → (Jvm.Cond.constant (wk_My M).cls idx (Int32.ofInt x.2.2)).before args s = true := by
    intro idx hi
    rcases hi with rfl | rfl
    · match wd, hw with
      | [q1], hw => exact hts _ (wk_has_in hw)
      | [], hw => cases hw
      | _ :: _ :: _, hw => cases hw
    · match wd, hw with
      | [q1], hw => exact hts _ (wk_has_in hw)
      | [], hw => cases hw
      | _ :: _ :: _, hw => cases hw
  have hc2 : ∀ idx, i = .ldc2_w idx → (Jvm.Cond.constantLong (wk_My M).cls idx (Int64.ofInt x.2.2)).before args s = true := by
    rintro idx rfl
    match wd, hw with
    | [q1], hw => exact hts _ (wk_has_in hw)
    | [], hw => cases hw
    | _ :: _ :: _, hw => cases hw
  have hbx : wk_bx (fun _ => 0) ([] : wk_I) := fun j q hj => by simp at hj
  exact wk_pure_ok (ρ := fun _ => 0) (iv := []) hx hb hown hd hlk hc1 hc2 hbx (by decide) (kc_pure_e hp) hl (kc_rhoL ha) (kc_rhoS hs) (fun ls' lv' st' hl' ha' hs' => k H locs ws ls' lv' st' hS hr hl' (kc_rhoL ha') (kc_rhoS hs'))
theorem kL_hp (hF : kc_fix g d M p R s m args meth c) (hnc : nc ≤ R.cells) (hns : ns ≤ R.slots) (hf : wk_fetch M pc = some (pc, i, n, x, wd, t, a)) {dd : Nat} {AS2 : List wk_V} (hp : wk_hp (kc_gL g) [] i x (AS.map kc_e) (kc_A h) = some (dd, AS2, none, [], 0, 0)) {AS' : List kc_V}
    (hA2 : ∀ st : List Value, wk_f2 (wk_r as (kc_gz g) (kc_gs g)) AS2 st → wk_f2 (wk_r as (kc_gz g) (kc_gs g)) (AS'.map kc_e) st) (k : kL_Ev g M p e R s m args below meth c as nc ns Z (pc + dd) AL AS' h) : kL_Ev g M p e R s m args below meth c as nc ns Z pc AL AS h := by
  intro H locs ws ls lv st hS hr hl ha hs
  obtain ⟨hd, hlk, hw, hot, hoc⟩ := kc_row hF hf
  have hbx : wk_bx (kc_gs g) ([] : wk_I) := fun j q hj => by simp at hj
  refine wk_hp_ok hF.1 hbx hd hlk hw hp hl (Nat.le_trans (by omega) hF.2.2.2.1) (Nat.le_trans (by omega) hF.2.2.2.2.1) rfl (by omega) (by omega) hr hS hs (fun H' locs' more ws' st' hS' hr' hs' hsame => ?_)
  have hmore : more = [] := kc_same hr hr' rfl
  subst hmore
  rw [List.append_nil] at hr' hs'
  exact k H' locs' ws' ls lv st' hS' hr' hl ha (hA2 st' hs')
theorem kL_call (hF : kc_fix g d M p R s m args meth c) (hnc : nc ≤ R.cells) (hns : ns ≤ R.slots) (hf : wk_fetch M pc = some (pc, i, n, x, wd, t, a)) {M2 : wk_M} {av r : List kc_V} {Q2 : Option kc_V → kc_H → Prop} (hc : kc_cl i x AS = some (M2, av, r)) (hCon : kc_Con g d x.2.1 av h Q2) (k : ∀ rv h', Q2 rv h' → kL_Ev g M p e R s m args below meth c as nc ns Z (pc + 3) AL (rv.toList ++ r) h') : kL_Ev g M p e R s m args below meth c as nc ns Z pc AL AS h := by
  intro H locs ws ls lv st hS hr hl ha hs
  obtain ⟨hd, hlk, hw, hot, hoc⟩ := kc_row hF hf
  obtain ⟨M3, m1, m2, m3, d2, hd2, hMet⟩ := hCon
  cases (kc_cl_m hc).symm.trans m1
  have key := kc_call_ok (l := g.1) (e := e) (R := R) (below := below) (cells := nc) (slots := ns) (Q := Z) (d := d2) (B := kc_Bq g Q2 as) (AH := kc_A h) hF.1 wk_mt_ok hd hlk hw hoc (kc_cl_e hc) hl (fun vals hv => by rw [m2, m3]; exact hMet as ws vals hv) (by have := hF.2.2.2.1; omega) (by have := hF.2.2.2.2.1; omega) (by rw [m2]; exact hnc) (by rw [m3]; exact hns) hr hS hs
  rw [m2, m3] at key
  refine key (fun rx t locs1 rest hrest hB hal hS1 => ?_)
  obtain ⟨rv, h1, ws1, q1, q2, q3⟩ := hB
  refine k rv h1 q1 t.heap locs1 ws1 ls lv _ hS1 (wk_hr_moved hal q3) hl ha ?_
  cases rv with
  | none =>
    cases rx with
    | none => exact hrest
    | some _ => exact q2.elim
  | some v =>
    cases rx with
    | none => exact q2.elim
    | some xv => exact ⟨q2, hrest⟩
theorem kL_pop2 (hF : kc_fix g d M p R s m args meth c) {y : Int64} (hd : decode (wk_Mb M) pc = .ok (.pop2, 1)) (k : kL_Ev g M p e R s m args below meth c as nc ns Z (pc + 1) AL AS h) : kL_Ev g M p e R s m args below meth c as nc ns Z pc AL (.inr (.inl y) :: AS) h := by
  intro H locs ws ls lv st hS hr hl ha hs
  obtain ⟨hx, hb, hml, hown, hts, hK, hA, hname, hX, hz, hzA, hLz⟩ := hF.1
  obtain ⟨y1, st0, rfl, hj1, hs0⟩ := wk_f2_cons hs
  obtain ⟨j1, rfl, a1, a2⟩ := hj1
  exact lv_pop2_2 hx hb hd rfl (k H locs ws ls lv _ hS hr hl ha hs0)
theorem kL_sc (hF : kc_fix g d M p R s m args meth c) (hnc : nc ≤ R.cells) (hns : ns ≤ R.slots) {j : Nat} (hf : wk_fetch M pc = some (pc, .iaload, n, x, wd, t, a)) (hj : j < kc_gL g) (hL : kc_gL g < 2147483648) (k : kL_Ev g M p e R s m args below meth c as nc ns Z (pc + 1) AL (.inl (kc_gs g j) :: AS) h) : kL_Ev g M p e R s m args below meth c as nc ns Z pc AL (.inl (Int32.ofNat j) :: .inr (.inr (.inr 0)) :: AS) h := by
  obtain ⟨h1, h2⟩ := kc_ix_e (kx_ix hL hj)
  refine kL_hp hF hnc hns hf (dd := 1) (AS2 := .inr (.inr (.inr (0, j))) :: AS.map kc_e) ?_ (AS' := .inl (kc_gs g j) :: AS) (fun st hst => ?_) k
  · show wk_ild (kc_gL g) [] (kc_e (.inl (Int32.ofNat j))) (.inr (.inr (.inr (2, 0)))) (AS.map kc_e) (kc_A h) = _
    unfold wk_ild
    rw [h1]
    simp only [wk_scr, cond_true, kc_blt h2]
    rfl
  · obtain ⟨y0, st1, rfl, hv, hs1⟩ := wk_f2_cons hst
    have hv : y0 = .int (kc_gs g j) := hv
    subst hv
    exact ⟨⟨_, rfl, Int.le_refl _, Int.le_refl _⟩, hs1⟩
theorem kL_len (hF : kc_fix g d M p R s m args meth c) (hnc : nc ≤ R.cells) (hns : ns ≤ R.slots) (hf : wk_fetch M pc = some (pc, .arraylength, n, x, wd, t, a)) (k : kL_Ev g M p e R s m args below meth c as nc ns Z (pc + 1) AL (.inl (Int32.ofNat (kc_gL g)) :: AS) h) : kL_Ev g M p e R s m args below meth c as nc ns Z pc AL (.inr (.inr (.inr 0)) :: AS) h := by
  refine kL_hp hF hnc hns hf (dd := 1) (AS2 := wk_sI (Int32.ofNat (kc_gL g)) :: AS.map kc_e) ?_ (AS' := .inl (Int32.ofNat (kc_gL g)) :: AS) (fun st hst => hst) k
  show wk_aln (kc_gL g) (.inr (.inr (.inr (2, 0)))) (AS.map kc_e) (kc_A h) = _
  rfl
theorem kL_lo {L : kc_L} (hs : ∀ q ∈ L, kc_get AL q.1 = some q.2) (k : kL_Ev g M p e R s m args below meth c as nc ns Z pc L AS h) : kL_Ev g M p e R s m args below meth c as nc ns Z pc AL AS h := by
  intro H locs ws ls lv st hS hr hl ha hst
  obtain ⟨lv2, h1, h2⟩ := kf_sub_f2 ha L hs
  exact k H locs ws ls lv2 st hS hr ⟨hl.1, hl.2.1, fun q hq => hl.2.2 q (h2 q hq)⟩ h1 hst
def kL_one (M : wk_M) (pc : Nat) (L : kc_L) (S : List kc_V) : Option kc_P := match wk_fetch M pc with
  | some (pc0, i, _, x, _, _, _) => if pc0 = pc then kc_pure (wk_Ml M) i x.2.2 pc L S else none
  | none => none
def kL_run (M : wk_M) : Nat → Nat → kc_L → List kc_V → Option kc_P
  | 0, pc, L, S => some (pc, L, S)
  | n + 1, pc, L, S => match kL_one M pc L S with
    | some (pc', L', S') => kL_run M n pc' L' S'
    | none => none
theorem kL_one_r (hF : kc_fix g d M p R s m args meth c) {P : kc_P} (e0 : kL_one M pc AL AS = some P) (k : kL_Ev g M p e R s m args below meth c as nc ns Z P.1 P.2.1 P.2.2 h) : kL_Ev g M p e R s m args below meth c as nc ns Z pc AL AS h := by
  unfold kL_one at e0
  split at e0
  · rename_i pc0 i n x wd t a hf
    split at e0
    · rename_i hpc
      subst hpc
      exact kL_pure hF hf e0 k
    · cases e0
  · cases e0
end KLE
theorem kL_go {g : kc_G} {d : Nat} {M : wk_M} {p : Program} {e : Env} {R : Room} {s : State} {m : MethodId} {args : Array Value} {below : List Frame} {meth : Method} {c : Code} {as : List Nat} {nc ns : Nat} {Z : State → Prop} {h : kc_H} (hF : kc_fix g d M p R s m args meth c) : ∀ (n : Nat) {pc pc' : Nat} {L L' : kc_L} {S S' : List kc_V}, kL_run M n pc L S = some (pc', L', S') → kL_Ev g M p e R s m args below meth c as nc ns Z pc' L' S' h → kL_Ev g M p e R s m args below meth c as nc ns Z pc L S h
  | 0, _, _, _, _, _, _, e0, k => by cases e0; exact k
  | n + 1, pc, pc', L, L', S, S', e0, k => by
    have e0 : (match kL_one M pc L S with
      | some (pc', L', S') => kL_run M n pc' L' S'
      | none => none) = some (pc', L', S') := e0
    cases h1 : kL_one M pc L S with
    | none => rw [h1] at e0; cases e0
    | some q =>
      obtain ⟨p1, L1, S1⟩ := q
      rw [h1] at e0
      exact kL_one_r hF h1 (kL_go hF n e0 k)
theorem kL_ret {g : kc_G} {d : Nat} {M : wk_M} {p : Program} {e : Env} {R : Room} {s : State} {m : MethodId} {args : Array Value} {below : List Frame} {meth : Method} {c : Code} {as : List Nat} {nc ns : Nat} {h : kc_H} {pc : Nat} {AL : kc_L} {n : Nat} {x : Nat × Nat × Int} {wd : List Nat} {t : Nat} {a : Int} (hF : kc_fix g d M p R s m args meth c) (hf : wk_fetch M pc = some (pc, .ireturn, n, x, wd, t, a)) (hm : wk_Mr M = some .boolean) : kL_Ev g M p e R s m args below meth c as nc ns (MQ below (kc_B (fun rx _ => rx = some (.int 1)) (kc_gA g)) args s nc ns (kc_gA g)) pc AL [.inl (Int32.ofNat 1)] h := by
  intro H locs ws ls lv st hS hr hl ha hs
  obtain ⟨hd, hlk, hw, hot, hoc⟩ := kc_row hF hf
  obtain ⟨⟨hx, hb, -⟩, hret, hlocks, -⟩ := hF
  obtain ⟨y0, st1, rfl, hv, hs1⟩ := wk_f2_cons hs
  have := wk_f2_nil hs1
  subst this
  obtain ⟨i0, rfl, a1, a2⟩ := hv
  have e1 : i0 = 1 := Int32.toInt_inj.mp (by
    have : (Int32.ofNat 1).toInt = (1 : Int32).toInt := by decide
    simp only at a1 a2
    omega)
  subst e1
  obtain rfl := Nat.eq_of_beq_eq_true hlk
  exact W.zret hx hb (hret.trans hm) rfl (fun t ht hW => ⟨⟨_, rfl, rfl⟩, hS.F ht⟩) hS.2.2 hd hlocks
end
