section
-- 97.z0
/-! ===== by hand: lift of the class ===== -/
def ky_nb (p i : Int32) : Int32 := (p >>> (((Int32.ofNat 4) * i) &&& 31)) &&& (Int32.ofNat 15)
def ky_wo (p i : Int32) : Int32 := (p &&& (((Int32.ofNat 1) <<< (((Int32.ofNat 4) * i) &&& 31)) - (Int32.ofNat 1))) ||| ((p >>> ((((Int32.ofNat 4) * i) + (Int32.ofNat 4)) &&& 31)) <<< (((Int32.ofNat 4) * i) &&& 31))
def ky_wi (p i l : Int32) : Int32 := ((p &&& (((Int32.ofNat 1) <<< (((Int32.ofNat 4) * i) &&& 31)) - (Int32.ofNat 1))) ||| (l <<< (((Int32.ofNat 4) * i) &&& 31))) ||| ((p >>> (((Int32.ofNat 4) * i) &&& 31)) <<< ((((Int32.ofNat 4) * i) + (Int32.ofNat 4)) &&& 31))
theorem ky_15 : ∀ j, j < 32 → 4 ≤ j → (15#32).getLsbD j = false := by decide
theorem ky_bx {x y : BitVec 32} (h0 : x.getLsbD 0 = y.getLsbD 0) (h1 : x.getLsbD 1 = y.getLsbD 1) (h2 : x.getLsbD 2 = y.getLsbD 2) (h3 : x.getLsbD 3 = y.getLsbD 3) : x &&& 15#32 = y &&& 15#32 := by
  apply BitVec.eq_of_getLsbD_eq
  intro j hj
  rw [BitVec.getLsbD_and, BitVec.getLsbD_and]
  by_cases e : 4 ≤ j
  · rw [ky_15 j hj e, Bool.and_false, Bool.and_false]
  · rcases (show j = 0 ∨ j = 1 ∨ j = 2 ∨ j = 3 by omega) with rfl | rfl | rfl | rfl
    · rw [h0]
    · rw [h1]
    · rw [h2]
    · rw [h3]
theorem ky_wo_0_0 (p : Int32) : ky_nb (ky_wo p (Int32.ofNat 0)) (Int32.ofNat 0) = ky_nb p (Int32.ofNat 1) := by
  apply Int32.toBitVec_inj.mp
  have key : ∀ x : BitVec 32, (((x &&& 0#32) ||| ((x.sshiftRight 4) <<< 0))).sshiftRight 0 &&& 15#32 = x.sshiftRight 4 &&& 15#32 := by
    intro x
    apply ky_bx <;> first | (simp only [BitVec.getLsbD_sshiftRight, BitVec.getLsbD_shiftLeft, BitVec.getLsbD_or, BitVec.getLsbD_and]; simp; done) | (simp [BitVec.getElem_sshiftRight, BitVec.getElem_shiftLeft]; done)
  exact key p.toBitVec
theorem ky_wo_0_1 (p : Int32) : ky_nb (ky_wo p (Int32.ofNat 0)) (Int32.ofNat 1) = ky_nb p (Int32.ofNat 2) := by
  apply Int32.toBitVec_inj.mp
  have key : ∀ x : BitVec 32, (((x &&& 0#32) ||| ((x.sshiftRight 4) <<< 0))).sshiftRight 4 &&& 15#32 = x.sshiftRight 8 &&& 15#32 := by
    intro x
    apply ky_bx <;> first | (simp only [BitVec.getLsbD_sshiftRight, BitVec.getLsbD_shiftLeft, BitVec.getLsbD_or, BitVec.getLsbD_and]; simp; done) | (simp [BitVec.getElem_sshiftRight, BitVec.getElem_shiftLeft]; done)
  exact key p.toBitVec
theorem ky_wo_1_0 (p : Int32) : ky_nb (ky_wo p (Int32.ofNat 1)) (Int32.ofNat 0) = ky_nb p (Int32.ofNat 0) := by
  apply Int32.toBitVec_inj.mp
  have key : ∀ x : BitVec 32, (((x &&& 15#32) ||| ((x.sshiftRight 8) <<< 4))).sshiftRight 0 &&& 15#32 = x.sshiftRight 0 &&& 15#32 := by
    intro x
    apply ky_bx <;> first | (simp only [BitVec.getLsbD_sshiftRight, BitVec.getLsbD_shiftLeft, BitVec.getLsbD_or, BitVec.getLsbD_and]; simp; done) | (simp [BitVec.getElem_sshiftRight, BitVec.getElem_shiftLeft]; done)
  exact key p.toBitVec
theorem ky_wo_1_1 (p : Int32) : ky_nb (ky_wo p (Int32.ofNat 1)) (Int32.ofNat 1) = ky_nb p (Int32.ofNat 2) := by
  apply Int32.toBitVec_inj.mp
  have key : ∀ x : BitVec 32, (((x &&& 15#32) ||| ((x.sshiftRight 8) <<< 4))).sshiftRight 4 &&& 15#32 = x.sshiftRight 8 &&& 15#32 := by
    intro x
    apply ky_bx <;> first | (simp only [BitVec.getLsbD_sshiftRight, BitVec.getLsbD_shiftLeft, BitVec.getLsbD_or, BitVec.getLsbD_and]; simp; done) | (simp [BitVec.getElem_sshiftRight, BitVec.getElem_shiftLeft]; done)
  exact key p.toBitVec
theorem ky_wo_2_0 (p : Int32) : ky_nb (ky_wo p (Int32.ofNat 2)) (Int32.ofNat 0) = ky_nb p (Int32.ofNat 0) := by
  apply Int32.toBitVec_inj.mp
  have key : ∀ x : BitVec 32, (((x &&& 255#32) ||| ((x.sshiftRight 12) <<< 8))).sshiftRight 0 &&& 15#32 = x.sshiftRight 0 &&& 15#32 := by
    intro x
    apply ky_bx <;> first | (simp only [BitVec.getLsbD_sshiftRight, BitVec.getLsbD_shiftLeft, BitVec.getLsbD_or, BitVec.getLsbD_and]; simp; done) | (simp [BitVec.getElem_sshiftRight, BitVec.getElem_shiftLeft]; done)
  exact key p.toBitVec
theorem ky_wo_2_1 (p : Int32) : ky_nb (ky_wo p (Int32.ofNat 2)) (Int32.ofNat 1) = ky_nb p (Int32.ofNat 1) := by
  apply Int32.toBitVec_inj.mp
  have key : ∀ x : BitVec 32, (((x &&& 255#32) ||| ((x.sshiftRight 12) <<< 8))).sshiftRight 4 &&& 15#32 = x.sshiftRight 4 &&& 15#32 := by
    intro x
    apply ky_bx <;> first | (simp only [BitVec.getLsbD_sshiftRight, BitVec.getLsbD_shiftLeft, BitVec.getLsbD_or, BitVec.getLsbD_and]; simp; done) | (simp [BitVec.getElem_sshiftRight, BitVec.getElem_shiftLeft]; done)
  exact key p.toBitVec
theorem ky_wo_3_0 (p : Int32) : ky_nb (ky_wo p (Int32.ofNat 3)) (Int32.ofNat 0) = ky_nb p (Int32.ofNat 0) := by
  apply Int32.toBitVec_inj.mp
  have key : ∀ x : BitVec 32, (((x &&& 4095#32) ||| ((x.sshiftRight 16) <<< 12))).sshiftRight 0 &&& 15#32 = x.sshiftRight 0 &&& 15#32 := by
    intro x
    apply ky_bx <;> first | (simp only [BitVec.getLsbD_sshiftRight, BitVec.getLsbD_shiftLeft, BitVec.getLsbD_or, BitVec.getLsbD_and]; simp; done) | (simp [BitVec.getElem_sshiftRight, BitVec.getElem_shiftLeft]; done)
  exact key p.toBitVec
theorem ky_wo_3_1 (p : Int32) : ky_nb (ky_wo p (Int32.ofNat 3)) (Int32.ofNat 1) = ky_nb p (Int32.ofNat 1) := by
  apply Int32.toBitVec_inj.mp
  have key : ∀ x : BitVec 32, (((x &&& 4095#32) ||| ((x.sshiftRight 16) <<< 12))).sshiftRight 4 &&& 15#32 = x.sshiftRight 4 &&& 15#32 := by
    intro x
    apply ky_bx <;> first | (simp only [BitVec.getLsbD_sshiftRight, BitVec.getLsbD_shiftLeft, BitVec.getLsbD_or, BitVec.getLsbD_and]; simp; done) | (simp [BitVec.getElem_sshiftRight, BitVec.getElem_shiftLeft]; done)
  exact key p.toBitVec
theorem ky_wi_0_0 (p l : Int32) : ky_nb (ky_wi p (Int32.ofNat 0) (l &&& Int32.ofNat 15)) (Int32.ofNat 0) = l &&& (Int32.ofNat 15) := by
  apply Int32.toBitVec_inj.mp
  have key : ∀ x l : BitVec 32, ((((x &&& 0#32) ||| ((l &&& 15#32) <<< 0)) ||| ((x.sshiftRight 0) <<< 4))).sshiftRight 0 &&& 15#32 = l &&& 15#32 := by
    intro x l
    apply ky_bx <;> first | (simp only [BitVec.getLsbD_sshiftRight, BitVec.getLsbD_shiftLeft, BitVec.getLsbD_or, BitVec.getLsbD_and]; simp; done) | (simp [BitVec.getElem_sshiftRight, BitVec.getElem_shiftLeft]; done)
  exact key p.toBitVec l.toBitVec
theorem ky_wi_0_1 (p l : Int32) : ky_nb (ky_wi p (Int32.ofNat 0) (l &&& Int32.ofNat 15)) (Int32.ofNat 1) = ky_nb p (Int32.ofNat 0) := by
  apply Int32.toBitVec_inj.mp
  have key : ∀ x l : BitVec 32, ((((x &&& 0#32) ||| ((l &&& 15#32) <<< 0)) ||| ((x.sshiftRight 0) <<< 4))).sshiftRight 4 &&& 15#32 = x.sshiftRight 0 &&& 15#32 := by
    intro x l
    apply ky_bx <;> first | (simp only [BitVec.getLsbD_sshiftRight, BitVec.getLsbD_shiftLeft, BitVec.getLsbD_or, BitVec.getLsbD_and]; simp; done) | (simp [BitVec.getElem_sshiftRight, BitVec.getElem_shiftLeft]; done)
  exact key p.toBitVec l.toBitVec
theorem ky_wi_0_2 (p l : Int32) : ky_nb (ky_wi p (Int32.ofNat 0) (l &&& Int32.ofNat 15)) (Int32.ofNat 2) = ky_nb p (Int32.ofNat 1) := by
  apply Int32.toBitVec_inj.mp
  have key : ∀ x l : BitVec 32, ((((x &&& 0#32) ||| ((l &&& 15#32) <<< 0)) ||| ((x.sshiftRight 0) <<< 4))).sshiftRight 8 &&& 15#32 = x.sshiftRight 4 &&& 15#32 := by
    intro x l
    apply ky_bx <;> first | (simp only [BitVec.getLsbD_sshiftRight, BitVec.getLsbD_shiftLeft, BitVec.getLsbD_or, BitVec.getLsbD_and]; simp; done) | (simp [BitVec.getElem_sshiftRight, BitVec.getElem_shiftLeft]; done)
  exact key p.toBitVec l.toBitVec
theorem ky_wi_1_0 (p l : Int32) : ky_nb (ky_wi p (Int32.ofNat 1) (l &&& Int32.ofNat 15)) (Int32.ofNat 0) = ky_nb p (Int32.ofNat 0) := by
  apply Int32.toBitVec_inj.mp
  have key : ∀ x l : BitVec 32, ((((x &&& 15#32) ||| ((l &&& 15#32) <<< 4)) ||| ((x.sshiftRight 4) <<< 8))).sshiftRight 0 &&& 15#32 = x.sshiftRight 0 &&& 15#32 := by
    intro x l
    apply ky_bx <;> first | (simp only [BitVec.getLsbD_sshiftRight, BitVec.getLsbD_shiftLeft, BitVec.getLsbD_or, BitVec.getLsbD_and]; simp; done) | (simp [BitVec.getElem_sshiftRight, BitVec.getElem_shiftLeft]; done)
  exact key p.toBitVec l.toBitVec
theorem ky_wi_1_1 (p l : Int32) : ky_nb (ky_wi p (Int32.ofNat 1) (l &&& Int32.ofNat 15)) (Int32.ofNat 1) = l &&& (Int32.ofNat 15) := by
  apply Int32.toBitVec_inj.mp
  have key : ∀ x l : BitVec 32, ((((x &&& 15#32) ||| ((l &&& 15#32) <<< 4)) ||| ((x.sshiftRight 4) <<< 8))).sshiftRight 4 &&& 15#32 = l &&& 15#32 := by
    intro x l
    apply ky_bx <;> first | (simp only [BitVec.getLsbD_sshiftRight, BitVec.getLsbD_shiftLeft, BitVec.getLsbD_or, BitVec.getLsbD_and]; simp; done) | (simp [BitVec.getElem_sshiftRight, BitVec.getElem_shiftLeft]; done)
  exact key p.toBitVec l.toBitVec
theorem ky_wi_1_2 (p l : Int32) : ky_nb (ky_wi p (Int32.ofNat 1) (l &&& Int32.ofNat 15)) (Int32.ofNat 2) = ky_nb p (Int32.ofNat 1) := by
  apply Int32.toBitVec_inj.mp
  have key : ∀ x l : BitVec 32, ((((x &&& 15#32) ||| ((l &&& 15#32) <<< 4)) ||| ((x.sshiftRight 4) <<< 8))).sshiftRight 8 &&& 15#32 = x.sshiftRight 4 &&& 15#32 := by
    intro x l
    apply ky_bx <;> first | (simp only [BitVec.getLsbD_sshiftRight, BitVec.getLsbD_shiftLeft, BitVec.getLsbD_or, BitVec.getLsbD_and]; simp; done) | (simp [BitVec.getElem_sshiftRight, BitVec.getElem_shiftLeft]; done)
  exact key p.toBitVec l.toBitVec
theorem ky_wi_2_0 (p l : Int32) : ky_nb (ky_wi p (Int32.ofNat 2) (l &&& Int32.ofNat 15)) (Int32.ofNat 0) = ky_nb p (Int32.ofNat 0) := by
  apply Int32.toBitVec_inj.mp
  have key : ∀ x l : BitVec 32, ((((x &&& 255#32) ||| ((l &&& 15#32) <<< 8)) ||| ((x.sshiftRight 8) <<< 12))).sshiftRight 0 &&& 15#32 = x.sshiftRight 0 &&& 15#32 := by
    intro x l
    apply ky_bx <;> first | (simp only [BitVec.getLsbD_sshiftRight, BitVec.getLsbD_shiftLeft, BitVec.getLsbD_or, BitVec.getLsbD_and]; simp; done) | (simp [BitVec.getElem_sshiftRight, BitVec.getElem_shiftLeft]; done)
  exact key p.toBitVec l.toBitVec
theorem ky_wi_2_1 (p l : Int32) : ky_nb (ky_wi p (Int32.ofNat 2) (l &&& Int32.ofNat 15)) (Int32.ofNat 1) = ky_nb p (Int32.ofNat 1) := by
  apply Int32.toBitVec_inj.mp
  have key : ∀ x l : BitVec 32, ((((x &&& 255#32) ||| ((l &&& 15#32) <<< 8)) ||| ((x.sshiftRight 8) <<< 12))).sshiftRight 4 &&& 15#32 = x.sshiftRight 4 &&& 15#32 := by
    intro x l
    apply ky_bx <;> first | (simp only [BitVec.getLsbD_sshiftRight, BitVec.getLsbD_shiftLeft, BitVec.getLsbD_or, BitVec.getLsbD_and]; simp; done) | (simp [BitVec.getElem_sshiftRight, BitVec.getElem_shiftLeft]; done)
  exact key p.toBitVec l.toBitVec
theorem ky_wi_2_2 (p l : Int32) : ky_nb (ky_wi p (Int32.ofNat 2) (l &&& Int32.ofNat 15)) (Int32.ofNat 2) = l &&& (Int32.ofNat 15) := by
  apply Int32.toBitVec_inj.mp
  have key : ∀ x l : BitVec 32, ((((x &&& 255#32) ||| ((l &&& 15#32) <<< 8)) ||| ((x.sshiftRight 8) <<< 12))).sshiftRight 8 &&& 15#32 = l &&& 15#32 := by
    intro x l
    apply ky_bx <;> first | (simp only [BitVec.getLsbD_sshiftRight, BitVec.getLsbD_shiftLeft, BitVec.getLsbD_or, BitVec.getLsbD_and]; simp; done) | (simp [BitVec.getElem_sshiftRight, BitVec.getElem_shiftLeft]; done)
  exact key p.toBitVec l.toBitVec
def ky_I (p hi : Int32) : Prop := ∀ k : Nat, k < 3 → (k : Int) < hi.toInt → ∃ v, v ≤ 9 ∧ ky_nb p (Int32.ofNat k) = Int32.ofNat v
theorem ky_l15 : ∀ l, l < 10 → (Int32.ofNat l &&& Int32.ofNat 15) = Int32.ofNat l := by decide
theorem ky_sub1 {hi : Int32} (h1 : -2147483648 < hi.toInt) : (hi - Int32.ofNat 1).toInt = hi.toInt - 1 := by
  rw [Int32.toInt_sub, show (Int32.ofNat 1).toInt = 1 from by decide]
  have := Int32.toInt_lt hi
  exact Int.bmod_eq_of_le (by omega) (by omega)
theorem ky_I_wo1 {p hi : Int32} (hI : ky_I p hi) (h3 : hi.toInt ≤ 3) {k : Nat} (hk : (k : Int) < hi.toInt) (hm : -2147483648 < hi.toInt) : ky_I (ky_wo p (Int32.ofNat k)) (hi - Int32.ofNat 1) := by
  intro j hj hlt
  rw [ky_sub1 hm] at hlt
  rcases (show k = 0 ∨ k = 1 ∨ k = 2 by omega) with rfl | rfl | rfl
  · rcases (show j = 0 ∨ j = 1 by omega) with rfl | rfl
    · rw [ky_wo_0_0]; exact hI 1 (by omega) (by omega)
    · rw [ky_wo_0_1]; exact hI 2 (by omega) (by omega)
  · rcases (show j = 0 ∨ j = 1 by omega) with rfl | rfl
    · rw [ky_wo_1_0]; exact hI 0 (by omega) (by omega)
    · rw [ky_wo_1_1]; exact hI 2 (by omega) (by omega)
  · rcases (show j = 0 ∨ j = 1 by omega) with rfl | rfl
    · rw [ky_wo_2_0]; exact hI 0 (by omega) (by omega)
    · rw [ky_wo_2_1]; exact hI 1 (by omega) (by omega)
theorem ky_I_wo2 {p hi : Int32} (hI : ky_I p hi) (h3 : hi.toInt ≤ 3) (hm : -2147483648 < hi.toInt) : ky_I (ky_wo p hi) (hi - Int32.ofNat 1) := by
  intro j hj hlt
  rw [ky_sub1 hm] at hlt
  rcases (show hi.toInt = 2 ∨ hi.toInt = 3 by omega) with e | e
  · obtain rfl : hi = Int32.ofNat 2 := Int32.toInt_inj.mp (by rw [e]; decide)
    obtain rfl : j = 0 := by omega
    rw [ky_wo_2_0]; exact hI 0 (by omega) (by omega)
  · obtain rfl : hi = Int32.ofNat 3 := Int32.toInt_inj.mp (by rw [e]; decide)
    rcases (show j = 0 ∨ j = 1 by omega) with rfl | rfl
    · rw [ky_wo_3_0]; exact hI 0 (by omega) (by omega)
    · rw [ky_wo_3_1]; exact hI 1 (by omega) (by omega)
theorem ky_I_wi {p : Int32} {hn i l : Nat} (hl : l < 10) (hI : ky_I p (Int32.ofNat hn)) (hi : i ≤ hn) (h3 : hn < 3) : ky_I (ky_wi p (Int32.ofNat i) (Int32.ofNat l)) (Int32.ofNat (hn + 1)) := by
  intro j hj hlt
  rw [kx_ti (by omega)] at hlt
  have hI : ∀ k : Nat, k < 3 → k < hn → ∃ v, v ≤ 9 ∧ ky_nb p (Int32.ofNat k) = Int32.ofNat v := fun k h1 h2 => hI k h1 (by rw [kx_ti (by omega)]; omega)
  rw [show Int32.ofNat l = Int32.ofNat l &&& Int32.ofNat 15 from (ky_l15 l hl).symm]
  rcases (show i = 0 ∨ i = 1 ∨ i = 2 by omega) with rfl | rfl | rfl
  · rcases (show j = 0 ∨ j = 1 ∨ j = 2 by omega) with rfl | rfl | rfl
    · rw [ky_wi_0_0, ky_l15 l hl]; exact ⟨l, by omega, rfl⟩
    · rw [ky_wi_0_1]; exact hI 0 (by omega) (by omega)
    · rw [ky_wi_0_2]; exact hI 1 (by omega) (by omega)
  · rcases (show j = 0 ∨ j = 1 ∨ j = 2 by omega) with rfl | rfl | rfl
    · rw [ky_wi_1_0]; exact hI 0 (by omega) (by omega)
    · rw [ky_wi_1_1, ky_l15 l hl]; exact ⟨l, by omega, rfl⟩
    · rw [ky_wi_1_2]; exact hI 1 (by omega) (by omega)
  · rcases (show j = 0 ∨ j = 1 ∨ j = 2 by omega) with rfl | rfl | rfl
    · rw [ky_wi_2_0]; exact hI 0 (by omega) (by omega)
    · rw [ky_wi_2_1]; exact hI 1 (by omega) (by omega)
    · rw [ky_wi_2_2, ky_l15 l hl]; exact ⟨l, by omega, rfl⟩
set_option maxRecDepth 20000 in
theorem ky_218 {g : kc_G} {d : Nat} {h : kc_H} {p i : Int32} (hg : kc_ok g) : kc_Con g (d + 1) 218 [.inl (p), .inl (i)] h (fun rv h' => rv = some (.inl (ky_nb p i)) ∧ h' = h) := by
  refine kc_Con_new hg (M := wk_m218) rfl rfl rfl (show 2 ≤ 2 by decide) ?_
  refine kx_go 7 (pc' := 8) (L' := [(0, .inl (p)), (1, .inl (i))]) (S' := [.inl ((p >>> (((Int32.ofNat 4) * i) &&& 31)) &&& (Int32.ofNat 15))]) (h' := h) (by with_unfolding_all rfl) ?_
  exact kc_ret_ok rfl (rv := some (.inl (ky_nb p i))) rfl ⟨rfl, rfl⟩
set_option maxRecDepth 20000 in
theorem ky_219 {g : kc_G} {d : Nat} {h : kc_H} {p i : Int32} (hg : kc_ok g) : kc_Con g (d + 1) 219 [.inl (p), .inl (i)] h (fun rv h' => rv = some (.inl (ky_wo p i)) ∧ h' = h) := by
  refine kc_Con_new hg (M := wk_m219) rfl rfl rfl (show 2 ≤ 3 by decide) ?_
  refine kx_go 23 (pc' := 23) (L' := [(2, .inl (p &&& (((Int32.ofNat 1) <<< (((Int32.ofNat 4) * i) &&& 31)) - (Int32.ofNat 1)))), (0, .inl (p)), (1, .inl (i))]) (S' := [.inl ((p &&& (((Int32.ofNat 1) <<< (((Int32.ofNat 4) * i) &&& 31)) - (Int32.ofNat 1))) ||| ((p >>> ((((Int32.ofNat 4) * i) + (Int32.ofNat 4)) &&& 31)) <<< (((Int32.ofNat 4) * i) &&& 31)))]) (h' := h) (by with_unfolding_all rfl) ?_
  exact kc_ret_ok rfl (rv := some (.inl (ky_wo p i))) rfl ⟨rfl, rfl⟩
set_option maxRecDepth 20000 in
theorem ky_221 {g : kc_G} {d : Nat} {h : kc_H} {p i l : Int32} (hg : kc_ok g) : kc_Con g (d + 1) 221 [.inl (p), .inl (i), .inl (l)] h (fun rv h' => rv = some (.inl (ky_wi p i l)) ∧ h' = h) := by
  refine kc_Con_new hg (M := wk_m221) rfl rfl rfl (show 3 ≤ 4 by decide) ?_
  refine kx_go 29 (pc' := 29) (L' := [(3, .inl (p &&& (((Int32.ofNat 1) <<< (((Int32.ofNat 4) * i) &&& 31)) - (Int32.ofNat 1)))), (0, .inl (p)), (1, .inl (i)), (2, .inl (l))]) (S' := [.inl (((p &&& (((Int32.ofNat 1) <<< (((Int32.ofNat 4) * i) &&& 31)) - (Int32.ofNat 1))) ||| (l <<< (((Int32.ofNat 4) * i) &&& 31))) ||| ((p >>> (((Int32.ofNat 4) * i) &&& 31)) <<< ((((Int32.ofNat 4) * i) + (Int32.ofNat 4)) &&& 31)))]) (h' := h) (by with_unfolding_all rfl) ?_
  exact kc_ret_ok rfl (rv := some (.inl (ky_wi p i l))) rfl ⟨rfl, rfl⟩
theorem ky_186 {g : kc_G} {d : Nat} {h : kc_H} {l : Nat} (hg : kc_ok g) (hw : kd_wt kd_ty h) (hl : l ≤ 9) : kc_Con g (d + 1) 186 [.inr (.inr (.inl (some 1))), .inl (Int32.ofNat l)] h (fun rv h' => ∃ b : Int32, rv = some (.inl b) ∧ h' = h) := by
  refine kc_Con_mono (kc_Con_le (kd_hold_le (kd_h186 hg) (Nat.le_refl _) _ h hw ⟨⟨1, rfl, by decide, by decide⟩, kx_gof (u := 9) (by omega) hl, trivial⟩ (fun q hq => by cases hq)) (by omega)) (fun rv h' hq => ?_)
  obtain ⟨p, p1, p2, -, -, p5⟩ := hq
  obtain rfl := List.mem_singleton.mp p1
  cases rv with
  | none => exact p2.elim
  | some y =>
    obtain ⟨z, rfl, z1, z2⟩ := p2
    refine ⟨z, rfl, ?_⟩
    funext c i
    exact p5 c i (fun q hq => by cases hq)
theorem ky_k : kd_rn (kd_ty 253) 0 = some (3, 1, 1) ∧ kd_rn (kd_ty 253) 2 = some (0, 2147483648, 2147483648 + 20) ∧ kd_rn (kd_ty 253) 3 = some (3, 254, 254) := by decide +kernel
theorem ky_k254 : ∀ j, j < 20 → kd_rn (kd_ty 254) j = some (0, 2147483648, 2147483648 + 19) := by decide +kernel
theorem ky_sh : ∀ v, v < 20 → (Int32.ofNat v) >>> ((Int32.ofNat 1) &&& 31) = Int32.ofNat (v / 2) := by decide
theorem ky_dec : ∀ c, c < 3 → (Int32.ofNat (c + 1)) + Int32.ofInt (-1) = Int32.ofNat c := by decide
theorem ky_pre : ∀ c, c < 3 → (Int32.ofNat (c + 1)) - (Int32.ofNat 1) = Int32.ofNat c := by decide
set_option maxRecDepth 20000 in
theorem ky_217l {g : kc_G} {d : Nat} {h : kc_H} {p hi l : Int32} (hg : kc_ok g) (hd : 1 ≤ d) (h3 : hi.toInt ≤ 3) : ∀ (m i : Nat), 5 - i ≤ m → i ≤ 4 → kc_Ev g d wk_m217 (fun rv h' => ∃ r : Int32, rv = some (.inl r) ∧ h' = h ∧ ((∃ k : Nat, (k : Int) < hi.toInt ∧ r = Int32.ofNat k) ∨ r = hi)) 2 [(3, .inl (Int32.ofNat i)), (0, .inl (p)), (1, .inl (hi)), (2, .inl (l))] [] h := by
  intro m
  induction m with
  | zero => intro i hm hi4; omega
  | succ m ih =>
    intro i hm hi4
    refine kx_go 3 (pc' := (if kc_cnd .ge (Int32.ofNat i).toInt (hi).toInt then 24 else 7)) (L' := [(3, .inl (Int32.ofNat i)), (0, .inl (p)), (1, .inl (hi)), (2, .inl (l))]) (S' := []) (h' := h) (by with_unfolding_all rfl) ?_
    by_cases e : kc_cnd .ge (Int32.ofNat i).toInt hi.toInt = true
    · rw [if_pos e]
      refine kx_go 1 (pc' := 25) (L' := [(3, .inl (Int32.ofNat i)), (0, .inl (p)), (1, .inl (hi)), (2, .inl (l))]) (S' := [.inl (hi)]) (h' := h) (by with_unfolding_all rfl) ?_
      exact kc_ret_ok rfl (rv := some (.inl (hi))) rfl ⟨hi, rfl, rfl, Or.inr rfl⟩
    · rw [if_neg e]
      have e2 : (i : Int) < hi.toInt := by
        unfold kc_cnd at e
        rw [kx_ti (by omega)] at e
        simpa using e
      refine kx_go 2 (pc' := 9) (L' := [(3, .inl (Int32.ofNat i)), (0, .inl (p)), (1, .inl (hi)), (2, .inl (l))]) (S' := [.inl (Int32.ofNat i), .inl (p)]) (h' := h) (by with_unfolding_all rfl) ?_
      refine kc_call_rule (M2 := wk_m218) (av := [.inl (p), .inl (Int32.ofNat i)]) (r := []) rfl rfl (kc_Con_le (ky_218 (d := 0) hg) (by omega)) (fun rv h' hq => ?_)
      obtain ⟨rfl, rfl⟩ := hq
      show kc_Ev g d wk_m217 _ 12 [(3, .inl (Int32.ofNat i)), (0, .inl (p)), (1, .inl (hi)), (2, .inl (l))] [.inl (ky_nb p (Int32.ofNat i))] h'
      refine kx_go 2 (pc' := (if kc_cnd .ne (ky_nb p (Int32.ofNat i)).toInt (l).toInt then 18 else 16)) (L' := [(3, .inl (Int32.ofNat i)), (0, .inl (p)), (1, .inl (hi)), (2, .inl (l))]) (S' := []) (h' := h') (by with_unfolding_all rfl) ?_
      by_cases e3 : kc_cnd .ne (ky_nb p (Int32.ofNat i)).toInt l.toInt = true
      · rw [if_pos e3]
        refine kx_go 2 (pc' := 2) (L' := [(3, .inl ((Int32.ofNat i) + Int32.ofInt 1)), (0, .inl (p)), (1, .inl (hi)), (2, .inl (l))]) (S' := []) (h' := h') (by with_unfolding_all rfl) ?_
        rw [kx_inc]
        exact ih (i + 1) (by omega) (by omega)
      · rw [if_neg e3]
        refine kx_go 1 (pc' := 17) (L' := [(3, .inl (Int32.ofNat i)), (0, .inl (p)), (1, .inl (hi)), (2, .inl (l))]) (S' := [.inl (Int32.ofNat i)]) (h' := h') (by with_unfolding_all rfl) ?_
        exact kc_ret_ok rfl (rv := some (.inl (Int32.ofNat i))) rfl ⟨_, rfl, rfl, Or.inl ⟨i, e2, rfl⟩⟩
set_option maxRecDepth 20000 in
theorem ky_217 {g : kc_G} {d : Nat} {h : kc_H} {p hi l : Int32} (hg : kc_ok g) (h3 : hi.toInt ≤ 3) : kc_Con g (d + 2) 217 [.inl p, .inl hi, .inl l] h (fun rv h' => ∃ r : Int32, rv = some (.inl r) ∧ h' = h ∧ ((∃ k : Nat, (k : Int) < hi.toInt ∧ r = Int32.ofNat k) ∨ r = hi)) := by
  refine kc_Con_new hg (M := wk_m217) rfl rfl rfl (show 3 ≤ 4 by decide) ?_
  refine kx_go 2 (pc' := 2) (L' := [(3, .inl (Int32.ofNat 0)), (0, .inl (p)), (1, .inl (hi)), (2, .inl (l))]) (S' := []) (h' := h) (by with_unfolding_all rfl) ?_
  exact ky_217l hg (by omega) h3 5 0 (by omega) (by omega)
set_option maxRecDepth 20000 in
theorem ky_220 {g : kc_G} {d : Nat} {h : kc_H} {p hi : Int32} {l c : Nat} (hg : kc_ok g) (hw : kd_wt kd_ty h) (hl : l ≤ 9) (hc : c < 3) (hch : (c : Int) ≤ hi.toInt) (hI : ky_I p hi) : kc_Con g (d + 2) 220 [.inr (.inr (.inl (some 253))), .inl (Int32.ofNat l), .inl (p), .inl (hi), .inl (Int32.ofNat c)] h (fun rv h' => ∃ b : Int32, rv = some (.inl b) ∧ h' = h) := by
  refine kc_Con_new hg (M := wk_m220) rfl rfl rfl (show 5 ≤ 5 by decide) ?_
  have k0 := kx_ofr (hw _ _ _ ky_k.1)
  refine kx_go 1 (pc' := 1) (L' := [(0, .inr (.inr (.inl (some 253)))), (1, .inl (Int32.ofNat l)), (2, .inl (p)), (3, .inl (hi)), (4, .inl (Int32.ofNat c))]) (S' := [.inr (.inr (.inl (some 253)))]) (h' := h) (by with_unfolding_all rfl) ?_
  refine kx_getf (c := 253) (v := .inr (.inr (.inl (some 1)))) rfl (by decide) k0 ?_
  refine kx_go 1 (pc' := 5) (L' := [(0, .inr (.inr (.inl (some 253)))), (1, .inl (Int32.ofNat l)), (2, .inl (p)), (3, .inl (hi)), (4, .inl (Int32.ofNat c))]) (S' := [.inl (Int32.ofNat l), .inr (.inr (.inl (some 1)))]) (h' := h) (by with_unfolding_all rfl) ?_
  refine kc_call_rule (M2 := wk_m186) (av := [.inr (.inr (.inl (some 1))), .inl (Int32.ofNat l)]) (r := []) rfl rfl (kc_Con_le (ky_186 (d := 0) hg hw hl) (by omega)) (fun rv h' hq => ?_)
  obtain ⟨b, rfl, rfl⟩ := hq
  show kc_Ev g (d + 1) wk_m220 _ 8 [(0, .inr (.inr (.inl (some 253)))), (1, .inl (Int32.ofNat l)), (2, .inl (p)), (3, .inl (hi)), (4, .inl (Int32.ofNat c))] [.inl (b)] h'
  refine kx_go 1 (pc' := (if kc_cnd .eq (b).toInt 0 then 40 else 11)) (L' := [(0, .inr (.inr (.inl (some 253)))), (1, .inl (Int32.ofNat l)), (2, .inl (p)), (3, .inl (hi)), (4, .inl (Int32.ofNat c))]) (S' := []) (h' := h') (by with_unfolding_all rfl) ?_
  by_cases e1 : kc_cnd .eq b.toInt 0 = true
  · rw [if_pos e1]
    refine kx_go 3 (pc' := (if kc_cnd .ge (Int32.ofNat c).toInt (hi).toInt then 62 else 46)) (L' := [(0, .inr (.inr (.inl (some 253)))), (1, .inl (Int32.ofNat l)), (2, .inl (p)), (3, .inl (hi)), (4, .inl (Int32.ofNat c))]) (S' := []) (h' := h') (by with_unfolding_all rfl) ?_
    by_cases e2 : kc_cnd .ge (Int32.ofNat c).toInt hi.toInt = true
    · rw [if_pos e2]
      refine kx_go 2 (pc' := 67) (L' := [(0, .inr (.inr (.inl (some 253)))), (1, .inl (Int32.ofNat l)), (2, .inl (p)), (3, .inl (hi)), (4, .inl (Int32.ofNat c))]) (S' := [.inl (Int32.ofNat 1)]) (h' := h') (by with_unfolding_all rfl) ?_
      exact kc_ret_ok rfl (rv := some (.inl (Int32.ofNat 1))) rfl ⟨_, rfl, rfl⟩
    · rw [if_neg e2]
      have e3 : (c : Int) < hi.toInt := by
        unfold kc_cnd at e2
        rw [kx_ti (by omega)] at e2
        simpa using e2
      obtain ⟨v, v9, ev⟩ := hI c hc e3
      refine kx_go 1 (pc' := 47) (L' := [(0, .inr (.inr (.inl (some 253)))), (1, .inl (Int32.ofNat l)), (2, .inl (p)), (3, .inl (hi)), (4, .inl (Int32.ofNat c))]) (S' := [.inr (.inr (.inl (some 253)))]) (h' := h') (by with_unfolding_all rfl) ?_
      refine kx_getf (c := 253) (v := .inr (.inr (.inl (some 1)))) rfl (by decide) k0 ?_
      refine kx_go 2 (pc' := 53) (L' := [(0, .inr (.inr (.inl (some 253)))), (1, .inl (Int32.ofNat l)), (2, .inl (p)), (3, .inl (hi)), (4, .inl (Int32.ofNat c))]) (S' := [.inl (Int32.ofNat c), .inl (p), .inr (.inr (.inl (some 1)))]) (h' := h') (by with_unfolding_all rfl) ?_
      refine kc_call_rule (M2 := wk_m218) (av := [.inl (p), .inl (Int32.ofNat c)]) (r := [.inr (.inr (.inl (some 1)))]) rfl rfl (kc_Con_le (ky_218 (d := 0) hg) (by omega)) (fun rv h' hq => ?_)
      obtain ⟨rfl, rfl⟩ := hq
      show kc_Ev g (d + 1) wk_m220 _ 56 [(0, .inr (.inr (.inl (some 253)))), (1, .inl (Int32.ofNat l)), (2, .inl (p)), (3, .inl (hi)), (4, .inl (Int32.ofNat c))] [.inl (ky_nb p (Int32.ofNat c)), .inr (.inr (.inl (some 1)))] h'
      rw [ev]
      refine kc_call_rule (M2 := wk_m186) (av := [.inr (.inr (.inl (some 1))), .inl (Int32.ofNat v)]) (r := []) rfl rfl (kc_Con_le (ky_186 (d := 0) hg hw v9) (by omega)) (fun rv h' hq => ?_)
      obtain ⟨b2, rfl, rfl⟩ := hq
      show kc_Ev g (d + 1) wk_m220 _ 59 [(0, .inr (.inr (.inl (some 253)))), (1, .inl (Int32.ofNat l)), (2, .inl (p)), (3, .inl (hi)), (4, .inl (Int32.ofNat c))] [.inl (b2)] h'
      refine kx_go 1 (pc' := (if kc_cnd .ne (b2).toInt 0 then 66 else 62)) (L' := [(0, .inr (.inr (.inl (some 253)))), (1, .inl (Int32.ofNat l)), (2, .inl (p)), (3, .inl (hi)), (4, .inl (Int32.ofNat c))]) (S' := []) (h' := h') (by with_unfolding_all rfl) ?_
      by_cases e4 : kc_cnd .ne b2.toInt 0 = true
      · rw [if_pos e4]
        refine kx_go 1 (pc' := 67) (L' := [(0, .inr (.inr (.inl (some 253)))), (1, .inl (Int32.ofNat l)), (2, .inl (p)), (3, .inl (hi)), (4, .inl (Int32.ofNat c))]) (S' := [.inl (Int32.ofNat 0)]) (h' := h') (by with_unfolding_all rfl) ?_
        exact kc_ret_ok rfl (rv := some (.inl (Int32.ofNat 0))) rfl ⟨_, rfl, rfl⟩
      · rw [if_neg e4]
        refine kx_go 2 (pc' := 67) (L' := [(0, .inr (.inr (.inl (some 253)))), (1, .inl (Int32.ofNat l)), (2, .inl (p)), (3, .inl (hi)), (4, .inl (Int32.ofNat c))]) (S' := [.inl (Int32.ofNat 1)]) (h' := h') (by with_unfolding_all rfl) ?_
        exact kc_ret_ok rfl (rv := some (.inl (Int32.ofNat 1))) rfl ⟨_, rfl, rfl⟩
  · rw [if_neg e1]
    refine kx_go 2 (pc' := (if kc_cnd .eq (Int32.ofNat c).toInt 0 then 34 else 16)) (L' := [(0, .inr (.inr (.inl (some 253)))), (1, .inl (Int32.ofNat l)), (2, .inl (p)), (3, .inl (hi)), (4, .inl (Int32.ofNat c))]) (S' := []) (h' := h') (by with_unfolding_all rfl) ?_
    by_cases e2 : kc_cnd .eq (Int32.ofNat c).toInt 0 = true
    · rw [if_pos e2]
      refine kx_go 2 (pc' := 39) (L' := [(0, .inr (.inr (.inl (some 253)))), (1, .inl (Int32.ofNat l)), (2, .inl (p)), (3, .inl (hi)), (4, .inl (Int32.ofNat c))]) (S' := [.inl (Int32.ofNat 1)]) (h' := h') (by with_unfolding_all rfl) ?_
      exact kc_ret_ok rfl (rv := some (.inl (Int32.ofNat 1))) rfl ⟨_, rfl, rfl⟩
    · rw [if_neg e2]
      obtain ⟨c2, rfl⟩ : ∃ c2, c = c2 + 1 := by
        cases c with
        | zero => exact absurd (by decide) e2
        | succ c2 => exact ⟨c2, rfl⟩
      obtain ⟨v, v9, ev⟩ := hI c2 (by omega) (by omega)
      refine kx_go 1 (pc' := 17) (L' := [(0, .inr (.inr (.inl (some 253)))), (1, .inl (Int32.ofNat l)), (2, .inl (p)), (3, .inl (hi)), (4, .inl (Int32.ofNat (c2 + 1)))]) (S' := [.inr (.inr (.inl (some 253)))]) (h' := h') (by with_unfolding_all rfl) ?_
      refine kx_getf (c := 253) (v := .inr (.inr (.inl (some 1)))) rfl (by decide) k0 ?_
      refine kx_go 4 (pc' := 25) (L' := [(0, .inr (.inr (.inl (some 253)))), (1, .inl (Int32.ofNat l)), (2, .inl (p)), (3, .inl (hi)), (4, .inl (Int32.ofNat (c2 + 1)))]) (S' := [.inl ((Int32.ofNat (c2 + 1)) - (Int32.ofNat 1)), .inl (p), .inr (.inr (.inl (some 1)))]) (h' := h') (by with_unfolding_all rfl) ?_
      rw [ky_pre c2 (by omega)]
      refine kc_call_rule (M2 := wk_m218) (av := [.inl (p), .inl (Int32.ofNat c2)]) (r := [.inr (.inr (.inl (some 1)))]) rfl rfl (kc_Con_le (ky_218 (d := 0) hg) (by omega)) (fun rv h' hq => ?_)
      obtain ⟨rfl, rfl⟩ := hq
      show kc_Ev g (d + 1) wk_m220 _ 28 [(0, .inr (.inr (.inl (some 253)))), (1, .inl (Int32.ofNat l)), (2, .inl (p)), (3, .inl (hi)), (4, .inl (Int32.ofNat (c2 + 1)))] [.inl (ky_nb p (Int32.ofNat c2)), .inr (.inr (.inl (some 1)))] h'
      rw [ev]
      refine kc_call_rule (M2 := wk_m186) (av := [.inr (.inr (.inl (some 1))), .inl (Int32.ofNat v)]) (r := []) rfl rfl (kc_Con_le (ky_186 (d := 0) hg hw v9) (by omega)) (fun rv h' hq => ?_)
      obtain ⟨b2, rfl, rfl⟩ := hq
      show kc_Ev g (d + 1) wk_m220 _ 31 [(0, .inr (.inr (.inl (some 253)))), (1, .inl (Int32.ofNat l)), (2, .inl (p)), (3, .inl (hi)), (4, .inl (Int32.ofNat (c2 + 1)))] [.inl (b2)] h'
      refine kx_go 1 (pc' := (if kc_cnd .eq (b2).toInt 0 then 38 else 34)) (L' := [(0, .inr (.inr (.inl (some 253)))), (1, .inl (Int32.ofNat l)), (2, .inl (p)), (3, .inl (hi)), (4, .inl (Int32.ofNat (c2 + 1)))]) (S' := []) (h' := h') (by with_unfolding_all rfl) ?_
      by_cases e4 : kc_cnd .eq b2.toInt 0 = true
      · rw [if_pos e4]
        refine kx_go 1 (pc' := 39) (L' := [(0, .inr (.inr (.inl (some 253)))), (1, .inl (Int32.ofNat l)), (2, .inl (p)), (3, .inl (hi)), (4, .inl (Int32.ofNat (c2 + 1)))]) (S' := [.inl (Int32.ofNat 0)]) (h' := h') (by with_unfolding_all rfl) ?_
        exact kc_ret_ok rfl (rv := some (.inl (Int32.ofNat 0))) rfl ⟨_, rfl, rfl⟩
      · rw [if_neg e4]
        refine kx_go 2 (pc' := 39) (L' := [(0, .inr (.inr (.inl (some 253)))), (1, .inl (Int32.ofNat l)), (2, .inl (p)), (3, .inl (hi)), (4, .inl (Int32.ofNat (c2 + 1)))]) (S' := [.inl (Int32.ofNat 1)]) (h' := h') (by with_unfolding_all rfl) ?_
        exact kc_ret_ok rfl (rv := some (.inl (Int32.ofNat 1))) rfl ⟨_, rfl, rfl⟩
set_option maxRecDepth 20000 in
theorem ky_lx {g : kc_G} {d : Nat} {h : kc_H} {i f p hi : Int32} {e l : Nat} (hi0 : i.toInt < 0) : kc_Ev g d wk_m216 (fun rv h' => (∃ z : Int32, rv = some (.inl z)) ∧ h' = h) 77 [(6, .inl (i)), (5, .inl (f)), (4, .inl (Int32.ofNat l)), (0, .inr (.inr (.inl (some 253)))), (1, .inl (Int32.ofNat e)), (2, .inl (p)), (3, .inl (hi))] [] h := by
  refine kx_go 2 (pc' := (if kc_cnd .lt (i).toInt 0 then 137 else 82)) (L' := [(6, .inl (i)), (5, .inl (f)), (4, .inl (Int32.ofNat l)), (0, .inr (.inr (.inl (some 253)))), (1, .inl (Int32.ofNat e)), (2, .inl (p)), (3, .inl (hi))]) (S' := []) (h' := h) (by with_unfolding_all rfl) ?_
  rw [if_pos (by unfold kc_cnd; simpa using hi0)]
  refine kx_go 1 (pc' := 139) (L' := [(6, .inl (i)), (5, .inl (f)), (4, .inl (Int32.ofNat l)), (0, .inr (.inr (.inl (some 253)))), (1, .inl (Int32.ofNat e)), (2, .inl (p)), (3, .inl (hi))]) (S' := [.inl (f)]) (h' := h) (by with_unfolding_all rfl) ?_
  exact kc_ret_ok rfl (rv := some (.inl (f))) rfl ⟨⟨_, rfl⟩, rfl⟩
set_option maxRecDepth 20000 in
theorem ky_ll {g : kc_G} {d : Nat} {h : kc_H} {p : Int32} {hn e l : Nat} (hg : kc_ok g) (hd : 3 ≤ d) (hw : kd_wt kd_ty h) (hl : l ≤ 9) (h3 : hn < 3) (hI : ky_I p (Int32.ofNat hn)) (hrec : ∀ (p2 hi2 : Int32), ky_I p2 hi2 → 0 ≤ hi2.toInt → hi2.toInt ≤ 3 → kc_Con g d 216 [.inr (.inr (.inl (some 253))), .inl (Int32.ofNat (e + 1)), .inl p2, .inl hi2] h (fun rv h' => (∃ z : Int32, rv = some (.inl z)) ∧ h' = h)) : ∀ (c : Nat) (f : Int32), c ≤ hn → kc_Ev g d wk_m216 (fun rv h' => (∃ z : Int32, rv = some (.inl z)) ∧ h' = h) 77 [(6, .inl (Int32.ofNat c)), (5, .inl (f)), (4, .inl (Int32.ofNat l)), (0, .inr (.inr (.inl (some 253)))), (1, .inl (Int32.ofNat e)), (2, .inl (p)), (3, .inl (Int32.ofNat hn))] [] h := by
  intro c
  induction c with
  | zero =>
    intro f hcn
    refine kx_go 2 (pc' := (if kc_cnd .lt (Int32.ofNat 0).toInt 0 then 137 else 82)) (L' := [(6, .inl (Int32.ofNat 0)), (5, .inl (f)), (4, .inl (Int32.ofNat l)), (0, .inr (.inr (.inl (some 253)))), (1, .inl (Int32.ofNat e)), (2, .inl (p)), (3, .inl (Int32.ofNat hn))]) (S' := []) (h' := h) (by with_unfolding_all rfl) ?_
    rw [if_neg (by unfold kc_cnd; rw [kx_ti (by omega)]; simp only [decide_eq_true_eq]; omega)]
    have next : ∀ f : Int32, kc_Ev g d wk_m216 (fun rv h' => (∃ z : Int32, rv = some (.inl z)) ∧ h' = h) 131 [(6, .inl (Int32.ofNat 0)), (5, .inl (f)), (4, .inl (Int32.ofNat l)), (0, .inr (.inr (.inl (some 253)))), (1, .inl (Int32.ofNat e)), (2, .inl (p)), (3, .inl (Int32.ofNat hn))] [] h := by
      intro f
      refine kx_go 2 (pc' := 77) (L' := [(6, .inl ((Int32.ofNat 0) + Int32.ofInt (-1))), (5, .inl (f)), (4, .inl (Int32.ofNat l)), (0, .inr (.inr (.inl (some 253)))), (1, .inl (Int32.ofNat e)), (2, .inl (p)), (3, .inl (Int32.ofNat hn))]) (S' := []) (h' := h) (by with_unfolding_all rfl) ?_
      exact ky_lx (by decide)
    refine kx_go 5 (pc' := 89) (L' := [(6, .inl (Int32.ofNat 0)), (5, .inl (f)), (4, .inl (Int32.ofNat l)), (0, .inr (.inr (.inl (some 253)))), (1, .inl (Int32.ofNat e)), (2, .inl (p)), (3, .inl (Int32.ofNat hn))]) (S' := [.inl (Int32.ofNat 0), .inl (Int32.ofNat hn), .inl (p), .inl (Int32.ofNat l), .inr (.inr (.inl (some 253)))]) (h' := h) (by with_unfolding_all rfl) ?_
    refine kc_call_rule (M2 := wk_m220) (av := [.inr (.inr (.inl (some 253))), .inl (Int32.ofNat l), .inl (p), .inl (Int32.ofNat hn), .inl (Int32.ofNat 0)]) (r := []) rfl rfl (kc_Con_le (ky_220 (d := 0) (c := 0) hg hw hl (by omega) (by rw [kx_ti (by omega)]; omega) hI) (by omega)) (fun rv h' hq => ?_)
    obtain ⟨b, rfl, rfl⟩ := hq
    show kc_Ev g d wk_m216 _ 92 [(6, .inl (Int32.ofNat 0)), (5, .inl (f)), (4, .inl (Int32.ofNat l)), (0, .inr (.inr (.inl (some 253)))), (1, .inl (Int32.ofNat e)), (2, .inl (p)), (3, .inl (Int32.ofNat hn))] [.inl (b)] h'
    refine kx_go 1 (pc' := (if kc_cnd .eq (b).toInt 0 then 131 else 95)) (L' := [(6, .inl (Int32.ofNat 0)), (5, .inl (f)), (4, .inl (Int32.ofNat l)), (0, .inr (.inr (.inl (some 253)))), (1, .inl (Int32.ofNat e)), (2, .inl (p)), (3, .inl (Int32.ofNat hn))]) (S' := []) (h' := h') (by with_unfolding_all rfl) ?_
    by_cases e1 : kc_cnd .eq b.toInt 0 = true
    · rw [if_pos e1]; exact next f
    · rw [if_neg e1]
      refine kx_go 7 (pc' := 104) (L' := [(6, .inl (Int32.ofNat 0)), (5, .inl (f)), (4, .inl (Int32.ofNat l)), (0, .inr (.inr (.inl (some 253)))), (1, .inl (Int32.ofNat e)), (2, .inl (p)), (3, .inl (Int32.ofNat hn))]) (S' := [.inl (Int32.ofNat l), .inl (Int32.ofNat 0), .inl (p), .inl ((Int32.ofNat e) + (Int32.ofNat 1)), .inr (.inr (.inl (some 253)))]) (h' := h') (by with_unfolding_all rfl) ?_
      refine kc_call_rule (M2 := wk_m221) (av := [.inl (p), .inl (Int32.ofNat 0), .inl (Int32.ofNat l)]) (r := [.inl ((Int32.ofNat e) + (Int32.ofNat 1)), .inr (.inr (.inl (some 253)))]) rfl rfl (kc_Con_le (ky_221 (d := 0) hg) (by omega)) (fun rv h' hq => ?_)
      obtain ⟨rfl, rfl⟩ := hq
      show kc_Ev g d wk_m216 _ 107 [(6, .inl (Int32.ofNat 0)), (5, .inl (f)), (4, .inl (Int32.ofNat l)), (0, .inr (.inr (.inl (some 253)))), (1, .inl (Int32.ofNat e)), (2, .inl (p)), (3, .inl (Int32.ofNat hn))] [.inl (ky_wi p (Int32.ofNat 0) (Int32.ofNat l)), .inl ((Int32.ofNat e) + (Int32.ofNat 1)), .inr (.inr (.inl (some 253)))] h'
      refine kx_go 3 (pc' := 110) (L' := [(6, .inl (Int32.ofNat 0)), (5, .inl (f)), (4, .inl (Int32.ofNat l)), (0, .inr (.inr (.inl (some 253)))), (1, .inl (Int32.ofNat e)), (2, .inl (p)), (3, .inl (Int32.ofNat hn))]) (S' := [.inl ((Int32.ofNat hn) + (Int32.ofNat 1)), .inl (ky_wi p (Int32.ofNat 0) (Int32.ofNat l)), .inl ((Int32.ofNat e) + (Int32.ofNat 1)), .inr (.inr (.inl (some 253)))]) (h' := h') (by with_unfolding_all rfl) ?_
      rw [← Int32.ofNat_add, ← Int32.ofNat_add]
      refine kc_call_rule (M2 := wk_m216) (av := [.inr (.inr (.inl (some 253))), .inl (Int32.ofNat (e + 1)), .inl (ky_wi p (Int32.ofNat 0) (Int32.ofNat l)), .inl (Int32.ofNat (hn + 1))]) (r := []) rfl rfl (hrec _ _ (ky_I_wi (by omega) hI (by omega) h3) (by rw [kx_ti (by omega)]; omega) (by rw [kx_ti (by omega)]; omega)) (fun rv h' hq => ?_)
      obtain ⟨⟨z, rfl⟩, rfl⟩ := hq
      show kc_Ev g d wk_m216 _ 113 [(6, .inl (Int32.ofNat 0)), (5, .inl (f)), (4, .inl (Int32.ofNat l)), (0, .inr (.inr (.inl (some 253)))), (1, .inl (Int32.ofNat e)), (2, .inl (p)), (3, .inl (Int32.ofNat hn))] [.inl (z)] h'
      refine kx_go 9 (pc' := 126) (L' := [(7, .inl (z)), (6, .inl (Int32.ofNat 0)), (5, .inl (f)), (4, .inl (Int32.ofNat l)), (0, .inr (.inr (.inl (some 253)))), (1, .inl (Int32.ofNat e)), (2, .inl (p)), (3, .inl (Int32.ofNat hn))]) (S' := [.inl ((((Int32.ofNat hn) - (Int32.ofNat 0)) + (Int32.ofNat 1)) + z), .inl (f)]) (h' := h') (by with_unfolding_all rfl) ?_
      refine kx_go 1 (pc' := 129) (L' := [(7, .inl (z)), (6, .inl (Int32.ofNat 0)), (5, .inl (f)), (4, .inl (Int32.ofNat l)), (0, .inr (.inr (.inl (some 253)))), (1, .inl (Int32.ofNat e)), (2, .inl (p)), (3, .inl (Int32.ofNat hn))]) (S' := [.inl (if (((Int32.ofNat hn) - (Int32.ofNat 0)) + (Int32.ofNat 1)) + z < f then (((Int32.ofNat hn) - (Int32.ofNat 0)) + (Int32.ofNat 1)) + z else f)]) (h' := h') (by with_unfolding_all rfl) ?_
      refine kx_go 1 (pc' := 131) (L' := [(5, .inl (if (((Int32.ofNat hn) - (Int32.ofNat 0)) + (Int32.ofNat 1)) + z < f then (((Int32.ofNat hn) - (Int32.ofNat 0)) + (Int32.ofNat 1)) + z else f)), (7, .inl (z)), (6, .inl (Int32.ofNat 0)), (4, .inl (Int32.ofNat l)), (0, .inr (.inr (.inl (some 253)))), (1, .inl (Int32.ofNat e)), (2, .inl (p)), (3, .inl (Int32.ofNat hn))]) (S' := []) (h' := h') (by with_unfolding_all rfl) ?_
      refine kf_lo (L := [(6, .inl (Int32.ofNat 0)), (5, .inl (if (((Int32.ofNat hn) - (Int32.ofNat 0)) + (Int32.ofNat 1)) + z < f then (((Int32.ofNat hn) - (Int32.ofNat 0)) + (Int32.ofNat 1)) + z else f)), (4, .inl (Int32.ofNat l)), (0, .inr (.inr (.inl (some 253)))), (1, .inl (Int32.ofNat e)), (2, .inl (p)), (3, .inl (Int32.ofNat hn))]) ?_ (next (if (((Int32.ofNat hn) - (Int32.ofNat 0)) + (Int32.ofNat 1)) + z < f then (((Int32.ofNat hn) - (Int32.ofNat 0)) + (Int32.ofNat 1)) + z else f))
      intro q hq
      simp only [List.mem_cons, List.not_mem_nil, or_false] at hq
      rcases hq with rfl | rfl | rfl | rfl | rfl | rfl | rfl <;> rfl
  | succ c ih =>
    intro f hcn
    refine kx_go 2 (pc' := (if kc_cnd .lt (Int32.ofNat (c + 1)).toInt 0 then 137 else 82)) (L' := [(6, .inl (Int32.ofNat (c + 1))), (5, .inl (f)), (4, .inl (Int32.ofNat l)), (0, .inr (.inr (.inl (some 253)))), (1, .inl (Int32.ofNat e)), (2, .inl (p)), (3, .inl (Int32.ofNat hn))]) (S' := []) (h' := h) (by with_unfolding_all rfl) ?_
    rw [if_neg (by unfold kc_cnd; rw [kx_ti (by omega)]; simp only [decide_eq_true_eq]; omega)]
    have next : ∀ f : Int32, kc_Ev g d wk_m216 (fun rv h' => (∃ z : Int32, rv = some (.inl z)) ∧ h' = h) 131 [(6, .inl (Int32.ofNat (c + 1))), (5, .inl (f)), (4, .inl (Int32.ofNat l)), (0, .inr (.inr (.inl (some 253)))), (1, .inl (Int32.ofNat e)), (2, .inl (p)), (3, .inl (Int32.ofNat hn))] [] h := by
      intro f
      refine kx_go 2 (pc' := 77) (L' := [(6, .inl ((Int32.ofNat (c + 1)) + Int32.ofInt (-1))), (5, .inl (f)), (4, .inl (Int32.ofNat l)), (0, .inr (.inr (.inl (some 253)))), (1, .inl (Int32.ofNat e)), (2, .inl (p)), (3, .inl (Int32.ofNat hn))]) (S' := []) (h' := h) (by with_unfolding_all rfl) ?_
      rw [ky_dec c (by omega)]
      exact ih f (by omega)
    refine kx_go 5 (pc' := 89) (L' := [(6, .inl (Int32.ofNat (c + 1))), (5, .inl (f)), (4, .inl (Int32.ofNat l)), (0, .inr (.inr (.inl (some 253)))), (1, .inl (Int32.ofNat e)), (2, .inl (p)), (3, .inl (Int32.ofNat hn))]) (S' := [.inl (Int32.ofNat (c + 1)), .inl (Int32.ofNat hn), .inl (p), .inl (Int32.ofNat l), .inr (.inr (.inl (some 253)))]) (h' := h) (by with_unfolding_all rfl) ?_
    refine kc_call_rule (M2 := wk_m220) (av := [.inr (.inr (.inl (some 253))), .inl (Int32.ofNat l), .inl (p), .inl (Int32.ofNat hn), .inl (Int32.ofNat (c + 1))]) (r := []) rfl rfl (kc_Con_le (ky_220 (d := 0) (c := (c + 1)) hg hw hl (by omega) (by rw [kx_ti (by omega)]; omega) hI) (by omega)) (fun rv h' hq => ?_)
    obtain ⟨b, rfl, rfl⟩ := hq
    show kc_Ev g d wk_m216 _ 92 [(6, .inl (Int32.ofNat (c + 1))), (5, .inl (f)), (4, .inl (Int32.ofNat l)), (0, .inr (.inr (.inl (some 253)))), (1, .inl (Int32.ofNat e)), (2, .inl (p)), (3, .inl (Int32.ofNat hn))] [.inl (b)] h'
    refine kx_go 1 (pc' := (if kc_cnd .eq (b).toInt 0 then 131 else 95)) (L' := [(6, .inl (Int32.ofNat (c + 1))), (5, .inl (f)), (4, .inl (Int32.ofNat l)), (0, .inr (.inr (.inl (some 253)))), (1, .inl (Int32.ofNat e)), (2, .inl (p)), (3, .inl (Int32.ofNat hn))]) (S' := []) (h' := h') (by with_unfolding_all rfl) ?_
    by_cases e1 : kc_cnd .eq b.toInt 0 = true
    · rw [if_pos e1]; exact next f
    · rw [if_neg e1]
      refine kx_go 7 (pc' := 104) (L' := [(6, .inl (Int32.ofNat (c + 1))), (5, .inl (f)), (4, .inl (Int32.ofNat l)), (0, .inr (.inr (.inl (some 253)))), (1, .inl (Int32.ofNat e)), (2, .inl (p)), (3, .inl (Int32.ofNat hn))]) (S' := [.inl (Int32.ofNat l), .inl (Int32.ofNat (c + 1)), .inl (p), .inl ((Int32.ofNat e) + (Int32.ofNat 1)), .inr (.inr (.inl (some 253)))]) (h' := h') (by with_unfolding_all rfl) ?_
      refine kc_call_rule (M2 := wk_m221) (av := [.inl (p), .inl (Int32.ofNat (c + 1)), .inl (Int32.ofNat l)]) (r := [.inl ((Int32.ofNat e) + (Int32.ofNat 1)), .inr (.inr (.inl (some 253)))]) rfl rfl (kc_Con_le (ky_221 (d := 0) hg) (by omega)) (fun rv h' hq => ?_)
      obtain ⟨rfl, rfl⟩ := hq
      show kc_Ev g d wk_m216 _ 107 [(6, .inl (Int32.ofNat (c + 1))), (5, .inl (f)), (4, .inl (Int32.ofNat l)), (0, .inr (.inr (.inl (some 253)))), (1, .inl (Int32.ofNat e)), (2, .inl (p)), (3, .inl (Int32.ofNat hn))] [.inl (ky_wi p (Int32.ofNat (c + 1)) (Int32.ofNat l)), .inl ((Int32.ofNat e) + (Int32.ofNat 1)), .inr (.inr (.inl (some 253)))] h'
      refine kx_go 3 (pc' := 110) (L' := [(6, .inl (Int32.ofNat (c + 1))), (5, .inl (f)), (4, .inl (Int32.ofNat l)), (0, .inr (.inr (.inl (some 253)))), (1, .inl (Int32.ofNat e)), (2, .inl (p)), (3, .inl (Int32.ofNat hn))]) (S' := [.inl ((Int32.ofNat hn) + (Int32.ofNat 1)), .inl (ky_wi p (Int32.ofNat (c + 1)) (Int32.ofNat l)), .inl ((Int32.ofNat e) + (Int32.ofNat 1)), .inr (.inr (.inl (some 253)))]) (h' := h') (by with_unfolding_all rfl) ?_
      rw [← Int32.ofNat_add, ← Int32.ofNat_add]
      refine kc_call_rule (M2 := wk_m216) (av := [.inr (.inr (.inl (some 253))), .inl (Int32.ofNat (e + 1)), .inl (ky_wi p (Int32.ofNat (c + 1)) (Int32.ofNat l)), .inl (Int32.ofNat (hn + 1))]) (r := []) rfl rfl (hrec _ _ (ky_I_wi (by omega) hI (by omega) h3) (by rw [kx_ti (by omega)]; omega) (by rw [kx_ti (by omega)]; omega)) (fun rv h' hq => ?_)
      obtain ⟨⟨z, rfl⟩, rfl⟩ := hq
      show kc_Ev g d wk_m216 _ 113 [(6, .inl (Int32.ofNat (c + 1))), (5, .inl (f)), (4, .inl (Int32.ofNat l)), (0, .inr (.inr (.inl (some 253)))), (1, .inl (Int32.ofNat e)), (2, .inl (p)), (3, .inl (Int32.ofNat hn))] [.inl (z)] h'
      refine kx_go 9 (pc' := 126) (L' := [(7, .inl (z)), (6, .inl (Int32.ofNat (c + 1))), (5, .inl (f)), (4, .inl (Int32.ofNat l)), (0, .inr (.inr (.inl (some 253)))), (1, .inl (Int32.ofNat e)), (2, .inl (p)), (3, .inl (Int32.ofNat hn))]) (S' := [.inl ((((Int32.ofNat hn) - (Int32.ofNat (c + 1))) + (Int32.ofNat 1)) + z), .inl (f)]) (h' := h') (by with_unfolding_all rfl) ?_
      refine kx_go 1 (pc' := 129) (L' := [(7, .inl (z)), (6, .inl (Int32.ofNat (c + 1))), (5, .inl (f)), (4, .inl (Int32.ofNat l)), (0, .inr (.inr (.inl (some 253)))), (1, .inl (Int32.ofNat e)), (2, .inl (p)), (3, .inl (Int32.ofNat hn))]) (S' := [.inl (if (((Int32.ofNat hn) - (Int32.ofNat (c + 1))) + (Int32.ofNat 1)) + z < f then (((Int32.ofNat hn) - (Int32.ofNat (c + 1))) + (Int32.ofNat 1)) + z else f)]) (h' := h') (by with_unfolding_all rfl) ?_
      refine kx_go 1 (pc' := 131) (L' := [(5, .inl (if (((Int32.ofNat hn) - (Int32.ofNat (c + 1))) + (Int32.ofNat 1)) + z < f then (((Int32.ofNat hn) - (Int32.ofNat (c + 1))) + (Int32.ofNat 1)) + z else f)), (7, .inl (z)), (6, .inl (Int32.ofNat (c + 1))), (4, .inl (Int32.ofNat l)), (0, .inr (.inr (.inl (some 253)))), (1, .inl (Int32.ofNat e)), (2, .inl (p)), (3, .inl (Int32.ofNat hn))]) (S' := []) (h' := h') (by with_unfolding_all rfl) ?_
      refine kf_lo (L := [(6, .inl (Int32.ofNat (c + 1))), (5, .inl (if (((Int32.ofNat hn) - (Int32.ofNat (c + 1))) + (Int32.ofNat 1)) + z < f then (((Int32.ofNat hn) - (Int32.ofNat (c + 1))) + (Int32.ofNat 1)) + z else f)), (4, .inl (Int32.ofNat l)), (0, .inr (.inr (.inl (some 253)))), (1, .inl (Int32.ofNat e)), (2, .inl (p)), (3, .inl (Int32.ofNat hn))]) ?_ (next (if (((Int32.ofNat hn) - (Int32.ofNat (c + 1))) + (Int32.ofNat 1)) + z < f then (((Int32.ofNat hn) - (Int32.ofNat (c + 1))) + (Int32.ofNat 1)) + z else f))
      intro q hq
      simp only [List.mem_cons, List.not_mem_nil, or_false] at hq
      rcases hq with rfl | rfl | rfl | rfl | rfl | rfl | rfl <;> rfl
set_option maxRecDepth 20000 in
theorem ky_lift {g : kc_G} {h : kc_H} {n : Nat} (hg : kc_ok g) (hw : kd_wt kd_ty h) (hn20 : n ≤ 20) (hn : h 253 2 = .inl (Int32.ofNat n)) (k3 : h 253 3 = .inr (.inr (.inl (some 254)))) : ∀ (m e : Nat) (p hi : Int32), n - e ≤ m → ky_I p hi → hi.toInt ≤ 3 → -(e : Int) ≤ hi.toInt → e ≤ 21 → kc_Con g (m + 4) 216 [.inr (.inr (.inl (some 253))), .inl (Int32.ofNat e), .inl p, .inl hi] h (fun rv h' => (∃ z : Int32, rv = some (.inl z)) ∧ h' = h) := by
  intro m
  induction m with
  | zero =>
    intro e p hi hm hI h3 hlo he21
    refine kc_Con_new hg (M := wk_m216) rfl rfl rfl (show 4 ≤ 8 by decide) ?_
    refine kx_go 2 (pc' := 2) (L' := [(0, .inr (.inr (.inl (some 253)))), (1, .inl (Int32.ofNat e)), (2, .inl (p)), (3, .inl (hi))]) (S' := [.inr (.inr (.inl (some 253))), .inl (Int32.ofNat e)]) (h' := h) (by with_unfolding_all rfl) ?_
    refine kx_getf (c := 253) (v := .inl (Int32.ofNat n)) rfl (by decide) hn ?_
    refine kx_go 1 (pc' := (if kc_cnd .lt (Int32.ofNat e).toInt (Int32.ofNat n).toInt then 10 else 8)) (L' := [(0, .inr (.inr (.inl (some 253)))), (1, .inl (Int32.ofNat e)), (2, .inl (p)), (3, .inl (hi))]) (S' := []) (h' := h) (by with_unfolding_all rfl) ?_
    rw [if_neg (fun q => by have := (kx_lt (by omega) (by omega)).mp q; omega)]
    refine kx_go 1 (pc' := 9) (L' := [(0, .inr (.inr (.inl (some 253)))), (1, .inl (Int32.ofNat e)), (2, .inl (p)), (3, .inl (hi))]) (S' := [.inl (Int32.ofNat 0)]) (h' := h) (by with_unfolding_all rfl) ?_
    exact kc_ret_ok rfl (rv := some (.inl (Int32.ofNat 0))) rfl ⟨⟨_, rfl⟩, rfl⟩
  | succ m ih =>
    intro e p hi hm hI h3 hlo he21
    refine kc_Con_new hg (M := wk_m216) rfl rfl rfl (show 4 ≤ 8 by decide) ?_
    refine kx_go 2 (pc' := 2) (L' := [(0, .inr (.inr (.inl (some 253)))), (1, .inl (Int32.ofNat e)), (2, .inl (p)), (3, .inl (hi))]) (S' := [.inr (.inr (.inl (some 253))), .inl (Int32.ofNat e)]) (h' := h) (by with_unfolding_all rfl) ?_
    refine kx_getf (c := 253) (v := .inl (Int32.ofNat n)) rfl (by decide) hn ?_
    refine kx_go 1 (pc' := (if kc_cnd .lt (Int32.ofNat e).toInt (Int32.ofNat n).toInt then 10 else 8)) (L' := [(0, .inr (.inr (.inl (some 253)))), (1, .inl (Int32.ofNat e)), (2, .inl (p)), (3, .inl (hi))]) (S' := []) (h' := h) (by with_unfolding_all rfl) ?_
    by_cases he : e < n
    · rw [if_pos ((kx_lt (by omega) (by omega)).mpr he)]
      obtain ⟨v, hv, ev⟩ := kx_ofg (by omega) (hw _ _ _ (ky_k254 e (by omega)))
      refine kx_go 1 (pc' := 11) (L' := [(0, .inr (.inr (.inl (some 253)))), (1, .inl (Int32.ofNat e)), (2, .inl (p)), (3, .inl (hi))]) (S' := [.inr (.inr (.inl (some 253)))]) (h' := h) (by with_unfolding_all rfl) ?_
      refine kx_getf (c := 253) (v := .inr (.inr (.inl (some 254)))) rfl (by decide) k3 ?_
      refine kx_go 1 (pc' := 15) (L' := [(0, .inr (.inr (.inl (some 253)))), (1, .inl (Int32.ofNat e)), (2, .inl (p)), (3, .inl (hi))]) (S' := [.inl (Int32.ofNat e), .inr (.inr (.inl (some 254)))]) (h' := h) (by with_unfolding_all rfl) ?_
      refine kx_iald rfl (c := 254) (j := e) (m := 20) (v := .inl (Int32.ofNat v)) rfl (by decide) (by decide) (by omega) ev ?_
      refine kx_go 3 (pc' := 20) (L' := [(4, .inl ((Int32.ofNat v) >>> ((Int32.ofNat 1) &&& 31))), (0, .inr (.inr (.inl (some 253)))), (1, .inl (Int32.ofNat e)), (2, .inl (p)), (3, .inl (hi))]) (S' := []) (h' := h) (by with_unfolding_all rfl) ?_
      rw [ky_sh v (by omega)]
      refine kx_go 1 (pc' := 21) (L' := [(4, .inl (Int32.ofNat (v / 2))), (0, .inr (.inr (.inl (some 253)))), (1, .inl (Int32.ofNat e)), (2, .inl (p)), (3, .inl (hi))]) (S' := [.inr (.inr (.inl (some 253)))]) (h' := h) (by with_unfolding_all rfl) ?_
      refine kx_getf (c := 253) (v := .inr (.inr (.inl (some 254)))) rfl (by decide) k3 ?_
      refine kx_go 1 (pc' := 25) (L' := [(4, .inl (Int32.ofNat (v / 2))), (0, .inr (.inr (.inl (some 253)))), (1, .inl (Int32.ofNat e)), (2, .inl (p)), (3, .inl (hi))]) (S' := [.inl (Int32.ofNat e), .inr (.inr (.inl (some 254)))]) (h' := h) (by with_unfolding_all rfl) ?_
      refine kx_iald rfl (c := 254) (j := e) (m := 20) (v := .inl (Int32.ofNat v)) rfl (by decide) (by decide) (by omega) ev ?_
      refine kx_go 3 (pc' := (if kc_cnd .ne ((Int32.ofNat v) &&& (Int32.ofNat 1)).toInt 0 then 62 else 31)) (L' := [(4, .inl (Int32.ofNat (v / 2))), (0, .inr (.inr (.inl (some 253)))), (1, .inl (Int32.ofNat e)), (2, .inl (p)), (3, .inl (hi))]) (S' := []) (h' := h) (by with_unfolding_all rfl) ?_
      by_cases e1 : kc_cnd .ne ((Int32.ofNat v) &&& (Int32.ofNat 1)).toInt 0 = true
      · rw [if_pos e1]
        refine kx_go 3 (pc' := (if kc_cnd .lt (hi).toInt (Int32.ofNat 3).toInt then 70 else 67)) (L' := [(4, .inl (Int32.ofNat (v / 2))), (0, .inr (.inr (.inl (some 253)))), (1, .inl (Int32.ofNat e)), (2, .inl (p)), (3, .inl (hi))]) (S' := []) (h' := h) (by with_unfolding_all rfl) ?_
        by_cases e2 : kc_cnd .lt hi.toInt (Int32.ofNat 3).toInt = true
        · rw [if_pos e2]
          refine kx_go 4 (pc' := 77) (L' := [(6, .inl (hi)), (5, .inl (Int32.ofNat 1000000)), (4, .inl (Int32.ofNat (v / 2))), (0, .inr (.inr (.inl (some 253)))), (1, .inl (Int32.ofNat e)), (2, .inl (p)), (3, .inl (hi))]) (S' := []) (h' := h) (by with_unfolding_all rfl) ?_
          have e3 : hi.toInt < 3 := by
            unfold kc_cnd at e2
            simpa using e2
          by_cases e4 : hi.toInt < 0
          · exact kf_lo (L := [(6, .inl (hi)), (5, .inl (Int32.ofNat 1000000)), (4, .inl (Int32.ofNat (v / 2))), (0, .inr (.inr (.inl (some 253)))), (1, .inl (Int32.ofNat e)), (2, .inl (p)), (3, .inl (hi))]) (by intro q hq; simp only [List.mem_cons, List.not_mem_nil, or_false] at hq; rcases hq with rfl | rfl | rfl | rfl | rfl | rfl | rfl <;> rfl) (ky_lx (l := v / 2) (f := Int32.ofNat 1000000) e4)
          · obtain ⟨hn2, e5, rfl⟩ : ∃ hn2 : Nat, hn2 < 3 ∧ hi = Int32.ofNat hn2 := ⟨hi.toInt.toNat, by omega, Int32.toInt_inj.mp (by rw [kx_ti (by omega)]; omega)⟩
            exact kf_lo (L := [(6, .inl (Int32.ofNat hn2)), (5, .inl (Int32.ofNat 1000000)), (4, .inl (Int32.ofNat (v / 2))), (0, .inr (.inr (.inl (some 253)))), (1, .inl (Int32.ofNat e)), (2, .inl (p)), (3, .inl (Int32.ofNat hn2))]) (by intro q hq; simp only [List.mem_cons, List.not_mem_nil, or_false] at hq; rcases hq with rfl | rfl | rfl | rfl | rfl | rfl | rfl <;> rfl) (ky_ll (d := m + 1 + 3) (l := v / 2) (e := e) hg (by omega) hw (by omega) e5 hI (fun p2 hi2 a b c => kc_Con_le (ih (e + 1) p2 hi2 (by omega) a c (by omega) (by omega)) (by omega)) hn2 (Int32.ofNat 1000000) (Nat.le_refl _))
        · rw [if_neg e2]
          refine kx_go 1 (pc' := 69) (L' := [(4, .inl (Int32.ofNat (v / 2))), (0, .inr (.inr (.inl (some 253)))), (1, .inl (Int32.ofNat e)), (2, .inl (p)), (3, .inl (hi))]) (S' := [.inl (Int32.ofNat 1000000)]) (h' := h) (by with_unfolding_all rfl) ?_
          exact kc_ret_ok rfl (rv := some (.inl (Int32.ofNat 1000000))) rfl ⟨⟨_, rfl⟩, rfl⟩
      · rw [if_neg e1]
        refine kx_go 3 (pc' := 35) (L' := [(4, .inl (Int32.ofNat (v / 2))), (0, .inr (.inr (.inl (some 253)))), (1, .inl (Int32.ofNat e)), (2, .inl (p)), (3, .inl (hi))]) (S' := [.inl (Int32.ofNat (v / 2)), .inl (hi), .inl (p)]) (h' := h) (by with_unfolding_all rfl) ?_
        refine kc_call_rule (M2 := wk_m217) (av := [.inl (p), .inl (hi), .inl (Int32.ofNat (v / 2))]) (r := []) rfl rfl (kc_Con_le (ky_217 (d := 0) hg h3) (by omega)) (fun rv h' hq => ?_)
        obtain ⟨r, rfl, rfl, hr⟩ := hq
        show kc_Ev g (m + 1 + 3) wk_m216 _ 38 [(4, .inl (Int32.ofNat (v / 2))), (0, .inr (.inr (.inl (some 253)))), (1, .inl (Int32.ofNat e)), (2, .inl (p)), (3, .inl (hi))] [.inl (r)] h'
        refine kx_go 10 (pc' := 51) (L' := [(5, .inl (r)), (4, .inl (Int32.ofNat (v / 2))), (0, .inr (.inr (.inl (some 253)))), (1, .inl (Int32.ofNat e)), (2, .inl (p)), (3, .inl (hi))]) (S' := [.inl (r), .inl (p), .inl ((Int32.ofNat e) + (Int32.ofNat 1)), .inr (.inr (.inl (some 253))), .inl (hi - r)]) (h' := h') (by with_unfolding_all rfl) ?_
        refine kc_call_rule (M2 := wk_m219) (av := [.inl (p), .inl (r)]) (r := [.inl ((Int32.ofNat e) + (Int32.ofNat 1)), .inr (.inr (.inl (some 253))), .inl (hi - r)]) rfl rfl (kc_Con_le (ky_219 (d := 0) hg) (by omega)) (fun rv h' hq => ?_)
        obtain ⟨rfl, rfl⟩ := hq
        show kc_Ev g (m + 1 + 3) wk_m216 _ 54 [(5, .inl (r)), (4, .inl (Int32.ofNat (v / 2))), (0, .inr (.inr (.inl (some 253)))), (1, .inl (Int32.ofNat e)), (2, .inl (p)), (3, .inl (hi))] [.inl (ky_wo p r), .inl ((Int32.ofNat e) + (Int32.ofNat 1)), .inr (.inr (.inl (some 253))), .inl (hi - r)] h'
        refine kx_go 3 (pc' := 57) (L' := [(5, .inl (r)), (4, .inl (Int32.ofNat (v / 2))), (0, .inr (.inr (.inl (some 253)))), (1, .inl (Int32.ofNat e)), (2, .inl (p)), (3, .inl (hi))]) (S' := [.inl (hi - (Int32.ofNat 1)), .inl (ky_wo p r), .inl ((Int32.ofNat e) + (Int32.ofNat 1)), .inr (.inr (.inl (some 253))), .inl (hi - r)]) (h' := h') (by with_unfolding_all rfl) ?_
        rw [← Int32.ofNat_add]
        refine kc_call_rule (M2 := wk_m216) (av := [.inr (.inr (.inl (some 253))), .inl (Int32.ofNat (e + 1)), .inl (ky_wo p r), .inl (hi - (Int32.ofNat 1))]) (r := [.inl (hi - r)]) rfl rfl (kc_Con_le (ih (e + 1) _ _ (by omega) (by rcases hr with ⟨k, k1, rfl⟩ | rfl; exact ky_I_wo1 hI h3 k1 (by omega); exact ky_I_wo2 hI h3 (by omega)) (by rw [ky_sub1 (by omega)]; omega) (by rw [ky_sub1 (by omega)]; omega) (by omega)) (by omega)) (fun rv h' hq => ?_)
        obtain ⟨⟨z, rfl⟩, rfl⟩ := hq
        show kc_Ev g (m + 1 + 3) wk_m216 _ 60 [(5, .inl (r)), (4, .inl (Int32.ofNat (v / 2))), (0, .inr (.inr (.inl (some 253)))), (1, .inl (Int32.ofNat e)), (2, .inl (p)), (3, .inl (hi))] [.inl (z), .inl (hi - r)] h'
        refine kx_go 1 (pc' := 61) (L' := [(5, .inl (r)), (4, .inl (Int32.ofNat (v / 2))), (0, .inr (.inr (.inl (some 253)))), (1, .inl (Int32.ofNat e)), (2, .inl (p)), (3, .inl (hi))]) (S' := [.inl ((hi - r) + z)]) (h' := h') (by with_unfolding_all rfl) ?_
        exact kc_ret_ok rfl (rv := some (.inl ((hi - r) + z))) rfl ⟨⟨_, rfl⟩, rfl⟩
    · rw [if_neg (fun q => he ((kx_lt (by omega) (by omega)).mp q))]
      refine kx_go 1 (pc' := 9) (L' := [(0, .inr (.inr (.inl (some 253)))), (1, .inl (Int32.ofNat e)), (2, .inl (p)), (3, .inl (hi))]) (S' := [.inl (Int32.ofNat 0)]) (h' := h) (by with_unfolding_all rfl) ?_
      exact kc_ret_ok rfl (rv := some (.inl (Int32.ofNat 0))) rfl ⟨⟨_, rfl⟩, rfl⟩
def kd_P216 : List kd_P := [(some (0, 0, 4294967295), [], [])]
def kd_T216 : kd_Tc := ([(3, 253, 253), (0, 2147483648, 2147483648), (0, 2147483648, 2147483648), (0, 2147483648, 2147483648)], [], kd_P216)
theorem kd_h216 {g : kc_G} (hg : kc_ok g) : kd_hold g 24 kd_ty 216 kd_T216 := by
  intro xs h hw hv hF
  match xs, hv with
  | [], hv => exact hv.elim
  | [_], hv => exact hv.2.elim
  | [_, _], hv => exact hv.2.2.elim
  | [_, _, _], hv => exact hv.2.2.2.elim
  | _ :: _ :: _ :: _ :: _ :: _, hv => exact hv.2.2.2.2.elim
  | [x0, x1, x2, x3], hv =>
    obtain ⟨h0, h1, h2, h3, -⟩ := hv
    have h0 := kx_ofr h0
    subst h0
    obtain rfl := kx_ofs (k := 0) (by decide) h1
    obtain rfl := kx_ofs (k := 0) (by decide) h2
    obtain rfl := kx_ofs (k := 0) (by decide) h3
    obtain ⟨n, n1, en⟩ := kx_ofg (by omega) (hw _ _ _ ky_k.2.1)
    refine kc_Con_mono (ky_lift hg hw n1 en (kx_ofr (hw _ _ _ ky_k.2.2)) 20 0 (Int32.ofNat 0) (Int32.ofNat 0) (by omega) (fun k _ hk => absurd hk (by rw [kx_ti (by omega)]; omega)) (by decide) (by decide) (by decide)) (fun rv h' hq => ?_)
    obtain ⟨⟨z, rfl⟩, rfl⟩ := hq
    refine ⟨_, List.mem_cons_self, ⟨z, rfl, Nat.zero_le _, ?_⟩, fun q hq => (by cases hq), hw, fun c i _ => rfl⟩
    unfold kd_nb
    have := Int32.toInt_lt z
    omega
end
section
-- 97.zkc00
/-! ===== contracts, zkc 0 ===== -/
def kd_P135 : List kd_P := [(some (0, 0, 4294967295), [], [(254, 254, 0, 19), (253, 253, 2, 2)])]
def kd_T135 : kd_Tc := ([(3, 253, 253)], [], kd_P135)
def kd_C135 : List (Nat × kd_Tc) := [(216, kd_T216), (214, kd_T214)]
def kd_S135_0 : kd_St := (4, [], 0, [(3, 253, 253), (0, 2147483648, 2147483648), (0, 2147483648, 2147483648), (9, 0, 0)], [], [], [(0, (0, 5, 5)), (0, (0, 2147483648, 2147483648))])
def kd_S135_1 : kd_St := (4, [(2147483649, 2147483651), (0, 2148483647), (0, 2148483647)], 3, [(3, 253, 253), (1, 0, 2147483648), (0, 2147483649, 2147483649), (1, 1, 2147483648)], [(1, 1, (1, 2, 2147483648))], [(254, 254, 0, 19), (253, 253, 2, 2)], [(0, (0, 5, 5)), (0, (0, 2147483649, 2147483649))])
def kd_S135_2 : kd_St := (4, [(2147483649, 2147483651), (0, 2148483647), (0, 4294967295)], 3, [(3, 253, 253), (1, 0, 2147483648), (0, 2147483650, 2147483650), (1, 1, 2147483648)], [(1, 1, (1, 2, 2147483648))], [(254, 254, 0, 19), (253, 253, 2, 2)], [(0, (0, 5, 5)), (0, (0, 2147483650, 2147483650))])
def kd_S135_3 : kd_St := (4, [(2147483650, 2147483651), (0, 2148483647), (0, 4294967295)], 3, [(3, 253, 253), (1, 0, 2147483648), (0, 2147483651, 2147483651), (1, 1, 2147483648)], [(1, 1, (1, 2, 2147483648))], [(254, 254, 0, 19), (253, 253, 2, 2)], [(0, (0, 5, 5)), (0, (0, 2147483651, 2147483651))])
def kd_S135_4 : kd_St := (4, [(2147483650, 2147483651), (0, 2148483647), (0, 4294967295)], 3, [(3, 253, 253), (1, 0, 2147483648), (0, 2147483652, 2147483652), (1, 1, 2147483648)], [(1, 1, (1, 2, 2147483648))], [(254, 254, 0, 19), (253, 253, 2, 2)], [(0, (0, 5, 5)), (0, (0, 2147483652, 2147483652))])
def kd_S135_5 : kd_St := (4, [(0, 2148483647), (0, 4294967295)], 2, [(3, 253, 253), (1, 0, 2147483648), (0, 2147483653, 2147483653), (1, 1, 2147483648)], [(1, 1, (0, 2147483651, 2147483651))], [(254, 254, 0, 19), (253, 253, 2, 2)], [(0, (0, 5, 5)), (0, (0, 2147483653, 2147483653))])
def kd_S135_6 : kd_St := (4, [(0, 2148483647), (0, 4294967295)], 2, [(3, 253, 253), (1, 0, 2147483648), (0, 2147483654, 2147483654), (1, 1, 2147483648)], [(1, 1, (0, 2147483651, 2147483651))], [(254, 254, 0, 19), (253, 253, 2, 2)], [(0, (0, 5, 5)), (0, (0, 2147483654, 2147483654))])
def kd_S135 : List kd_St := [kd_S135_0, kd_S135_1, kd_S135_2, kd_S135_3, kd_S135_4, kd_S135_5, kd_S135_6]
theorem kd_e135 : kd_run0 kd_ty kd_x135 4 (kd_call kd_ty kd_xt (kd_ctl kd_C135) 600 0) kd_T135 600 kd_S135 = true := by decide +kernel
theorem kd_r135_0 : kd_run1 kd_ty kd_x135 4 (kd_call kd_ty kd_xt (kd_ctl kd_C135) 600 0) kd_T135.2.2 600 kd_S135 kd_S135_0 = true := by decide +kernel
theorem kd_r135_1 : kd_run1 kd_ty kd_x135 4 (kd_call kd_ty kd_xt (kd_ctl kd_C135) 600 0) kd_T135.2.2 600 kd_S135 kd_S135_1 = true := by decide +kernel
theorem kd_r135_2 : kd_run1 kd_ty kd_x135 4 (kd_call kd_ty kd_xt (kd_ctl kd_C135) 600 0) kd_T135.2.2 600 kd_S135 kd_S135_2 = true := by decide +kernel
theorem kd_r135_3 : kd_run1 kd_ty kd_x135 4 (kd_call kd_ty kd_xt (kd_ctl kd_C135) 600 0) kd_T135.2.2 600 kd_S135 kd_S135_3 = true := by decide +kernel
theorem kd_r135_4 : kd_run1 kd_ty kd_x135 4 (kd_call kd_ty kd_xt (kd_ctl kd_C135) 600 0) kd_T135.2.2 600 kd_S135 kd_S135_4 = true := by decide +kernel
theorem kd_r135_5 : kd_run1 kd_ty kd_x135 4 (kd_call kd_ty kd_xt (kd_ctl kd_C135) 600 0) kd_T135.2.2 600 kd_S135 kd_S135_5 = true := by decide +kernel
theorem kd_r135_6 : kd_run1 kd_ty kd_x135 4 (kd_call kd_ty kd_xt (kd_ctl kd_C135) 600 0) kd_T135.2.2 600 kd_S135 kd_S135_6 = true := by decide +kernel
theorem kd_h135 {g : kc_G} (hg : kc_ok g) : kd_hold g 25 kd_ty 135 kd_T135 := kd_mk (d0 := 24) (di := 0) hg kd_xk135 rfl rfl rfl rfl (kd_al_r kd_C135 ⟨kd_hold_le (kd_h216 hg) (by decide), kd_hold_le (kd_h214 hg) (by decide), trivial⟩) (by decide) (by decide +kernel) kd_e135 (kd_al_r kd_S135 ⟨kd_r135_0, kd_r135_1, kd_r135_2, kd_r135_3, kd_r135_4, kd_r135_5, kd_r135_6, trivial⟩)
def kd_P134 : List kd_P := [(some (0, 0, 4294967295), [], [(213, 218, 0, 0), (212, 218, 0, 1), (211, 218, 0, 2), (210, 218, 0, 3), (205, 205, 0, 4), (209, 218, 0, 4), (219, 219, 0, 5), (206, 207, 0, 9), (254, 254, 0, 19), (204, 204, 1, 2), (253, 253, 2, 2)])]
def kd_T134 : kd_Tc := ([(3, 0, 0)], [], kd_P134)
def kd_C134 : List (Nat × kd_Tc) := [(135, kd_T135), (100, kd_T100a)]
def kd_S134 : List kd_St := []
theorem kd_e134 : kd_run0 kd_ty kd_x134 1 (kd_call kd_ty kd_xt (kd_ctl kd_C134) 600 1) kd_T134 600 kd_S134 = true := by decide +kernel
theorem kd_h134 {g : kc_G} (hg : kc_ok g) : kd_hold g 27 kd_ty 134 kd_T134 := kd_mk (d0 := 25) (di := 1) hg kd_xk134 rfl rfl rfl rfl (kd_al_r kd_C134 ⟨kd_hold_le (kd_h135 hg) (by decide), kd_hold_le (kd_h100a hg) (by decide), trivial⟩) (by decide) (by decide +kernel) kd_e134 (kd_al_r kd_S134 trivial)
end
section
-- 98.z0
/-! ===== findStays, put together; the engine's run as a piece, from bounds ===== -/
theorem kd_hold_fact2 {g : kc_G} {d : Nat} {ty : kd_T} {id : Nat} {l : List kd_V} (c i : Nat) {a b : Nat} {fs : kd_F} {ps : List kd_P} (ms : List (Nat × Nat)) (hc : kd_cons a b ms = true) (h : ∀ q ∈ ms, kd_hold g d ty id (l, (c, i, (0, q)) :: fs, ps)) : kd_hold g d ty id (l, (c, i, (0, a, b)) :: fs, ps) := by
  intro xs hh hw hv hF
  obtain ⟨z, e0, e1, e2⟩ := hF (c, i, (0, a, b)) List.mem_cons_self
  obtain ⟨m, q1, q2, q3⟩ := kd_cons_r ms a b hc (kd_nb z) e1 e2
  exact h m q1 xs hh hw hv (fun q hq => by
    rcases List.mem_cons.mp hq with rfl | hq
    · exact ⟨z, e0, q2, q3⟩
    · exact hF q (List.mem_cons_of_mem _ hq))
def kd_wkb (a b : Nat) (W : kd_W) (p : kd_P) : Bool := match p with
  | (some (0, l, u), _, V) => (Nat.ble a l && Nat.ble u b) && kd_cvW W V
  | _ => false
theorem kd_hold_wk {g : kc_G} {d : Nat} {ty : kd_T} {id : Nat} {l : List kd_V} {fs : kd_F} {ps : List kd_P} {a b : Nat} {W : kd_W} (hc : ps.all (kd_wkb a b W) = true) (h : kd_hold g d ty id (l, fs, ps)) : kd_hold g d ty id (l, fs, [(some (0, a, b), [], W)]) := by
  intro xs hh hw hv hF
  refine kc_Con_mono (h xs hh hw hv hF) (fun rv h' hq => ?_)
  obtain ⟨p, p1, p2, -, p4, p5⟩ := hq
  have hp := List.all_eq_true.mp hc p p1
  obtain ⟨r, F, V⟩ := p
  cases r with
  | none => cases hp
  | some v =>
    obtain ⟨t, l, u⟩ := v
    match t, hp, p2 with
    | 0, hp, p2 =>
      have hp : ((Nat.ble a l && Nat.ble u b) && kd_cvW W V) = true := hp
      rw [Bool.and_eq_true, Bool.and_eq_true] at hp
      cases rv with
      | none => exact p2.elim
      | some y =>
        obtain ⟨z, rfl, z1, z2⟩ := p2
        have a1 := Nat.le_of_ble_eq_true hp.1.1
        have a2 := Nat.le_of_ble_eq_true hp.1.2
        exact ⟨_, List.mem_cons_self, ⟨z, rfl, by omega, by omega⟩, fun q hq => (by cases hq), p4, kd_cvW_r V hp.2 p5⟩
    | t + 1, hp, p2 => cases hp
def kd_W122 : kd_W := [(272, 278, 0, 0), (276, 278, 0, 5), (272, 272, 0, 9), (278, 278, 0, 9), (273, 277, 1, 1), (273, 277, 2, 2), (273, 277, 3, 3), (273, 277, 4, 4), (273, 277, 5, 5), (273, 275, 6, 6), (273, 275, 7, 7), (273, 275, 8, 8), (273, 275, 9, 9), (259, 259, 33, 33)]
def kd_P122 : List kd_P := [(some (0, 2147483648, 2147483649), [], kd_W122)]
def kd_T122a : kd_Tc := ([(3, 259, 259), (0, 0, 4294967295)], [(260, 1, (0, 2147483649, 2147483651))], kd_P122)
def kd_T122b : kd_Tc := ([(3, 259, 259), (0, 0, 4294967295)], [(260, 2, (0, 2147483648, 2147483648)), (260, 1, (0, 2147483648, 2147483648))], kd_P122)
def kd_T122c : kd_Tc := ([(3, 259, 259), (0, 2147483647, 2147483648)], [(260, 2, (0, 2147483649, 2147483658)), (260, 1, (0, 2147483648, 2147483648))], kd_P122)
theorem kd_h122m1 {g : kc_G} (hg : kc_ok g) : kd_hold g 5 kd_ty 122 ([(3, 259, 259), (0, 0, 4294967295)], [(260, 1, (0, 2147483649, 2147483649))], kd_P122) := kd_hold_fact (a := 2147483648) (b := 2147483658) 260 2 [(2147483648, 2147483648), (2147483649, 2147483649), (2147483650, 2147483650), (2147483651, 2147483651), (2147483652, 2147483652), (2147483653, 2147483653), (2147483654, 2147483654), (2147483655, 2147483655), (2147483656, 2147483656), (2147483657, 2147483657), (2147483658, 2147483658)] (by decide +kernel) (by decide +kernel) (kd_al_r [(2147483648, 2147483648), (2147483649, 2147483649), (2147483650, 2147483650), (2147483651, 2147483651), (2147483652, 2147483652), (2147483653, 2147483653), (2147483654, 2147483654), (2147483655, 2147483655), (2147483656, 2147483656), (2147483657, 2147483657), (2147483658, 2147483658)] ⟨kd_hold_wk (by decide +kernel) (kd_hold_le (kd_h122n0m1 hg) (by decide)), kd_hold_wk (by decide +kernel) (kd_hold_le (kd_h122n1m1 hg) (by decide)), kd_hold_wk (by decide +kernel) (kd_hold_le (kd_h122n2m1 hg) (by decide)), kd_hold_wk (by decide +kernel) (kd_hold_le (kd_h122n3m1 hg) (by decide)), kd_hold_wk (by decide +kernel) (kd_hold_le (kd_h122n4m1 hg) (by decide)), kd_hold_wk (by decide +kernel) (kd_hold_le (kd_h122n5m1 hg) (by decide)), kd_hold_wk (by decide +kernel) (kd_hold_le (kd_h122n6m1 hg) (by decide)), kd_hold_wk (by decide +kernel) (kd_hold_le (kd_h122n7m1 hg) (by decide)), kd_hold_wk (by decide +kernel) (kd_hold_le (kd_h122n8m1 hg) (by decide)), kd_hold_wk (by decide +kernel) (kd_hold_le (kd_h122n9m1 hg) (by decide)), kd_hold_wk (by decide +kernel) (kd_hold_le (kd_h122n10m1 hg) (by decide)), trivial⟩)
theorem kd_h122m2 {g : kc_G} (hg : kc_ok g) : kd_hold g 5 kd_ty 122 ([(3, 259, 259), (0, 0, 4294967295)], [(260, 1, (0, 2147483650, 2147483650))], kd_P122) := kd_hold_fact (a := 2147483648) (b := 2147483658) 260 2 [(2147483648, 2147483648), (2147483649, 2147483649), (2147483650, 2147483650), (2147483651, 2147483651), (2147483652, 2147483652), (2147483653, 2147483653), (2147483654, 2147483654), (2147483655, 2147483655), (2147483656, 2147483656), (2147483657, 2147483657), (2147483658, 2147483658)] (by decide +kernel) (by decide +kernel) (kd_al_r [(2147483648, 2147483648), (2147483649, 2147483649), (2147483650, 2147483650), (2147483651, 2147483651), (2147483652, 2147483652), (2147483653, 2147483653), (2147483654, 2147483654), (2147483655, 2147483655), (2147483656, 2147483656), (2147483657, 2147483657), (2147483658, 2147483658)] ⟨kd_hold_wk (by decide +kernel) (kd_hold_le (kd_h122n0m2 hg) (by decide)), kd_hold_wk (by decide +kernel) (kd_hold_le (kd_h122n1m2 hg) (by decide)), kd_hold_wk (by decide +kernel) (kd_hold_le (kd_h122n2m2 hg) (by decide)), kd_hold_wk (by decide +kernel) (kd_hold_le (kd_h122n3m2 hg) (by decide)), kd_hold_wk (by decide +kernel) (kd_hold_le (kd_h122n4m2 hg) (by decide)), kd_hold_wk (by decide +kernel) (kd_hold_le (kd_h122n5m2 hg) (by decide)), kd_hold_wk (by decide +kernel) (kd_hold_le (kd_h122n6m2 hg) (by decide)), kd_hold_wk (by decide +kernel) (kd_hold_le (kd_h122n7m2 hg) (by decide)), kd_hold_wk (by decide +kernel) (kd_hold_le (kd_h122n8m2 hg) (by decide)), kd_hold_wk (by decide +kernel) (kd_hold_le (kd_h122n9m2 hg) (by decide)), kd_hold_wk (by decide +kernel) (kd_hold_le (kd_h122n10m2 hg) (by decide)), trivial⟩)
theorem kd_h122m3 {g : kc_G} (hg : kc_ok g) : kd_hold g 5 kd_ty 122 ([(3, 259, 259), (0, 0, 4294967295)], [(260, 1, (0, 2147483651, 2147483651))], kd_P122) := kd_hold_fact (a := 2147483648) (b := 2147483658) 260 2 [(2147483648, 2147483648), (2147483649, 2147483649), (2147483650, 2147483650), (2147483651, 2147483651), (2147483652, 2147483652), (2147483653, 2147483653), (2147483654, 2147483654), (2147483655, 2147483655), (2147483656, 2147483656), (2147483657, 2147483657), (2147483658, 2147483658)] (by decide +kernel) (by decide +kernel) (kd_al_r [(2147483648, 2147483648), (2147483649, 2147483649), (2147483650, 2147483650), (2147483651, 2147483651), (2147483652, 2147483652), (2147483653, 2147483653), (2147483654, 2147483654), (2147483655, 2147483655), (2147483656, 2147483656), (2147483657, 2147483657), (2147483658, 2147483658)] ⟨kd_hold_wk (by decide +kernel) (kd_hold_le (kd_h122n0m3 hg) (by decide)), kd_hold_wk (by decide +kernel) (kd_hold_le (kd_h122n1m3 hg) (by decide)), kd_hold_wk (by decide +kernel) (kd_hold_le (kd_h122n2m3 hg) (by decide)), kd_hold_wk (by decide +kernel) (kd_hold_le (kd_h122n3m3 hg) (by decide)), kd_hold_wk (by decide +kernel) (kd_hold_le (kd_h122n4m3 hg) (by decide)), kd_hold_wk (by decide +kernel) (kd_hold_le (kd_h122n5m3 hg) (by decide)), kd_hold_wk (by decide +kernel) (kd_hold_le (kd_h122n6m3 hg) (by decide)), kd_hold_wk (by decide +kernel) (kd_hold_le (kd_h122n7m3 hg) (by decide)), kd_hold_wk (by decide +kernel) (kd_hold_le (kd_h122n8m3 hg) (by decide)), kd_hold_wk (by decide +kernel) (kd_hold_le (kd_h122n9m3 hg) (by decide)), kd_hold_wk (by decide +kernel) (kd_hold_le (kd_h122n10m3 hg) (by decide)), trivial⟩)
theorem kd_h122a {g : kc_G} (hg : kc_ok g) : kd_hold g 5 kd_ty 122 kd_T122a := kd_hold_fact2 260 1 [(2147483649, 2147483649), (2147483650, 2147483650), (2147483651, 2147483651)] (by decide +kernel) (kd_al_r [(2147483649, 2147483649), (2147483650, 2147483650), (2147483651, 2147483651)] ⟨kd_h122m1 hg, kd_h122m2 hg, kd_h122m3 hg, trivial⟩)
theorem kd_h122b {g : kc_G} (hg : kc_ok g) : kd_hold g 5 kd_ty 122 kd_T122b := kd_hold_wk (by decide +kernel) (kd_hold_le (kd_h122n0m0 hg) (by decide))
theorem kd_h122c {g : kc_G} (hg : kc_ok g) : kd_hold g 5 kd_ty 122 kd_T122c := kd_hold_fact2 260 2 [(2147483649, 2147483649), (2147483650, 2147483650), (2147483651, 2147483651), (2147483652, 2147483652), (2147483653, 2147483653), (2147483654, 2147483654), (2147483655, 2147483655), (2147483656, 2147483656), (2147483657, 2147483657), (2147483658, 2147483658)] (by decide +kernel) (kd_al_r [(2147483649, 2147483649), (2147483650, 2147483650), (2147483651, 2147483651), (2147483652, 2147483652), (2147483653, 2147483653), (2147483654, 2147483654), (2147483655, 2147483655), (2147483656, 2147483656), (2147483657, 2147483657), (2147483658, 2147483658)] ⟨kd_hold_wk (by decide +kernel) (kd_hold_le (kd_h122n1m0 hg) (by decide)), kd_hold_wk (by decide +kernel) (kd_hold_le (kd_h122n2m0 hg) (by decide)), kd_hold_wk (by decide +kernel) (kd_hold_le (kd_h122n3m0 hg) (by decide)), kd_hold_wk (by decide +kernel) (kd_hold_le (kd_h122n4m0 hg) (by decide)), kd_hold_wk (by decide +kernel) (kd_hold_le (kd_h122n5m0 hg) (by decide)), kd_hold_wk (by decide +kernel) (kd_hold_le (kd_h122n6m0 hg) (by decide)), kd_hold_wk (by decide +kernel) (kd_hold_le (kd_h122n7m0 hg) (by decide)), kd_hold_wk (by decide +kernel) (kd_hold_le (kd_h122n8m0 hg) (by decide)), kd_hold_wk (by decide +kernel) (kd_hold_le (kd_h122n9m0 hg) (by decide)), kd_hold_wk (by decide +kernel) (kd_hold_le (kd_h122n10m0 hg) (by decide)), trivial⟩)
theorem kb_seg {g : kc_G} {d : Nat} {M : wk_M} {Q : Option kc_V → kc_H → Prop} {X : List (List kd_X)} {call : kd_Cl} {fuel p : Nat} {iv : kd_I} {n : Nat} {AL : List kd_V} {F : kd_F} {mu : List (Nat × kd_V)} {p2 : Nat} {iv2 : kd_I} {n2 : Nat} {AL2 : List kd_V} {F2 : kd_F} {W2 : kd_W} {mu2 : List (Nat × kd_V)} {AL0 : List kd_V} {F0 : kd_F} {L : kc_L} {hh : kc_H} (hX : kd_isA2 M X = true) (hcall : kd_good g d kd_ty hh call)
    (ha : kd_arr kd_ty none p [] 0 AL0 [] F0 [] (p, iv, n, AL, F, [], mu) = true) (hok : kd_sok (p, iv, n, AL, F, [], mu) = true) (hok2 : kd_sok (p2, iv2, n2, AL2, F2, W2, mu2) = true)
    (hrun : kd_go kd_ty X (wk_Ml M) (fun pc iv n AL AS F W => [(p2, iv2, n2, AL2, F2, W2, mu2)].any (kd_arr kd_ty none pc iv n AL AS F W)) call (fun _ _ _ _ _ => false) fuel p iv n AL [] F [] = true)
    (hL : kd_gL 0 (fun _ => 0) AL0 L) (hF : kd_gF 0 (fun _ => 0) F0 hh) (hw : kd_wt kd_ty hh)
    (k : ∀ (σ : Nat → Nat) (L' : kc_L) (hh' : kc_H), kd_bx σ iv2 n2 → kd_gL n2 σ AL2 L' → kd_gF n2 σ F2 hh' → kd_wt kd_ty hh' → kd_fr W2 hh hh' → kc_Ev g d M Q p2 L' [] hh') : kc_Ev g d M Q p L [] hh := by
  obtain ⟨-, -, σ, e1, e2, e3, e4, -⟩ := kd_arr_r (h0 := hh) ha hok (ρ := fun _ => 0) ⟨rfl, fun j l u hat => by unfold kd_at at hat; simp [Nat.blt, Nat.ble] at hat⟩ hL (show wk_f2 (kd_g 0 (fun _ => 0)) [] [] from trivial) hF hw (fun c i _ => rfl)
  exact kd_seg hX hcall (fun S hS => by obtain rfl := List.mem_singleton.mp hS; exact hok2) (fun p3 iv3 n3 AL3 F3 W3 mu3 hS σ3 L3 h3 a1 a2 a3 a4 a5 => by cases List.mem_singleton.mp hS; exact k σ3 L3 h3 a1 a2 a3 a4 a5) hrun kd_rno e1 e2 e3 hw e4
end
