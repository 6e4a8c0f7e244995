/-! ===== the second engine is sound: every row ===== -/
theorem kd_j22 {i : Instr} (h : kd_isB 22 i = true) : i = .iadd := by
  cases i
  all_goals first | rfl | (cases h; done)
theorem kd_j23 {i : Instr} (h : kd_isB 23 i = true) : i = .isub := by
  cases i
  all_goals first | rfl | (cases h; done)
theorem kd_j24 {i : Instr} (h : kd_isB 24 i = true) : i = .imul := by
  cases i
  all_goals first | rfl | (cases h; done)
theorem kd_j25 {i : Instr} (h : kd_isB 25 i = true) : i = .iand := by
  cases i
  all_goals first | rfl | (cases h; done)
theorem kd_j26 {i : Instr} (h : kd_isB 26 i = true) : i = .ior := by
  cases i
  all_goals first | rfl | (cases h; done)
theorem kd_j27 {i : Instr} (h : kd_isB 27 i = true) : i = .ixor := by
  cases i
  all_goals first | rfl | (cases h; done)
theorem kd_j28 {i : Instr} (h : kd_isB 28 i = true) : i = .ishl := by
  cases i
  all_goals first | rfl | (cases h; done)
theorem kd_j29 {i : Instr} (h : kd_isB 29 i = true) : i = .ishr := by
  cases i
  all_goals first | rfl | (cases h; done)
theorem kd_j30 {i : Instr} (h : kd_isB 30 i = true) : i = .idiv := by
  cases i
  all_goals first | rfl | (cases h; done)
theorem kd_j31 {i : Instr} (h : kd_isB 31 i = true) : i = .irem := by
  cases i
  all_goals first | rfl | (cases h; done)
theorem kd_j32 {i : Instr} (h : kd_isB 32 i = true) : i = .ineg := by
  cases i
  all_goals first | rfl | (cases h; done)
theorem kd_j33 {i : Instr} (h : kd_isB 33 i = true) : i = .i2l := by
  cases i
  all_goals first | rfl | (cases h; done)
theorem kd_j34 {i : Instr} (h : kd_isB 34 i = true) : i = .l2i := by
  cases i
  all_goals first | rfl | (cases h; done)
theorem kd_j36 {i : Instr} (h : kd_isB 36 i = true) : i = .ladd ∨ i = .lsub ∨ i = .lmul ∨ i = .lor := by
  cases i
  all_goals first | (cases h; done) | simp
theorem kd_j37 {i : Instr} (h : kd_isB 37 i = true) : i = .land := by
  cases i
  all_goals first | rfl | (cases h; done)
theorem kd_j38 {i : Instr} (h : kd_isB 38 i = true) : i = .lshl ∨ i = .lshr ∨ i = .lushr := by
  cases i
  all_goals first | (cases h; done) | simp
theorem kd_j39 {i : Instr} (h : kd_isB 39 i = true) : i = .ldiv ∨ i = .lrem := by
  cases i
  all_goals first | (cases h; done) | simp
theorem kd_j41 {i : Instr} (h : kd_isB 41 i = true) : i = .dup := by
  cases i
  all_goals first | rfl | (cases h; done)
theorem kd_j42 {i : Instr} (h : kd_isB 42 i = true) : i = .dup_x1 := by
  cases i
  all_goals first | rfl | (cases h; done)
theorem kd_j43 {i : Instr} (h : kd_isB 43 i = true) : i = .dup2 := by
  cases i
  all_goals first | rfl | (cases h; done)
theorem kd_j44 {i : Instr} (h : kd_isB 44 i = true) : i = .pop := by
  cases i
  all_goals first | rfl | (cases h; done)
theorem kd_jm {i : Instr} {x : Nat × Nat × Int} {k len : Nat} (h : kd_isMa i x k len = true) : (∃ idx, i = .invokestatic idx) ∧ x.1 = k ∧ len = 3 := by
  unfold kd_isMa at h
  split at h
  · rw [Bool.and_eq_true] at h
    exact ⟨⟨_, rfl⟩, Nat.eq_of_beq_eq_true h.1, Nat.eq_of_beq_eq_true h.2⟩
  · cases h
section KDD
variable {g : kc_G} {d : Nat} {M : wk_M} {Q : Option kc_V → kc_H → Prop} {ty : kd_T} {h0 : kc_H} {ρ0 : Nat → Nat} {n0 : Nat} {go : kd_Go} {call : kd_Cl} {ret : kd_R} {pc op a b c len : Nat} {l : List Nat} {iv : kd_I} {n : Nat} {AL AS : List kd_V} {F : kd_F} {W : kd_W} {i : Instr} {nn : Nat} {x : Nat × Nat × Int} {wd : List Nat} {t : Nat} {q : Int}
theorem kd_cdle (b : Nat) (h : ¬ b ≤ 5) : kd_cd b = kd_cd 5 := by
  match b, h with
  | 0, h => exact absurd (by omega) h
  | 1, h => exact absurd (by omega) h
  | 2, h => exact absurd (by omega) h
  | 3, h => exact absurd (by omega) h
  | 4, h => exact absurd (by omega) h
  | 5, h => exact absurd (by omega) h
  | _ + 6, _ => rfl
theorem kd_cmple (b l1 h1 l2 h2 : Nat) (kt kf : kd_4) (h : ¬ b ≤ 5) : kd_cmp b l1 h1 l2 h2 kt kf = kd_cmp 5 l1 h1 l2 h2 kt kf := by
  match b, h with
  | 0, h => exact absurd (by omega) h
  | 1, h => exact absurd (by omega) h
  | 2, h => exact absurd (by omega) h
  | 3, h => exact absurd (by omega) h
  | 4, h => exact absurd (by omega) h
  | 5, h => exact absurd (by omega) h
  | _ + 6, _ => rfl
theorem kd_p35b (IH : kd_ih g d M Q ty h0 ρ0 n0 go) (hf : wk_fetch M pc = some (pc, i, nn, x, wd, t, q)) (hb5 : ¬ b ≤ 5) {v w : kd_V} (his : kd_isLc M i pc a b len = true) (h : kd_brj b iv n v w (fun iv => go a iv n AL AS F W) (fun iv => wk_fN (pc + len) (fun pc => go pc iv n AL AS F W)) = true) : kd_says g d M Q ty h0 ρ0 n0 pc iv n AL (w :: v :: AS) F W := by
  unfold kd_isLc at his
  rw [kd_cdle b hb5] at his
  have h : kd_brj 5 iv n v w (fun iv => go a iv n AL AS F W) (fun iv => wk_fN (pc + len) (fun pc => go pc iv n AL AS F W)) = true := by
    unfold kd_brj at h ⊢
    simp only [kd_cmple b _ _ _ _ _ _ hb5] at h
    exact h
  exact kd_p35 (b := 5) IH hf (by decide) his h
set_option maxHeartbeats 2000000 in
theorem kd_row58 (IH : kd_ih g d M Q ty h0 ρ0 n0 go) (hcall : kd_good g d ty h0 call) (hf : wk_fetch M pc = some (pc, i, nn, x, wd, t, q)) (his : kd_isx M pc op a b c len l i x = true) (h : kd_row ty (wk_Ml M) call ret go (pc, op, a, b, c, len, l) iv n AL AS F W = true) (hop : op ≤ 58) : kd_says g d M Q ty h0 ρ0 n0 pc iv n AL AS F W := by
  match op, his, h, hop with
  | 0, his, h, _ =>
    cases i <;> cases his
  | 1, his, h, _ =>
    exact kd_p1 IH hf his h
  | 2, his, h, _ =>
    exact kd_p2 IH hf his h
  | 3, his, h, _ =>
    exact kd_p3 IH hf his h
  | 4, his, h, _ =>
    exact kd_p4 IH hf his h
  | 5, his, h, _ =>
    rcases AS with _ | ⟨v, AS⟩
    · cases h
    · exact kd_p5 IH hf his h
  | 6, his, h, _ =>
    rcases AS with _ | ⟨v, AS⟩
    · cases h
    · exact kd_p6 IH hf his h
  | 7, his, h, _ =>
    rcases AS with _ | ⟨v, AS⟩
    · cases h
    · exact kd_p7 IH hf his h
  | 8, his, h, _ =>
    exact kd_p8 IH hf his h
  | 9, his, h, _ =>
    exact kd_p9 IH hf his h
  | 10, his, h, _ =>
    rcases AS with _ | ⟨v, AS⟩
    · cases h
    · exact kd_p10 (cn := 0) IH hf (by decide) his h
  | 11, his, h, _ =>
    rcases AS with _ | ⟨v, AS⟩
    · cases h
    · exact kd_p10 (cn := 1) IH hf (by decide) his h
  | 12, his, h, _ =>
    rcases AS with _ | ⟨v, AS⟩
    · cases h
    · exact kd_p10 (cn := 2) IH hf (by decide) his h
  | 13, his, h, _ =>
    rcases AS with _ | ⟨v, AS⟩
    · cases h
    · exact kd_p10 (cn := 3) IH hf (by decide) his h
  | 14, his, h, _ =>
    rcases AS with _ | ⟨v, AS⟩
    · cases h
    · exact kd_p10 (cn := 4) IH hf (by decide) his h
  | 15, his, h, _ =>
    rcases AS with _ | ⟨v, AS⟩
    · cases h
    · exact kd_p10 (cn := 5) IH hf (by decide) his h
  | 16, his, h, _ =>
    rcases AS with _ | ⟨w, _ | ⟨v, AS⟩⟩
    · cases h
    · cases h
    · exact kd_p16 (cn := 0) IH hf (by decide) his h
  | 17, his, h, _ =>
    rcases AS with _ | ⟨w, _ | ⟨v, AS⟩⟩
    · cases h
    · cases h
    · exact kd_p16 (cn := 1) IH hf (by decide) his h
  | 18, his, h, _ =>
    rcases AS with _ | ⟨w, _ | ⟨v, AS⟩⟩
    · cases h
    · cases h
    · exact kd_p16 (cn := 2) IH hf (by decide) his h
  | 19, his, h, _ =>
    rcases AS with _ | ⟨w, _ | ⟨v, AS⟩⟩
    · cases h
    · cases h
    · exact kd_p16 (cn := 3) IH hf (by decide) his h
  | 20, his, h, _ =>
    rcases AS with _ | ⟨w, _ | ⟨v, AS⟩⟩
    · cases h
    · cases h
    · exact kd_p16 (cn := 4) IH hf (by decide) his h
  | 21, his, h, _ =>
    rcases AS with _ | ⟨w, _ | ⟨v, AS⟩⟩
    · cases h
    · cases h
    · exact kd_p16 (cn := 5) IH hf (by decide) his h
  | 22, his, h, _ =>
    rcases AS with _ | ⟨w, _ | ⟨v, AS⟩⟩
    · cases h
    · cases h
    · replace his : (kd_isB 22 i && Nat.beq len 1) = true := his
      rw [Bool.and_eq_true] at his
      obtain rfl := kd_j22 his.1
      obtain rfl := Nat.eq_of_beq_eq_true his.2
      exact kd_p22 (few := 0) (f := fun iv v w k => kd_add iv n v w k) (G := fun a b => a + b) (P := fun _ _ => True) IH hf (fun L S z y _ => rfl) (fun iv ρ x y k hk hb hv hw => by
          obtain ⟨z1, z2, e1, e2, e3⟩ := kd_add_r hk hb hv hw
          exact ⟨z1, z2, e1, e2, trivial, e3⟩) h
  | 23, his, h, _ =>
    rcases AS with _ | ⟨w, _ | ⟨v, AS⟩⟩
    · cases h
    · cases h
    · replace his : (kd_isB 23 i && Nat.beq len 1) = true := his
      rw [Bool.and_eq_true] at his
      obtain rfl := kd_j23 his.1
      obtain rfl := Nat.eq_of_beq_eq_true his.2
      exact kd_p22 (few := 0) (f := fun iv v w k => kd_sub iv n v w k) (G := fun a b => a - b) (P := fun _ _ => True) IH hf (fun L S z y _ => rfl) (fun iv ρ x y k hk hb hv hw => by
          obtain ⟨z1, z2, e1, e2, e3⟩ := kd_sub_r hk hb hv hw
          exact ⟨z1, z2, e1, e2, trivial, e3⟩) h
  | 24, his, h, _ =>
    rcases AS with _ | ⟨w, _ | ⟨v, AS⟩⟩
    · cases h
    · cases h
    · replace his : (kd_isB 24 i && Nat.beq len 1) = true := his
      rw [Bool.and_eq_true] at his
      obtain rfl := kd_j24 his.1
      obtain rfl := Nat.eq_of_beq_eq_true his.2
      exact kd_p22 (few := 16) (f := fun iv v w k => kd_b2 iv n v w kd_mul k) (G := fun a b => a * b) (P := fun _ _ => True) IH hf (fun L S z y _ => rfl) (fun iv ρ x y k hk hb hv hw => by
          obtain ⟨z1, z2, l1, h1, l2, h2, e1, e2, p1, p2, p3, p4, e3⟩ := kd_b2_r hk hb hv hw
          exact ⟨z1, z2, e1, e2, trivial, kd_mul_r e3 p1 p2 p3 p4⟩) h
  | 25, his, h, _ =>
    rcases AS with _ | ⟨w, _ | ⟨v, AS⟩⟩
    · cases h
    · cases h
    · replace his : (kd_isB 25 i && Nat.beq len 1) = true := his
      rw [Bool.and_eq_true] at his
      obtain rfl := kd_j25 his.1
      obtain rfl := Nat.eq_of_beq_eq_true his.2
      exact kd_p22 (few := 8) (f := fun iv v w k => kd_b2 iv n v w kd_and k) (G := fun a b => a &&& b) (P := fun _ _ => True) IH hf (fun L S z y _ => rfl) (fun iv ρ x y k hk hb hv hw => by
          obtain ⟨z1, z2, l1, h1, l2, h2, e1, e2, p1, p2, p3, p4, e3⟩ := kd_b2_r hk hb hv hw
          exact ⟨z1, z2, e1, e2, trivial, kd_and_r e3 p1 p2 p3 p4⟩) h
  | 26, his, h, _ =>
    rcases AS with _ | ⟨w, _ | ⟨v, AS⟩⟩
    · cases h
    · cases h
    · replace his : (kd_isB 26 i && Nat.beq len 1) = true := his
      rw [Bool.and_eq_true] at his
      obtain rfl := kd_j26 his.1
      obtain rfl := Nat.eq_of_beq_eq_true his.2
      exact kd_p22 (few := 16) (f := fun iv v w k => kd_b2 iv n v w kd_or k) (G := fun a b => a ||| b) (P := fun _ _ => True) IH hf (fun L S z y _ => rfl) (fun iv ρ x y k hk hb hv hw => by
          obtain ⟨z1, z2, l1, h1, l2, h2, e1, e2, p1, p2, p3, p4, e3⟩ := kd_b2_r hk hb hv hw
          exact ⟨z1, z2, e1, e2, trivial, kd_or_r e3 p1 p2 p3 p4⟩) h
  | 27, his, h, _ =>
    rcases AS with _ | ⟨w, _ | ⟨v, AS⟩⟩
    · cases h
    · cases h
    · replace his : (kd_isB 27 i && Nat.beq len 1) = true := his
      rw [Bool.and_eq_true] at his
      obtain rfl := kd_j27 his.1
      obtain rfl := Nat.eq_of_beq_eq_true his.2
      exact kd_p22 (few := 16) (f := fun iv v w k => kd_b2 iv n v w kd_xor k) (G := fun a b => a ^^^ b) (P := fun _ _ => True) IH hf (fun L S z y _ => rfl) (fun iv ρ x y k hk hb hv hw => by
          obtain ⟨z1, z2, l1, h1, l2, h2, e1, e2, p1, p2, p3, p4, e3⟩ := kd_b2_r hk hb hv hw
          exact ⟨z1, z2, e1, e2, trivial, kd_xor_r e3 p1 p2 p3 p4⟩) h
  | 28, his, h, _ =>
    rcases AS with _ | ⟨w, _ | ⟨v, AS⟩⟩
    · cases h
    · cases h
    · replace his : (kd_isB 28 i && Nat.beq len 1) = true := his
      rw [Bool.and_eq_true] at his
      obtain rfl := kd_j28 his.1
      obtain rfl := Nat.eq_of_beq_eq_true his.2
      exact kd_p22 (few := 16) (f := fun iv v w k => kd_b2 iv n v w kd_shl k) (G := fun a b => a <<< (b &&& 31)) (P := fun _ _ => True) IH hf (fun L S z y _ => rfl) (fun iv ρ x y k hk hb hv hw => by
          obtain ⟨z1, z2, l1, h1, l2, h2, e1, e2, p1, p2, p3, p4, e3⟩ := kd_b2_r hk hb hv hw
          exact ⟨z1, z2, e1, e2, trivial, kd_shl_r e3 p1 p2 p3 p4⟩) h
  | 29, his, h, _ =>
    rcases AS with _ | ⟨w, _ | ⟨v, AS⟩⟩
    · cases h
    · cases h
    · replace his : (kd_isB 29 i && Nat.beq len 1) = true := his
      rw [Bool.and_eq_true] at his
      obtain rfl := kd_j29 his.1
      obtain rfl := Nat.eq_of_beq_eq_true his.2
      exact kd_p22 (few := 0) (f := fun iv v w k => kd_b2 iv n v w kd_shr k) (G := fun a b => a >>> (b &&& 31)) (P := fun _ _ => True) IH hf (fun L S z y _ => rfl) (fun iv ρ x y k hk hb hv hw => by
          obtain ⟨z1, z2, l1, h1, l2, h2, e1, e2, p1, p2, p3, p4, e3⟩ := kd_b2_r hk hb hv hw
          exact ⟨z1, z2, e1, e2, trivial, kd_shr_r e3 p1 p2 p3 p4⟩) h
  | 30, his, h, _ =>
    rcases AS with _ | ⟨w, _ | ⟨v, AS⟩⟩
    · cases h
    · cases h
    · replace his : (kd_isB 30 i && Nat.beq len 1) = true := his
      rw [Bool.and_eq_true] at his
      obtain rfl := kd_j30 his.1
      obtain rfl := Nat.eq_of_beq_eq_true his.2
      exact kd_p22 (few := 0) (f := fun iv v w k => kd_b2 iv n v w kd_div k) (G := fun a b => a / b) (P := fun _ y => ¬ y = 0) IH hf (fun L S z y hy => by simp only [kc_pure, kc_d2, if_neg hy]) (fun iv ρ x y k hk hb hv hw => by
          obtain ⟨z1, z2, l1, h1, l2, h2, e1, e2, p1, p2, p3, p4, e3⟩ := kd_b2_r hk hb hv hw
          obtain ⟨q1, q2⟩ := kd_div_r (n := n) (ρ := ρ) e3 p1 p2 p3 p4
          exact ⟨z1, z2, e1, e2, q1, q2⟩) h
  | 31, his, h, _ =>
    rcases AS with _ | ⟨w, _ | ⟨v, AS⟩⟩
    · cases h
    · cases h
    · replace his : (kd_isB 31 i && Nat.beq len 1) = true := his
      rw [Bool.and_eq_true] at his
      obtain rfl := kd_j31 his.1
      obtain rfl := Nat.eq_of_beq_eq_true his.2
      exact kd_p22 (few := 0) (f := fun iv v w k => kd_b2 iv n v w kd_rem k) (G := fun a b => a - a / b * b) (P := fun _ y => ¬ y = 0) IH hf (fun L S z y hy => by simp only [kc_pure, kc_d2, if_neg hy]) (fun iv ρ x y k hk hb hv hw => by
          obtain ⟨z1, z2, l1, h1, l2, h2, e1, e2, p1, p2, p3, p4, e3⟩ := kd_b2_r hk hb hv hw
          obtain ⟨q1, q2⟩ := kd_rem_r (n := n) (ρ := ρ) e3 p1 p2 p3 p4
          exact ⟨z1, z2, e1, e2, q1, q2⟩) h
  | 32, his, h, _ =>
    rcases AS with _ | ⟨v, AS⟩
    · cases h
    · replace his : (kd_isB 32 i && Nat.beq len 1) = true := his
      rw [Bool.and_eq_true] at his
      obtain rfl := kd_j32 his.1
      obtain rfl := Nat.eq_of_beq_eq_true his.2
      exact kd_p32 (f := fun k => kd_bd iv n v (fun l h => kd_neg l h k)) (G := fun z => match z with
        | .inl a => some (.inl (-a))
        | _ => none) IH hf (fun L S z y hy => by
          rcases z with z | z | z | z
          all_goals first | (cases hy; done) | skip
          cases hy
          rfl) (fun ρ z k hk hb hv => by
          obtain ⟨z1, l1, h1, rfl, p1, p2, e3⟩ := kd_bd_r hk hb hv
          exact ⟨_, rfl, kd_neg_r e3 p1 p2⟩) h
  | 33, his, h, _ =>
    rcases AS with _ | ⟨v, AS⟩
    · cases h
    · replace his : (kd_isB 33 i && Nat.beq len 1) = true := his
      rw [Bool.and_eq_true] at his
      obtain rfl := kd_j33 his.1
      obtain rfl := Nat.eq_of_beq_eq_true his.2
      exact kd_p32 (f := fun k => kd_il iv n v k) (G := fun z => match z with
        | .inl a => some (.inr (.inl a.toInt64))
        | _ => none) IH hf (fun L S z y hy => by
          rcases z with z | z | z | z
          all_goals first | (cases hy; done) | skip
          cases hy
          rfl) (fun ρ z k hk hb hv => by
          obtain ⟨z1, rfl, e3⟩ := kd_il_r hk hb hv
          exact ⟨_, rfl, e3⟩) h
  | 34, his, h, _ =>
    rcases AS with _ | ⟨v, AS⟩
    · cases h
    · replace his : (kd_isB 34 i && Nat.beq len 1) = true := his
      rw [Bool.and_eq_true] at his
      obtain rfl := kd_j34 his.1
      obtain rfl := Nat.eq_of_beq_eq_true his.2
      exact kd_p32 (f := fun k => kd_li iv n v k) (G := fun z => match z with
        | .inr (.inl a) => some (.inl a.toInt32)
        | _ => none) IH hf (fun L S z y hy => by
          rcases z with z | z | z | z
          all_goals first | (cases hy; done) | skip
          cases hy
          rfl) (fun ρ z k hk hb hv => by
          obtain ⟨z1, rfl, e3⟩ := kd_li_r hk hb hv
          exact ⟨_, rfl, e3⟩) h
  | 35, his, h, _ =>
    rcases AS with _ | ⟨w, _ | ⟨v, AS⟩⟩
    · cases h
    · cases h
    · by_cases hb5 : b ≤ 5
      · exact kd_p35 IH hf hb5 his h
      · exact kd_p35b IH hf hb5 his h
  | 36, his, h, _ =>
    rcases AS with _ | ⟨w, _ | ⟨v, AS⟩⟩
    · cases h
    · cases h
    · replace his : (kd_isB 36 i && Nat.beq len 1) = true := his
      rw [Bool.and_eq_true] at his
      obtain rfl := Nat.eq_of_beq_eq_true his.2
      rcases kd_j36 his.1 with rfl | rfl | rfl | rfl
      · exact kd_p36 (f := fun k => kd_bj iv n v (fun _ _ => kd_bj iv n w (fun _ _ => k kd_tJ))) (G := fun z y => match z, y with
        | .inr (.inl a), .inr (.inl b) => some (.inr (.inl (a + b)))
        | _, _ => none) IH hf (fun L S z y r hr => by
          rcases z with z | z | z | z <;> rcases y with y | y | y | y
          all_goals first | (cases hr; done) | skip
          cases hr
          rfl) (fun ρ z y k hk hb hv hw => by
          obtain ⟨z1, _, _, rfl, _, _, hk⟩ := kd_bj_r hk hb hv
          obtain ⟨z2, _, _, rfl, _, _, hk⟩ := kd_bj_r hk hb hw
          exact ⟨_, rfl, kd_topj_r hk⟩) h
      · exact kd_p36 (f := fun k => kd_bj iv n v (fun _ _ => kd_bj iv n w (fun _ _ => k kd_tJ))) (G := fun z y => match z, y with
        | .inr (.inl a), .inr (.inl b) => some (.inr (.inl (a - b)))
        | _, _ => none) IH hf (fun L S z y r hr => by
          rcases z with z | z | z | z <;> rcases y with y | y | y | y
          all_goals first | (cases hr; done) | skip
          cases hr
          rfl) (fun ρ z y k hk hb hv hw => by
          obtain ⟨z1, _, _, rfl, _, _, hk⟩ := kd_bj_r hk hb hv
          obtain ⟨z2, _, _, rfl, _, _, hk⟩ := kd_bj_r hk hb hw
          exact ⟨_, rfl, kd_topj_r hk⟩) h
      · exact kd_p36 (f := fun k => kd_bj iv n v (fun _ _ => kd_bj iv n w (fun _ _ => k kd_tJ))) (G := fun z y => match z, y with
        | .inr (.inl a), .inr (.inl b) => some (.inr (.inl (a * b)))
        | _, _ => none) IH hf (fun L S z y r hr => by
          rcases z with z | z | z | z <;> rcases y with y | y | y | y
          all_goals first | (cases hr; done) | skip
          cases hr
          rfl) (fun ρ z y k hk hb hv hw => by
          obtain ⟨z1, _, _, rfl, _, _, hk⟩ := kd_bj_r hk hb hv
          obtain ⟨z2, _, _, rfl, _, _, hk⟩ := kd_bj_r hk hb hw
          exact ⟨_, rfl, kd_topj_r hk⟩) h
      · exact kd_p36 (f := fun k => kd_bj iv n v (fun _ _ => kd_bj iv n w (fun _ _ => k kd_tJ))) (G := fun z y => match z, y with
        | .inr (.inl a), .inr (.inl b) => some (.inr (.inl (a ||| b)))
        | _, _ => none) IH hf (fun L S z y r hr => by
          rcases z with z | z | z | z <;> rcases y with y | y | y | y
          all_goals first | (cases hr; done) | skip
          cases hr
          rfl) (fun ρ z y k hk hb hv hw => by
          obtain ⟨z1, _, _, rfl, _, _, hk⟩ := kd_bj_r hk hb hv
          obtain ⟨z2, _, _, rfl, _, _, hk⟩ := kd_bj_r hk hb hw
          exact ⟨_, rfl, kd_topj_r hk⟩) h
  | 37, his, h, _ =>
    rcases AS with _ | ⟨w, _ | ⟨v, AS⟩⟩
    · cases h
    · cases h
    · replace his : (kd_isB 37 i && Nat.beq len 1) = true := his
      rw [Bool.and_eq_true] at his
      obtain rfl := Nat.eq_of_beq_eq_true his.2
      obtain rfl := kd_j37 his.1
      exact kd_p36 (f := fun k => kd_bj iv n v (fun l1 h1 => kd_bj iv n w (fun l2 h2 => kd_landj l1 h1 l2 h2 k))) (G := fun z y => match z, y with
        | .inr (.inl a), .inr (.inl b) => some (.inr (.inl (a &&& b)))
        | _, _ => none) IH hf (fun L S z y r hr => by
          rcases z with z | z | z | z <;> rcases y with y | y | y | y
          all_goals first | (cases hr; done) | skip
          cases hr
          rfl) (fun ρ z y k hk hb hv hw => by
          obtain ⟨z1, _, _, rfl, p1, p2, hk⟩ := kd_bj_r hk hb hv
          obtain ⟨z2, _, _, rfl, p3, p4, hk⟩ := kd_bj_r hk hb hw
          exact ⟨_, rfl, kd_landj_r hk p1 p2 p3 p4⟩) h
  | 38, his, h, _ =>
    rcases AS with _ | ⟨w, _ | ⟨v, AS⟩⟩
    · cases h
    · cases h
    · replace his : (kd_isB 38 i && Nat.beq len 1) = true := his
      rw [Bool.and_eq_true] at his
      obtain rfl := Nat.eq_of_beq_eq_true his.2
      rcases kd_j38 his.1 with rfl | rfl | rfl
      · exact kd_p36 (f := fun k => kd_bj iv n v (fun _ _ => kd_bd iv n w (fun _ _ => k kd_tJ))) (G := fun z y => match z, y with
        | .inr (.inl a), .inl b => some (.inr (.inl (a <<< (b.toInt64 &&& 63))))
        | _, _ => none) IH hf (fun L S z y r hr => by
          rcases z with z | z | z | z <;> rcases y with y | y | y | y
          all_goals first | (cases hr; done) | skip
          cases hr
          rfl) (fun ρ z y k hk hb hv hw => by
          obtain ⟨z1, _, _, rfl, _, _, hk⟩ := kd_bj_r hk hb hv
          obtain ⟨z2, _, _, rfl, _, _, hk⟩ := kd_bd_r hk hb hw
          exact ⟨_, rfl, kd_topj_r hk⟩) h
      · exact kd_p36 (f := fun k => kd_bj iv n v (fun _ _ => kd_bd iv n w (fun _ _ => k kd_tJ))) (G := fun z y => match z, y with
        | .inr (.inl a), .inl b => some (.inr (.inl (a >>> (b.toInt64 &&& 63))))
        | _, _ => none) IH hf (fun L S z y r hr => by
          rcases z with z | z | z | z <;> rcases y with y | y | y | y
          all_goals first | (cases hr; done) | skip
          cases hr
          rfl) (fun ρ z y k hk hb hv hw => by
          obtain ⟨z1, _, _, rfl, _, _, hk⟩ := kd_bj_r hk hb hv
          obtain ⟨z2, _, _, rfl, _, _, hk⟩ := kd_bd_r hk hb hw
          exact ⟨_, rfl, kd_topj_r hk⟩) h
      · exact kd_p36 (f := fun k => kd_bj iv n v (fun _ _ => kd_bd iv n w (fun _ _ => k kd_tJ))) (G := fun z y => match z, y with
        | .inr (.inl a), .inl b => some (.inr (.inl ((a.toUInt64 >>> (b.toInt64.toUInt64 &&& Int64.toUInt64 63)).toInt64)))
        | _, _ => none) IH hf (fun L S z y r hr => by
          rcases z with z | z | z | z <;> rcases y with y | y | y | y
          all_goals first | (cases hr; done) | skip
          cases hr
          rfl) (fun ρ z y k hk hb hv hw => by
          obtain ⟨z1, _, _, rfl, _, _, hk⟩ := kd_bj_r hk hb hv
          obtain ⟨z2, _, _, rfl, _, _, hk⟩ := kd_bd_r hk hb hw
          exact ⟨_, rfl, kd_topj_r hk⟩) h
  | 39, his, h, _ =>
    rcases AS with _ | ⟨w, _ | ⟨v, AS⟩⟩
    · cases h
    · cases h
    · replace his : (kd_isB 39 i && Nat.beq len 1) = true := his
      rw [Bool.and_eq_true] at his
      obtain rfl := Nat.eq_of_beq_eq_true his.2
      rcases kd_j39 his.1 with rfl | rfl
      · exact kd_p36 (f := fun k => kd_bj iv n v (fun _ _ => kd_bj iv n w (fun l2 _ => bif Nat.blt kd_C l2 then k kd_tJ else false))) (G := fun z y => match z, y with
        | .inr (.inl a), .inr (.inl b) => if b = 0 then none else some (.inr (.inl (a / b)))
        | _, _ => none) IH hf (fun L S z y r hr => by
          rcases z with z | z | z | z <;> rcases y with y | y | y | y
          all_goals first | (cases hr; done) | skip
          simp only at hr
          split at hr
          · cases hr
          · rename_i hy
            cases hr
            simp only [kc_pure, kc_d2j, if_neg hy]) (fun ρ z y k hk hb hv hw => by
          obtain ⟨z1, _, _, rfl, _, _, hk⟩ := kd_bj_r hk hb hv
          obtain ⟨z2, l2, _, rfl, p3, _, hk⟩ := kd_bj_r hk hb hw
          obtain ⟨c1, hk⟩ := kd_bt hk
          have c1 := wk_blt c1
          have e2 := kd_nj_i z2
          have eC : kd_C = 9223372036854775808 := rfl
          have hne : ¬ z2 = 0 := fun q => by subst q; have : (0 : Int64).toInt = 0 := rfl; omega
          simp only [if_neg hne]
          exact ⟨_, rfl, kd_topj_r hk⟩) h
      · exact kd_p36 (f := fun k => kd_bj iv n v (fun _ _ => kd_bj iv n w (fun l2 _ => bif Nat.blt kd_C l2 then k kd_tJ else false))) (G := fun z y => match z, y with
        | .inr (.inl a), .inr (.inl b) => if b = 0 then none else some (.inr (.inl (a - a / b * b)))
        | _, _ => none) IH hf (fun L S z y r hr => by
          rcases z with z | z | z | z <;> rcases y with y | y | y | y
          all_goals first | (cases hr; done) | skip
          simp only at hr
          split at hr
          · cases hr
          · rename_i hy
            cases hr
            simp only [kc_pure, kc_d2j, if_neg hy]) (fun ρ z y k hk hb hv hw => by
          obtain ⟨z1, _, _, rfl, _, _, hk⟩ := kd_bj_r hk hb hv
          obtain ⟨z2, l2, _, rfl, p3, _, hk⟩ := kd_bj_r hk hb hw
          obtain ⟨c1, hk⟩ := kd_bt hk
          have c1 := wk_blt c1
          have e2 := kd_nj_i z2
          have eC : kd_C = 9223372036854775808 := rfl
          have hne : ¬ z2 = 0 := fun q => by subst q; have : (0 : Int64).toInt = 0 := rfl; omega
          simp only [if_neg hne]
          exact ⟨_, rfl, kd_topj_r hk⟩) h
  | 40, his, h, _ =>
    exact kd_p40 IH hf his h
  | 41, his, h, _ =>
    rcases AS with _ | ⟨v, AS⟩
    · cases h
    · replace his : (kd_isB 41 i && Nat.beq len 1) = true := his
      rw [Bool.and_eq_true] at his
      obtain rfl := Nat.eq_of_beq_eq_true his.2
      exact kd_p41 IH hf (kd_j41 his.1) h
  | 44, his, h, _ =>
    rcases AS with _ | ⟨v, AS⟩
    · cases h
    · replace his : (kd_isB 44 i && Nat.beq len 1) = true := his
      rw [Bool.and_eq_true] at his
      obtain rfl := Nat.eq_of_beq_eq_true his.2
      exact kd_p44 IH hf (kd_j44 his.1) h
  | 42, his, h, _ =>
    rcases AS with _ | ⟨v, _ | ⟨w, AS⟩⟩
    · cases h
    · obtain ⟨-, h⟩ := kd_bt (h : (bif kd_c1 v.1 then false else false) = true)
      cases h
    · replace his : (kd_isB 42 i && Nat.beq len 1) = true := his
      rw [Bool.and_eq_true] at his
      obtain rfl := Nat.eq_of_beq_eq_true his.2
      exact kd_p42 IH hf (kd_j42 his.1) h
  | 43, his, h, _ =>
    rcases AS with _ | ⟨v, _ | ⟨w, AS⟩⟩
    · cases h
    · obtain ⟨-, h⟩ := kd_bt (h : (bif kd_c1 v.1 then false else false) = true)
      cases h
    · replace his : (kd_isB 43 i && Nat.beq len 1) = true := his
      rw [Bool.and_eq_true] at his
      obtain rfl := Nat.eq_of_beq_eq_true his.2
      exact kd_p43 IH hf (kd_j43 his.1) h
  | 45, his, h, _ =>
    rcases AS with _ | ⟨v, AS⟩
    · cases h
    · exact kd_p45 IH hf his h
  | 46, his, h, _ =>
    rcases AS with _ | ⟨v, AS⟩
    · cases h
    · replace his : (kd_isF 46 i x a b c && Nat.beq len 3) = true := his
      rw [Bool.and_eq_true] at his
      obtain rfl := Nat.eq_of_beq_eq_true his.2
      exact kd_q46 IH hf his.1 h
  | 47, his, h, _ =>
    rcases AS with _ | ⟨w, _ | ⟨v, AS⟩⟩
    · cases h
    · cases h
    · replace his : (kd_isF 47 i x a b c && Nat.beq len 3) = true := his
      rw [Bool.and_eq_true] at his
      obtain rfl := Nat.eq_of_beq_eq_true his.2
      exact kd_q47 IH hf his.1 h
  | 48, his, h, _ =>
    rcases AS with _ | ⟨w, _ | ⟨v, AS⟩⟩
    · cases h
    · cases h
    · replace his : (kd_isB 48 i && Nat.beq len 1) = true := his
      rw [Bool.and_eq_true] at his
      obtain rfl := Nat.eq_of_beq_eq_true his.2
      obtain rfl := kd_i48 his.1
      exact kd_q48 (p := fun t => Nat.beq t 0) IH hf (fun S hh z c0 t m hp h1 h2 => by
          obtain rfl := Nat.eq_of_beq_eq_true hp
          simp only [kc_heap, h1, Option.bind_some, h2, if_true, Option.map_some]) h
  | 49, his, h, _ =>
    rcases AS with _ | ⟨w, _ | ⟨v, AS⟩⟩
    · cases h
    · cases h
    · replace his : (kd_isB 49 i && Nat.beq len 1) = true := his
      rw [Bool.and_eq_true] at his
      obtain rfl := Nat.eq_of_beq_eq_true his.2
      obtain rfl := kd_i49 his.1
      exact kd_q48 (p := fun t => Nat.beq t 1) IH hf (fun S hh z c0 t m hp h1 h2 => by
          obtain rfl := Nat.eq_of_beq_eq_true hp
          simp only [kc_heap, h1, Option.bind_some, h2, if_true, Option.map_some]) h
  | 50, his, h, _ =>
    rcases AS with _ | ⟨w, _ | ⟨v, AS⟩⟩
    · cases h
    · cases h
    · replace his : (kd_isB 50 i && Nat.beq len 1) = true := his
      rw [Bool.and_eq_true] at his
      obtain rfl := Nat.eq_of_beq_eq_true his.2
      obtain rfl := kd_i50 his.1
      exact kd_q48 (p := fun t => Nat.ble 2 t) IH hf (fun S hh z c0 t m hp h1 h2 => by
          have hp := Nat.le_of_ble_eq_true hp
          simp only [kc_heap, h1, Option.bind_some, h2, hp, if_true, Option.map_some]) h
  | 51, his, h, _ =>
    rcases AS with _ | ⟨w, _ | ⟨v, _ | ⟨u, AS⟩⟩⟩
    · cases h
    · cases h
    · cases h
    · replace his : (kd_isB 51 i && Nat.beq len 1) = true := his
      rw [Bool.and_eq_true] at his
      obtain rfl := Nat.eq_of_beq_eq_true his.2
      obtain rfl := kd_i51 his.1
      exact kd_q51 (o := 0) IH hf (by decide) (fun S hh y z c0 m hfit h1 h2 => by
          simp only [kc_heap, h1, Option.bind_some, h2, if_true, Option.map_some]) h
  | 52, his, h, _ =>
    rcases AS with _ | ⟨w, _ | ⟨v, _ | ⟨u, AS⟩⟩⟩
    · cases h
    · cases h
    · cases h
    · replace his : (kd_isB 52 i && Nat.beq len 1) = true := his
      rw [Bool.and_eq_true] at his
      obtain rfl := Nat.eq_of_beq_eq_true his.2
      obtain rfl := kd_i52 his.1
      exact kd_q51 (o := 1) IH hf (by decide) (fun S hh y z c0 m hfit h1 h2 => by
          simp only [kc_heap, h1, Option.bind_some, h2, hfit, and_self, if_true, Option.map_some]) h
  | 53, his, h, _ =>
    rcases AS with _ | ⟨v, AS⟩
    · cases h
    · replace his : (kd_isB 53 i && Nat.beq len 1) = true := his
      rw [Bool.and_eq_true] at his
      obtain rfl := Nat.eq_of_beq_eq_true his.2
      exact kd_q53 IH hf (kd_i53 his.1) h
  | 54, his, h, _ =>
    exact kd_q54 IH hcall hf his h
  | 55, his, h, _ =>
    obtain ⟨j1, j2, rfl⟩ := kd_jm (k := 5) his
    exact kd_q55 IH hf j1 j2 h
  | 56, his, h, _ =>
    rcases AS with _ | ⟨w, _ | ⟨v, AS⟩⟩
    · cases h
    · cases h
    · obtain ⟨j1, j2, rfl⟩ := kd_jm (k := 6) his
      exact kd_q56 IH hf j1 j2 h
  | 57, his, h, _ =>
    rcases AS with _ | ⟨v, AS⟩
    · cases h
    · obtain ⟨j1, j2, rfl⟩ := kd_jm (k := 7) his
      exact kd_q57 IH hf j1 j2 h
  | 58, his, h, _ =>
    rcases AS with _ | ⟨w, _ | ⟨v, AS⟩⟩
    · cases h
    · cases h
    · obtain ⟨j1, j2, rfl⟩ := kd_jm (k := 8) his
      exact kd_q58 IH hf j1 j2 h
  | _ + 59, _, _, hop => exact absurd hop (by omega)
end KDD
