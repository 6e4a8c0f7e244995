/-! ===== the short ways are the long ones ===== -/
def wk_okt (i : Instr) (x : Nat × Nat × Int) (pc t : Nat) (a : Int) : Bool := match t, i with
  | 1, .iconst m => decide ((Int32.ofInt m).toInt = a)
  | 1, .bipush m => decide ((Int8.ofInt m).toInt32.toInt = a)
  | 1, .sipush m => decide ((Int16.ofInt m).toInt32.toInt = a)
  | 1, .ldc _ => decide ((Int32.ofInt x.2.2).toInt = a)
  | 1, .ldc_w _ => decide ((Int32.ofInt x.2.2).toInt = a)
  | 2, .iload_n m => Nat.beq m.val a.toNat
  | 2, .iload m => Nat.beq m a.toNat
  | 3, .aload_n m => Nat.beq m.val a.toNat
  | 3, .aload m => Nat.beq m a.toNat
  | 4, .lload_n m => Nat.beq m.val a.toNat
  | 4, .lload m => Nat.beq m a.toNat
  | 5, .istore_n m => Nat.beq m.val a.toNat
  | 5, .istore m => Nat.beq m a.toNat
  | 6, .astore_n m => Nat.beq m.val a.toNat
  | 6, .astore m => Nat.beq m a.toNat
  | 7, .iinc k d => Nat.beq k x.1 && decide ((Int32.ofInt d).toInt = a)
  | 8, .goto off => decide (wk_to pc off = some a.toNat)
  | 9, .ifCond .eq off => decide (wk_to pc off = some a.toNat)
  | 10, .ifCond .ne off => decide (wk_to pc off = some a.toNat)
  | 11, .ifCond .lt off => decide (wk_to pc off = some a.toNat)
  | 12, .ifCond .ge off => decide (wk_to pc off = some a.toNat)
  | 13, .ifCond .gt off => decide (wk_to pc off = some a.toNat)
  | 14, .ifCond .le off => decide (wk_to pc off = some a.toNat)
  | 15, .if_icmp .eq off => decide (wk_to pc off = some a.toNat)
  | 16, .if_icmp .ne off => decide (wk_to pc off = some a.toNat)
  | 17, .if_icmp .lt off => decide (wk_to pc off = some a.toNat)
  | 18, .if_icmp .ge off => decide (wk_to pc off = some a.toNat)
  | 19, .if_icmp .gt off => decide (wk_to pc off = some a.toNat)
  | 20, .if_icmp .le off => decide (wk_to pc off = some a.toNat)
  | 21, .iadd => true
  | 22, .isub => true
  | 23, .imul => true
  | 24, .i2l => true
  | 25, .lcmp => true
  | 26, .dup => true
  | 27, .dup2 => true
  | 28, .lconst m => decide ((Int64.ofNat m.val).toInt = a)
  | 28, .ldc2_w _ => decide ((Int64.ofInt x.2.2).toInt = a)
  | 32, .getfield _ => true
  | 33, .arraylength => true
  | 34, .putfield _ => true
  | 35, .iaload => true
  | 36, .aaload => true
  | 37, .iastore => true
  | 40, _ => true
  | _, _ => false
theorem wk_bt0 {b : Bool} {α : Type} {x : Option α} {r : α} (h : (bif b then x else none) = some r) : b = true ∧ x = some r := wk_bt h
theorem wk_in32_r {r : Int} (h : wk_in32 r = true) : (Int32.ofInt r).toInt = r := by
  unfold wk_in32 at h
  rw [Bool.and_eq_true, decide_eq_true_eq, decide_eq_true_eq] at h
  exact Int32.toInt_ofInt_of_le (by omega) (by omega)
section WKF
variable {iv : wk_I} {nL pc : Nat} {AL : wk_L} {AS : List wk_V} {r : wk_P} {x : Int}
theorem wk_qload_i {k d : Nat} (h : wk_qload wk_gii k d pc AL AS = some r) : ((wk_get AL k).bind fun v => if (wk_gi iv v).isSome then some ((pc + d, AL, v :: AS) : wk_P) else none) = some r := by
  unfold wk_qload at h
  cases hg : wk_get AL k with
  | none => rw [hg] at h; cases h
  | some v =>
    rw [hg] at h
    obtain ⟨h1, h2⟩ := wk_bt h
    rcases v with q | v
    · exact h2
    · cases h1
theorem wk_qload_j {k d : Nat} (h : wk_qload wk_gjj k d pc AL AS = some r) : ((wk_get AL k).bind fun v => if (wk_gj iv v).isSome then some ((pc + d, AL, v :: AS) : wk_P) else none) = some r := by
  unfold wk_qload at h
  cases hg : wk_get AL k with
  | none => rw [hg] at h; cases h
  | some v =>
    rw [hg] at h
    obtain ⟨h1, h2⟩ := wk_bt h
    rcases v with q | q | v
    · cases h1
    · exact h2
    · cases h1
theorem wk_qload_a {k d : Nat} (h : wk_qload wk_isr k d pc AL AS = some r) : ((wk_get AL k).bind fun v => if wk_isr v then some ((pc + d, AL, v :: AS) : wk_P) else none) = some r := by
  unfold wk_qload at h
  cases hg : wk_get AL k with
  | none => rw [hg] at h; cases h
  | some v =>
    rw [hg] at h
    obtain ⟨h1, h2⟩ := wk_bt h
    show (if wk_isr v then some ((pc + d, AL, v :: AS) : wk_P) else none) = some r
    rw [if_pos h1]
    exact h2
theorem wk_qsti_r {k d : Nat} (h : wk_qsti k d pc nL AL AS = some r) : ∃ v AS', AS = v :: AS' ∧ (if (wk_gi iv v).isSome ∧ k < nL then some ((pc + d, wk_st1 AL k v, AS') : wk_P) else none) = some r := by
  unfold wk_qsti at h
  rcases AS with _ | ⟨v, AS'⟩
  · cases h
  · obtain ⟨h1, h2⟩ := wk_bt h
    rw [Bool.and_eq_true] at h1
    rw [wk_fLs_eq] at h2
    refine ⟨v, AS', rfl, ?_⟩
    have hs : (wk_gi iv v).isSome = true := by
      rcases v with q | v
      · rfl
      · exact absurd h1.1 (by intro q; cases q)
    rw [if_pos ⟨hs, wk_blt h1.2⟩]
    exact h2
theorem wk_qsta_r {k d : Nat} (h : wk_qsta k d pc nL AL AS = some r) : ∃ v AS', AS = v :: AS' ∧ (if wk_isr v ∧ k < nL then some ((pc + d, wk_st1 AL k v, AS') : wk_P) else none) = some r := by
  unfold wk_qsta at h
  rcases AS with _ | ⟨v, AS'⟩
  · cases h
  · obtain ⟨h1, h2⟩ := wk_bt h
    rw [Bool.and_eq_true] at h1
    rw [wk_fLs_eq] at h2
    refine ⟨v, AS', rfl, ?_⟩
    rw [if_pos ⟨h1.1, wk_blt h1.2⟩]
    exact h2
theorem wk_qinc_r {k : Nat} {a d : Int} (hd : (Int32.ofInt d).toInt = a) (h : wk_qinc k a pc nL AL AS = some r) : ((wk_get AL k).bind fun v => (wk_o2 iv (fun a b => a + b) v (wk_sI (Int32.ofInt d))).bind fun w => if k < nL then some ((pc + 3, wk_st1 AL k w, AS) : wk_P) else none) = some r := by
  unfold wk_qinc at h
  split at h
  · rename_i p q hg
    obtain ⟨h1, h2⟩ := wk_bt h
    simp only [Bool.and_eq_true, decide_eq_true_eq] at h1
    obtain ⟨h3, h4, h5⟩ := h1
    subst h3
    rw [wk_fI_eq, wk_fLs_eq] at h2
    rw [hg]
    have ho : wk_o2 iv (fun a b => a + b) (.inl (p, p)) (wk_sI (Int32.ofInt d)) = some (.inl (p + a, p + a)) := by
      show some (if p = p ∧ (Int32.ofInt d).toInt = (Int32.ofInt d).toInt then wk_sI (Int32.ofInt p + Int32.ofInt (Int32.ofInt d).toInt) else wk_tI) = _
      rw [if_pos ⟨rfl, rfl⟩, hd, ← Int32.ofInt_add]
      unfold wk_sI
      rw [wk_in32_r h4]
    simp only [Option.bind_some, ho, if_pos (wk_blt h5)]
    exact h2
  · cases h
theorem wk_qif_r {c : ClassFile.Cond} {t : Nat} {off : Int} (ht : wk_to pc off = some t) (h : wk_qif c t pc AL AS = some r) : ∃ v AS', AS = v :: AS' ∧ ((wk_br c pc off (wk_gi iv v) (some (0, 0))).map fun t => ((t, AL, AS') : wk_P)) = some r := by
  unfold wk_qif at h
  split at h
  · rename_i q AS'
    refine ⟨_, AS', rfl, ?_⟩
    unfold wk_br
    simp only [wk_gi, ht]
    cases hc : wk_cnd c q (0, 0) with
    | none => rw [hc] at h; cases h
    | some b =>
      rw [hc] at h
      cases b
      · exact h
      · exact h
  · cases h
theorem wk_qic_r {c : ClassFile.Cond} {t : Nat} {off : Int} (ht : wk_to pc off = some t) (h : wk_qic c t pc AL AS = some r) : ∃ v w AS', AS = v :: w :: AS' ∧ ((wk_br c pc off (wk_gi iv w) (wk_gi iv v)).map fun t => ((t, AL, AS') : wk_P)) = some r := by
  unfold wk_qic at h
  split at h
  · rename_i q p AS'
    refine ⟨_, _, AS', rfl, ?_⟩
    unfold wk_br
    simp only [wk_gi, ht]
    cases hc : wk_cnd c p q with
    | none => rw [hc] at h; cases h
    | some b =>
      rw [hc] at h
      cases b
      · exact h
      · exact h
  · cases h
theorem wk_qar_r {F : Int → Int → Int} {G : Int32 → Int32 → Int32} (hG : ∀ a b, G (Int32.ofInt a) (Int32.ofInt b) = Int32.ofInt (F a b)) (h : wk_qar F pc AL AS = some r) : ∃ v w AS', AS = v :: w :: AS' ∧ ((wk_o2 iv G w v).map fun x => ((pc + 1, AL, x :: AS') : wk_P)) = some r := by
  unfold wk_qar at h
  split at h
  · rename_i c d a b AS'
    obtain ⟨h1, h2⟩ := wk_bt h
    simp only [Bool.and_eq_true, decide_eq_true_eq] at h1
    obtain ⟨rfl, rfl⟩ := h1
    refine ⟨_, _, AS', rfl, ?_⟩
    unfold wk_q1 at h2
    obtain ⟨h3, h4⟩ := wk_bt h2
    have ho : wk_o2 iv G (.inl (a, a)) (.inl (c, c)) = some (.inl (F a c, F a c)) := by
      show some (if a = a ∧ c = c then wk_sI (G (Int32.ofInt a) (Int32.ofInt c)) else wk_tI) = _
      rw [if_pos ⟨rfl, rfl⟩, hG]
      unfold wk_sI
      rw [wk_in32_r h3]
    rw [ho]
    exact h4
  · cases h
set_option maxHeartbeats 4000000 in
theorem wk_fast_ok {i : Instr} {n t : Nat} {a : Int} {X : Nat × Nat × Int} (hlk : wk_lk i n = true) (hok : wk_okt i X pc t a = true) (h : wk_fast t (bif Nat.beq t 7 then X.1 else a.toNat) n a iv nL pc AL AS = some r) : wk_pure iv nL i X.2.2 pc AL AS = some r := by
  unfold wk_okt at hok
  split at hok
  case h_1 m =>
    obtain rfl := Nat.eq_of_beq_eq_true hlk
    rw [decide_eq_true_eq] at hok
    subst hok
    exact h
  case h_2 m =>
    obtain rfl := Nat.eq_of_beq_eq_true hlk
    rw [decide_eq_true_eq] at hok
    subst hok
    exact h
  case h_3 m =>
    obtain rfl := Nat.eq_of_beq_eq_true hlk
    rw [decide_eq_true_eq] at hok
    subst hok
    exact h
  case h_4 m =>
    obtain rfl := Nat.eq_of_beq_eq_true hlk
    rw [decide_eq_true_eq] at hok
    subst hok
    exact h
  case h_5 m =>
    obtain rfl := Nat.eq_of_beq_eq_true hlk
    rw [decide_eq_true_eq] at hok
    subst hok
    exact h
  case h_6 m =>
    obtain rfl := Nat.eq_of_beq_eq_true hlk
    have e := Nat.eq_of_beq_eq_true hok
    have h : wk_qload wk_gii a.toNat 1 pc AL AS = some r := h
    rw [← e] at h
    exact wk_qload_i h
  case h_7 m =>
    obtain rfl := Nat.eq_of_beq_eq_true hlk
    have e := Nat.eq_of_beq_eq_true hok
    have h : wk_qload wk_gii a.toNat 2 pc AL AS = some r := h
    rw [← e] at h
    exact wk_qload_i h
  case h_8 m =>
    obtain rfl := Nat.eq_of_beq_eq_true hlk
    have e := Nat.eq_of_beq_eq_true hok
    have h : wk_qload wk_isr a.toNat 1 pc AL AS = some r := h
    rw [← e] at h
    exact wk_qload_a h
  case h_9 m =>
    obtain rfl := Nat.eq_of_beq_eq_true hlk
    have e := Nat.eq_of_beq_eq_true hok
    have h : wk_qload wk_isr a.toNat 2 pc AL AS = some r := h
    rw [← e] at h
    exact wk_qload_a h
  case h_10 m =>
    obtain rfl := Nat.eq_of_beq_eq_true hlk
    have e := Nat.eq_of_beq_eq_true hok
    have h : wk_qload wk_gjj a.toNat 1 pc AL AS = some r := h
    rw [← e] at h
    exact wk_qload_j h
  case h_11 m =>
    obtain rfl := Nat.eq_of_beq_eq_true hlk
    have e := Nat.eq_of_beq_eq_true hok
    have h : wk_qload wk_gjj a.toNat 2 pc AL AS = some r := h
    rw [← e] at h
    exact wk_qload_j h
  case h_12 m =>
    obtain rfl := Nat.eq_of_beq_eq_true hlk
    have e := Nat.eq_of_beq_eq_true hok
    have h : wk_qsti a.toNat 1 pc nL AL AS = some r := h
    rw [← e] at h
    obtain ⟨v, AS', rfl, h2⟩ := wk_qsti_r (iv := iv) h
    exact h2
  case h_13 m =>
    obtain rfl := Nat.eq_of_beq_eq_true hlk
    have e := Nat.eq_of_beq_eq_true hok
    have h : wk_qsti a.toNat 2 pc nL AL AS = some r := h
    rw [← e] at h
    obtain ⟨v, AS', rfl, h2⟩ := wk_qsti_r (iv := iv) h
    exact h2
  case h_14 m =>
    obtain rfl := Nat.eq_of_beq_eq_true hlk
    have e := Nat.eq_of_beq_eq_true hok
    have h : wk_qsta a.toNat 1 pc nL AL AS = some r := h
    rw [← e] at h
    obtain ⟨v, AS', rfl, h2⟩ := wk_qsta_r h
    exact h2
  case h_15 m =>
    obtain rfl := Nat.eq_of_beq_eq_true hlk
    have e := Nat.eq_of_beq_eq_true hok
    have h : wk_qsta a.toNat 2 pc nL AL AS = some r := h
    rw [← e] at h
    obtain ⟨v, AS', rfl, h2⟩ := wk_qsta_r h
    exact h2
  case h_16 k d =>
    rw [Bool.and_eq_true, decide_eq_true_eq] at hok
    have e := Nat.eq_of_beq_eq_true hok.1
    have h : wk_qinc X.1 a pc nL AL AS = some r := h
    rw [← e] at h
    exact wk_qinc_r hok.2 h
  case h_17 off =>
    rw [decide_eq_true_eq] at hok
    have h : some ((a.toNat, AL, AS) : wk_P) = some r := h
    show ((wk_to pc off).map fun t => ((t, AL, AS) : wk_P)) = some r
    rw [hok]
    exact h
  case h_18 off =>
    rw [decide_eq_true_eq] at hok
    have h : wk_qif .eq a.toNat pc AL AS = some r := h
    obtain ⟨v, AS', rfl, h2⟩ := wk_qif_r (iv := iv) hok h
    exact h2
  case h_19 off =>
    rw [decide_eq_true_eq] at hok
    have h : wk_qif .ne a.toNat pc AL AS = some r := h
    obtain ⟨v, AS', rfl, h2⟩ := wk_qif_r (iv := iv) hok h
    exact h2
  case h_20 off =>
    rw [decide_eq_true_eq] at hok
    have h : wk_qif .lt a.toNat pc AL AS = some r := h
    obtain ⟨v, AS', rfl, h2⟩ := wk_qif_r (iv := iv) hok h
    exact h2
  case h_21 off =>
    rw [decide_eq_true_eq] at hok
    have h : wk_qif .ge a.toNat pc AL AS = some r := h
    obtain ⟨v, AS', rfl, h2⟩ := wk_qif_r (iv := iv) hok h
    exact h2
  case h_22 off =>
    rw [decide_eq_true_eq] at hok
    have h : wk_qif .gt a.toNat pc AL AS = some r := h
    obtain ⟨v, AS', rfl, h2⟩ := wk_qif_r (iv := iv) hok h
    exact h2
  case h_23 off =>
    rw [decide_eq_true_eq] at hok
    have h : wk_qif .le a.toNat pc AL AS = some r := h
    obtain ⟨v, AS', rfl, h2⟩ := wk_qif_r (iv := iv) hok h
    exact h2
  case h_24 off =>
    rw [decide_eq_true_eq] at hok
    have h : wk_qic .eq a.toNat pc AL AS = some r := h
    obtain ⟨v, w, AS', rfl, h2⟩ := wk_qic_r (iv := iv) hok h
    exact h2
  case h_25 off =>
    rw [decide_eq_true_eq] at hok
    have h : wk_qic .ne a.toNat pc AL AS = some r := h
    obtain ⟨v, w, AS', rfl, h2⟩ := wk_qic_r (iv := iv) hok h
    exact h2
  case h_26 off =>
    rw [decide_eq_true_eq] at hok
    have h : wk_qic .lt a.toNat pc AL AS = some r := h
    obtain ⟨v, w, AS', rfl, h2⟩ := wk_qic_r (iv := iv) hok h
    exact h2
  case h_27 off =>
    rw [decide_eq_true_eq] at hok
    have h : wk_qic .ge a.toNat pc AL AS = some r := h
    obtain ⟨v, w, AS', rfl, h2⟩ := wk_qic_r (iv := iv) hok h
    exact h2
  case h_28 off =>
    rw [decide_eq_true_eq] at hok
    have h : wk_qic .gt a.toNat pc AL AS = some r := h
    obtain ⟨v, w, AS', rfl, h2⟩ := wk_qic_r (iv := iv) hok h
    exact h2
  case h_29 off =>
    rw [decide_eq_true_eq] at hok
    have h : wk_qic .le a.toNat pc AL AS = some r := h
    obtain ⟨v, w, AS', rfl, h2⟩ := wk_qic_r (iv := iv) hok h
    exact h2
  case h_30 =>
    have h : wk_qar (fun x y => x + y) pc AL AS = some r := h
    obtain ⟨v, w, AS', rfl, h2⟩ := wk_qar_r (iv := iv) (G := fun a b => a + b) (fun a b => (Int32.ofInt_add a b).symm) h
    exact h2
  case h_31 =>
    have h : wk_qar (fun x y => x - y) pc AL AS = some r := h
    obtain ⟨v, w, AS', rfl, h2⟩ := wk_qar_r (iv := iv) (G := fun a b => a - b) (fun a b => (Int32.ofInt_sub a b).symm) h
    exact h2
  case h_32 =>
    have h : wk_qar (fun x y => x * y) pc AL AS = some r := h
    obtain ⟨v, w, AS', rfl, h2⟩ := wk_qar_r (iv := iv) (G := fun a b => a * b) (fun a b => (Int32.ofInt_mul a b).symm) h
    exact h2
  case h_33 =>
    have h : wk_qil pc AL AS = some r := h
    unfold wk_qil at h
    split at h
    · exact h
    · exact h
    · cases h
  case h_34 =>
    have h : wk_qlc iv pc AL AS = some r := h
    unfold wk_qlc at h
    rcases AS with _ | ⟨v, _ | ⟨w, AS⟩⟩
    · cases h
    · cases h
    · show ((wk_lc iv w v).map fun x => ((pc + 1, AL, x :: AS) : wk_P)) = some r
      simp only at h
      cases hc : wk_lc iv w v with
      | none => rw [hc] at h; cases h
      | some u => rw [hc] at h; exact h
  case h_35 =>
    have h : wk_qdup pc AL AS = some r := h
    unfold wk_qdup at h
    rcases AS with _ | ⟨v, AS⟩
    · cases h
    · obtain ⟨h1, h2⟩ := wk_bt h
      show (if wk_c1 v then some ((pc + 1, AL, v :: v :: AS) : wk_P) else none) = some r
      rw [if_pos h1]
      exact h2
  case h_36 =>
    have h : wk_qdup2 pc AL AS = some r := h
    unfold wk_qdup2 at h
    rcases AS with _ | ⟨v, _ | ⟨w, AS⟩⟩
    · cases h
    · cases h
    · obtain ⟨h1, h2⟩ := wk_bt h
      rw [Bool.and_eq_true] at h1
      show (if wk_c1 v ∧ wk_c1 w then some ((pc + 1, AL, v :: w :: v :: w :: AS) : wk_P) else none) = some r
      rw [if_pos h1]
      exact h2
  case h_37 m =>
    obtain rfl := Nat.eq_of_beq_eq_true hlk
    rw [decide_eq_true_eq] at hok
    subst hok
    exact h
  case h_38 m =>
    obtain rfl := Nat.eq_of_beq_eq_true hlk
    rw [decide_eq_true_eq] at hok
    subst hok
    exact h
  case h_39 => exact wk_no h
  case h_40 => exact wk_no h
  case h_41 => exact wk_no h
  case h_42 => exact wk_no h
  case h_43 => exact wk_no h
  case h_44 => exact wk_no h
  case h_45 => exact wk_no h
  case h_46 => cases hok
theorem wk_hfast_ok {i : Instr} {t Lz : Nat} {a : Int} {X : Nat × Nat × Int} {AH : wk_A} {q : wk_H} (hok : wk_okt i X pc t a = true) (h : wk_hfast t Lz iv X AS AH = some q) : wk_hp Lz iv i X AS AH = some q := by
  have key : wk_heap Lz iv i X AS AH = some q → wk_isC i X AS = false → wk_oin i X AS = none → wk_mth iv i X AS = none → wk_hp Lz iv i X AS AH = some q := by
    intro h1 h2 h3 h4
    unfold wk_hp
    rw [h2, h3, h4]
    exact h1
  unfold wk_okt at hok
  split at hok
  case h_39 m =>
    rcases AS with _ | ⟨v, AS⟩
    · exact wk_no h
    · exact key h rfl rfl rfl
  case h_40 =>
    rcases AS with _ | ⟨v, AS⟩
    · exact wk_no h
    · exact key h rfl rfl rfl
  case h_41 m =>
    rcases AS with _ | ⟨v, _ | ⟨w, AS⟩⟩
    · exact wk_no h
    · exact wk_no h
    · exact key h rfl rfl rfl
  case h_42 =>
    rcases AS with _ | ⟨v, _ | ⟨w, AS⟩⟩
    · exact wk_no h
    · exact wk_no h
    · have h : (bif wk_gii v then wk_ild Lz iv v w AS AH else none) = some q := h
      exact key (wk_bt h).2 rfl rfl rfl
  case h_43 =>
    rcases AS with _ | ⟨v, _ | ⟨w, AS⟩⟩
    · exact wk_no h
    · exact wk_no h
    · have h : (bif wk_gii v then wk_ald iv v w AS AH else none) = some q := h
      exact key (wk_bt h).2 rfl rfl rfl
  case h_44 =>
    rcases AS with _ | ⟨v, _ | ⟨w, _ | ⟨u, AS⟩⟩⟩
    · exact wk_no h
    · exact wk_no h
    · exact wk_no h
    · have h : (bif wk_gii w then wk_ist iv v w u AS AH else none) = some q := h
      exact key (wk_bt h).2 rfl rfl rfl
  case h_46 => cases hok
  all_goals
    rcases AS with _ | ⟨v, _ | ⟨w, _ | ⟨u, AS⟩⟩⟩ <;> exact wk_no h
end WKF
