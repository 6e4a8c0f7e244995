/-! ===== contracts of the class: the frame ===== -/
/-- a list of contracts as a table -/
def kd_ctl : List (Nat × kd_Tc) → Nat → List kd_Tc
  | [], _ => []
  | (i, T) :: r, id => bif Nat.beq i id then T :: kd_ctl r id else kd_ctl r id
theorem kd_ctl_r {g : kc_G} {d : Nat} {ty : kd_T} : ∀ (l : List (Nat × kd_Tc)), (∀ q ∈ l, kd_hold g d ty q.1 q.2) → ∀ id, ∀ T ∈ kd_ctl l id, kd_hold g d ty id T
  | [], _, _, T, h => by cases h
  | (i, T0) :: r, hl, id, T, h => by
    have h : T ∈ (bif Nat.beq i id then T0 :: kd_ctl r id else kd_ctl r id) := h
    have hr := kd_ctl_r r (fun q hq => hl q (List.mem_cons_of_mem _ hq)) id T
    cases hc : Nat.beq i id with
    | false => rw [hc] at h; exact hr h
    | true =>
      rw [hc] at h
      obtain rfl := Nat.eq_of_beq_eq_true hc
      rcases List.mem_cons.mp h with rfl | h
      · exact hl (i, T) List.mem_cons_self
      · exact hr h
theorem kd_mk {g : kc_G} {d d0 di : Nat} {id : Nat} {M : wk_M} {X : List (List kd_X)} {nL : Nat} {T : kd_Tc} {cl : List (Nat × kd_Tc)} {fuel : Nat} {Ss : List kd_St} (hg : kc_ok g) (hxp : kd_isA2 M X = true) (hm : wk_mt id = some M) (hk : wk_Mk M = 0) (hs : wk_Ms M = 0) (hn : wk_Ml M = nL) (hc : ∀ q ∈ cl, kd_hold g d0 kd_ty q.1 q.2) (hd : d0 + di + 1 ≤ d) (hok : Ss.all kd_sok = true) (h0 : kd_run0 kd_ty X nL (kd_call kd_ty kd_xt (kd_ctl cl) fuel di) T fuel Ss = true) (hrun : ∀ S ∈ Ss, kd_run1 kd_ty X nL (kd_call kd_ty kd_xt (kd_ctl cl) fuel di) T.2.2 fuel Ss S = true) : kd_hold g d kd_ty id T := by
  subst hn
  exact kd_hold_le (kd_new hg hm hk hs hxp (fun h0 => kd_call_r hg kd_xt_ok (kd_ctl_r cl hc) di) hok h0 hrun) hd
/-- for all of a list, one after another -/
def kd_al {α : Type} (P : α → Prop) : List α → Prop
  | [] => True
  | a :: r => P a ∧ kd_al P r
theorem kd_al_r {α : Type} {P : α → Prop} : ∀ l : List α, kd_al P l → ∀ a ∈ l, P a
  | [], _, _, h => by cases h
  | b :: r, hl, a, h => by
    rcases List.mem_cons.mp h with rfl | h
    · exact hl.1
    · exact kd_al_r r hl.2 a h
def kd_cons : Nat → Nat → List (Nat × Nat) → Bool
  | _, _, [] => false
  | a, b, (l, u) :: r => (Nat.beq l a && Nat.ble l u) && (bif Nat.beq u b then true else kd_cons (u + 1) b r)
theorem kd_cons_r : ∀ (ms : List (Nat × Nat)) (a b : Nat), kd_cons a b ms = true → ∀ m, a ≤ m → m ≤ b → ∃ q ∈ ms, q.1 ≤ m ∧ m ≤ q.2
  | [], _, _, h, _, _, _ => by cases h
  | (l, u) :: r, a, b, h, m, h1, h2 => by
    have h : ((Nat.beq l a && Nat.ble l u) && (bif Nat.beq u b then true else kd_cons (u + 1) b r)) = true := h
    rw [Bool.and_eq_true, Bool.and_eq_true] at h
    obtain rfl := Nat.eq_of_beq_eq_true h.1.1
    by_cases e : m ≤ u
    · exact ⟨(l, u), List.mem_cons_self, h1, e⟩
    · have h3 := h.2
      rcases kd_bif h3 with ⟨c, -⟩ | ⟨-, c⟩
      · have := Nat.eq_of_beq_eq_true c
        omega
      · obtain ⟨q, q1, q2⟩ := kd_cons_r r (u + 1) b c m (by omega) h2
        exact ⟨q, List.mem_cons_of_mem _ q1, q2⟩
theorem kd_f2_mid {R : kd_V → kc_V → Prop} {v : kd_V} {l2 : List kd_V} : ∀ (l1 : List kd_V) (xs : List kc_V), wk_f2 R (l1 ++ v :: l2) xs → ∃ y, R v y ∧ ∀ w, R w y → wk_f2 R (l1 ++ w :: l2) xs
  | [], [], h => h.elim
  | [], x :: xs, h => ⟨x, h.1, fun w hw => ⟨hw, h.2⟩⟩
  | u :: l1, [], h => h.elim
  | u :: l1, x :: xs, h => by
    obtain ⟨y, h1, h2⟩ := kd_f2_mid l1 xs h.2
    exact ⟨y, h1, fun w hw => ⟨h.1, h2 w hw⟩⟩
/-- a contract at every value of an argument -/
theorem kd_hold_arg {g : kc_G} {d : Nat} {ty : kd_T} {id : Nat} (l1 : List kd_V) {l2 : List kd_V} {a b : Nat} {fs : kd_F} {ps : List kd_P} (ms : List (Nat × Nat)) (hc : kd_cons a b ms = true) (h : ∀ q ∈ ms, kd_hold g d ty id (l1 ++ (0, q) :: l2, fs, ps)) : kd_hold g d ty id (l1 ++ (0, a, b) :: l2, fs, ps) := by
  intro xs hh hw hv hF
  obtain ⟨y, h1, h2⟩ := kd_f2_mid l1 xs hv
  obtain ⟨z, rfl, e1, e2⟩ := h1
  obtain ⟨q, q1, q2, q3⟩ := kd_cons_r ms a b hc (kd_nb z) e1 e2
  exact h q q1 xs hh hw (h2 _ ⟨z, rfl, q2, q3⟩) hF
/-- a contract at every value of a place -/
theorem kd_hold_fact {g : kc_G} {d : Nat} {ty : kd_T} {id : Nat} {l : List kd_V} (c i : Nat) {a b : Nat} {fs : kd_F} {ps : List kd_P} (ms : List (Nat × Nat)) (ht : kd_rn (ty c) i = some (0, a, b)) (hc : kd_cons a b ms = true) (h : ∀ q ∈ ms, kd_hold g d ty id (l, (c, i, (0, q)) :: fs, ps)) : kd_hold g d ty id (l, fs, ps) := by
  intro xs hh hw hv hF
  obtain ⟨z, e0, e1, e2⟩ := hw c i _ ht
  obtain ⟨m, q1, q2, q3⟩ := kd_cons_r ms a b hc (kd_nb z) e1 e2
  exact h m q1 xs hh hw hv (fun q hq => by
    rcases List.mem_cons.mp hq with rfl | hq
    · exact ⟨z, e0, q2, q3⟩
    · exact hF q hq)
