/-! ===== the clean logic: the rules of the heap, of returns, of calls ===== -/
theorem kc_rg (f : Nat → wk_V) (nf j : Nat) (h : j < nf) : wk_at ((List.range nf).map f) j = some (f j) := by
  rw [wk_at_eq, List.getElem?_map, List.getElem?_range h]
  rfl
theorem kc_blt {a b : Nat} (h : a < b) : Nat.blt a b = true := Nat.ble_eq_true_of_le h
theorem kc_beq (a : Nat) : Nat.beq a a = true := Nat.beq_refl a
section KCR
variable {g : kc_G} {d : Nat} {M : wk_M} {Q : Option kc_V → kc_H → Prop} {pc : Nat} {AL : kc_L} {AS AS' : List kc_V} {h h' : kc_H} {i : Instr} {n : Nat} {x : Nat × Nat × Int} {wd : List Nat} {t : Nat} {a : Int} {dd : Nat}
set_option maxHeartbeats 4000000 in
theorem kc_heap_ok (hf : wk_fetch M pc = some (pc, i, n, x, wd, t, a)) (hp : kc_heap (kc_gL g) (kc_gs g) i x AS h = some (dd, AS', h')) (k : kc_Ev g d M Q (pc + dd) AL AS' h') : kc_Ev g d M Q pc AL AS h := by
  unfold kc_heap at hp
  split at hp
  · rename_i idx v AS
    cases ho : kc_obj v x.1 x.2.1 with
    | none => rw [ho] at hp; cases hp
    | some k0 =>
      rw [ho] at hp
      cases hp
      obtain ⟨nf, rfl, hs, hk, hc, hlt⟩ := kc_obj_e ho
      refine kc_hp_ok (r := (3, kc_e (h k0 x.2.1) :: AS.map kc_e, none, [], 0, 0)) hf ?_ rfl (fun D A U as z ws H st hr hst => ⟨h k0 x.2.1 :: AS, h, hr, hst, k⟩)
      show wk_getf x (.inr (.inr (.inl (some k0)))) (AS.map kc_e) (kc_A h) = _
      unfold wk_getf
      rw [kc_wobj hs hk hc]
      simp only [kc_beq, cond_true, kc_rg _ _ _ hlt]
      rfl
  · rename_i idx w v AS
    cases ho : kc_obj v x.1 x.2.1 with
    | none => rw [ho] at hp; cases hp
    | some k0 =>
      rw [ho] at hp
      simp only [Option.bind_some] at hp
      split at hp
      · rename_i hfit
        cases hp
        obtain ⟨nf, rfl, hs, hk, hc, hlt⟩ := kc_obj_e ho
        refine kc_hp_ok (r := (3, AS'.map kc_e, some (k0, .inr (x.1, ((List.range nf).map fun j => kc_e (h k0 j)).set x.2.1 (kc_e w))), [], 0, 0)) hf ?_ rfl (fun D A U as z ws H st hr hst => ⟨AS', _, kc_hr_o hs hk hr (fun j i hj => kc_upd_o j i hj) ?_, hst, k⟩)
        · show wk_putf [] x (kc_e w) (.inr (.inr (.inl (some k0)))) (AS'.map kc_e) (kc_A h) = _
          unfold wk_putf
          rw [kc_wobj hs hk hc]
          simp only [kc_beq, kc_rg _ _ _ hlt, Option.isSome_some, Bool.true_and, hfit, cond_true, wk_put_eq]
          rfl
        · refine List.ext_getElem? fun j => ?_
          rw [List.getElem?_set, List.length_map, List.length_range]
          by_cases hj : j < nf
          · rw [List.getElem?_map, List.getElem?_range hj, List.getElem?_map, List.getElem?_range hj]
            simp only [Option.map_some, kc_upd_i]
            by_cases e : x.2.1 = j
            · rw [if_pos e, if_pos (by omega), if_pos e.symm]
            · rw [if_neg e, if_neg (fun q => e q.symm)]
          · rw [List.getElem?_eq_none (by rw [List.length_map, List.length_range]; omega), List.getElem?_eq_none (by rw [List.length_map, List.length_range]; omega), if_neg (by omega)]
      · cases hp
  · rename_i v AS
    cases hi : kc_ix v (kc_gL g) with
    | none => rw [hi] at hp; cases hp
    | some j =>
      rw [hi] at hp
      cases hp
      obtain ⟨h1, h2⟩ := kc_ix_e hi
      refine kc_hp_ok (r := (1, .inr (.inr (.inr (0, j))) :: AS.map kc_e, none, [], 0, 0)) hf ?_ rfl (fun D A U as z ws H st hr hst => ⟨.inl (kc_gs g j) :: AS, h, hr, ?_, k⟩)
      · show wk_ild (kc_gL g) [] (kc_e v) (.inr (.inr (.inr (2, 0)))) (AS.map kc_e) (kc_A h) = _
        unfold wk_ild
        rw [h1]
        simp only [wk_scr, cond_true, kc_blt h2]
        rfl
      · obtain ⟨y0, st1, rfl, hv, hs1⟩ := wk_f2_cons hst
        have hv : y0 = .int (kc_gs g j) := hv
        subst hv
        exact ⟨⟨_, rfl, Int.le_refl _, Int.le_refl _⟩, hs1⟩
  · rename_i v q AS hne
    cases ho : kc_ary q with
    | none => rw [ho] at hp; cases hp
    | some r0 =>
      obtain ⟨k0, t0, n0⟩ := r0
      rw [ho] at hp
      simp only [Option.bind_some] at hp
      split at hp
      · rename_i ht
        cases hi : kc_ix v n0 with
        | none => rw [hi] at hp; cases hp
        | some j =>
          rw [hi] at hp
          cases hp
          obtain ⟨rfl, hs, hk⟩ := kc_ary_e ho
          obtain ⟨h1, h2⟩ := kc_ix_e hi
          refine kc_hp_ok (r := (1, kc_e (h k0 j) :: AS.map kc_e, none, [], 0, 0)) hf ?_ rfl (fun D A U as z ws H st hr hst => ⟨h k0 j :: AS, h, hr, hst, k⟩)
          show wk_ild (kc_gL g) [] (kc_e v) (.inr (.inr (.inl (some k0)))) (AS.map kc_e) (kc_A h) = _
          unfold wk_ild
          rw [h1, kc_wary hs hk, ht]
          simp only [wk_scr, cond_false, kc_beq, kc_blt h2, Bool.true_and, cond_true, kc_rows_at _ _ _ (Nat.le_of_lt h2)]
          rfl
      · cases hp
  · rename_i v q AS
    cases ho : kc_ary q with
    | none => rw [ho] at hp; cases hp
    | some r0 =>
      obtain ⟨k0, t0, n0⟩ := r0
      rw [ho] at hp
      simp only [Option.bind_some] at hp
      split at hp
      · rename_i ht
        cases hi : kc_ix v n0 with
        | none => rw [hi] at hp; cases hp
        | some j =>
          rw [hi] at hp
          cases hp
          obtain ⟨rfl, hs, hk⟩ := kc_ary_e ho
          obtain ⟨h1, h2⟩ := kc_ix_e hi
          refine kc_hp_ok (r := (1, kc_e (h k0 j) :: AS.map kc_e, none, [], 0, 0)) hf ?_ rfl (fun D A U as z ws H st hr hst => ⟨h k0 j :: AS, h, hr, hst, k⟩)
          show wk_bld [] (kc_e v) (.inr (.inr (.inl (some k0)))) (AS.map kc_e) (kc_A h) = _
          unfold wk_bld
          rw [h1, kc_wary hs hk, ht]
          simp only [kc_beq, kc_blt h2, Bool.true_and, cond_true, kc_rows_at _ _ _ (Nat.le_of_lt h2)]
          rfl
      · cases hp
  · rename_i v q AS
    cases ho : kc_ary q with
    | none => rw [ho] at hp; cases hp
    | some r0 =>
      obtain ⟨k0, t0, n0⟩ := r0
      rw [ho] at hp
      simp only [Option.bind_some] at hp
      split at hp
      · rename_i ht
        cases hi : kc_ix v n0 with
        | none => rw [hi] at hp; cases hp
        | some j =>
          rw [hi] at hp
          cases hp
          obtain ⟨rfl, hs, hk⟩ := kc_ary_e ho
          obtain ⟨h1, h2⟩ := kc_ix_e hi
          refine kc_hp_ok (r := (1, kc_e (h k0 j) :: AS.map kc_e, none, [], 0, 0)) hf ?_ rfl (fun D A U as z ws H st hr hst => ⟨h k0 j :: AS, h, hr, hst, k⟩)
          show wk_ald [] (kc_e v) (.inr (.inr (.inl (some k0)))) (AS.map kc_e) (kc_A h) = _
          unfold wk_ald
          rw [h1, kc_wary hs hk]
          simp only [show Nat.ble 2 t0 = true from Nat.ble_eq_true_of_le ht, kc_blt h2, Bool.true_and, cond_true, kc_rows_at _ _ _ (Nat.le_of_lt h2)]
          rfl
      · cases hp
  · rename_i w v q AS
    cases ho : kc_ary q with
    | none => rw [ho] at hp; cases hp
    | some r0 =>
      obtain ⟨k0, t0, n0⟩ := r0
      rw [ho] at hp
      simp only [Option.bind_some] at hp
      split at hp
      · rename_i ht
        cases hi : kc_ix v n0 with
        | none => rw [hi] at hp; cases hp
        | some j =>
          rw [hi] at hp
          cases hp
          obtain ⟨rfl, hs, hk⟩ := kc_ary_e ho
          obtain ⟨h1, h2⟩ := kc_ix_e hi
          have hat := kc_rows_at (h k0) n0 j (Nat.le_of_lt h2)
          refine kc_hp_ok (r := (1, AS'.map kc_e, some (k0, .inl (t0, n0, wk_set2 (kc_rows (h k0) n0) j (kc_e (.inl w)))), [], 0, 0)) hf ?_ rfl (fun D A U as z ws H st hr hst => ⟨AS', _, kc_hr_a hs hk hr (fun j i hj => kc_upd_o j i hj) (fun j2 hj2 => ?_), hst, k⟩)
          · show wk_ist [] (kc_e (.inl w)) (kc_e v) (.inr (.inr (.inl (some k0)))) (AS'.map kc_e) (kc_A h) = _
            unfold wk_ist
            rw [h1, kc_wary hs hk, ht]
            simp only [kc_beq, kc_blt h2, Bool.true_and, hat, Option.isSome_some, show (wk_gi [] (kc_e (.inl w))).isSome = true from rfl, cond_true, wk_put2_eq]
            rfl
          · rw [wk_at2_set _ _ _ _ (by rw [hat]; rfl), kc_upd_i]
            by_cases e : j2 = j
            · rw [if_pos e, if_pos e]
            · rw [if_neg e, if_neg e]
              exact kc_rows_at _ _ _ (Nat.le_of_lt hj2)
      · cases hp
  · rename_i w v q AS
    cases ho : kc_ary q with
    | none => rw [ho] at hp; cases hp
    | some r0 =>
      obtain ⟨k0, t0, n0⟩ := r0
      rw [ho] at hp
      simp only [Option.bind_some] at hp
      split at hp
      · rename_i ht
        obtain ⟨ht, hfit⟩ := ht
        cases hi : kc_ix v n0 with
        | none => rw [hi] at hp; cases hp
        | some j =>
          rw [hi] at hp
          cases hp
          obtain ⟨rfl, hs, hk⟩ := kc_ary_e ho
          obtain ⟨h1, h2⟩ := kc_ix_e hi
          have hat := kc_rows_at (h k0) n0 j (Nat.le_of_lt h2)
          refine kc_hp_ok (r := (1, AS'.map kc_e, some (k0, .inl (t0, n0, wk_set2 (kc_rows (h k0) n0) j (kc_e w))), [], 0, 0)) hf ?_ rfl (fun D A U as z ws H st hr hst => ⟨AS', _, kc_hr_a hs hk hr (fun j i hj => kc_upd_o j i hj) (fun j2 hj2 => ?_), hst, k⟩)
          · show wk_bst [] (kc_e w) (kc_e v) (.inr (.inr (.inl (some k0)))) (AS'.map kc_e) (kc_A h) = _
            unfold wk_bst
            rw [h1, kc_wary hs hk, ht]
            simp only [kc_beq, kc_blt h2, Bool.true_and, hat, Option.isSome_some, hfit, cond_true, wk_put2_eq]
            rfl
          · rw [wk_at2_set _ _ _ _ (by rw [hat]; rfl), kc_upd_i]
            by_cases e : j2 = j
            · rw [if_pos e, if_pos e]
            · rw [if_neg e, if_neg e]
              exact kc_rows_at _ _ _ (Nat.le_of_lt hj2)
      · cases hp
  · rename_i AS
    cases hp
    refine kc_hp_ok (r := (1, wk_sI (Int32.ofNat (kc_gL g)) :: AS.map kc_e, none, [], 0, 0)) hf ?_ rfl (fun D A U as z ws H st hr hst => ⟨.inl (Int32.ofNat (kc_gL g)) :: AS, h, hr, hst, k⟩)
    rfl
  · rename_i q AS hne
    cases ho : kc_ary q with
    | none => rw [ho] at hp; cases hp
    | some r0 =>
      obtain ⟨k0, t0, n0⟩ := r0
      rw [ho] at hp
      cases hp
      obtain ⟨rfl, hs, hk⟩ := kc_ary_e ho
      refine kc_hp_ok (r := (1, wk_sI (Int32.ofNat n0) :: AS.map kc_e, none, [], 0, 0)) hf ?_ rfl (fun D A U as z ws H st hr hst => ⟨.inl (Int32.ofNat n0) :: AS, h, hr, hst, k⟩)
      show wk_aln (kc_gL g) (.inr (.inr (.inl (some k0)))) (AS.map kc_e) (kc_A h) = _
      unfold wk_aln
      rw [kc_wary hs hk]
      rfl
  · rename_i idx nn dp b sp q AS
    split at hp
    · rename_i h5
      cases ho : kc_ary b with
      | none => rw [ho] at hp; cases hp
      | some r0 =>
        obtain ⟨k0, t0, n0⟩ := r0
        rw [ho] at hp
        simp only [Option.bind_some] at hp
        cases ho2 : kc_ary q with
        | none => rw [ho2] at hp; cases hp
        | some r1 =>
          obtain ⟨k1, t1, n1⟩ := r1
          rw [ho2] at hp
          simp only [Option.bind_some] at hp
          split at hp
          · rename_i hc
            obtain ⟨e1, e2, e3, e4, e5, e6, e7⟩ := hc
            cases hp
            obtain ⟨rfl, hs, hk⟩ := kc_ary_e ho
            obtain ⟨rfl, hs1, hk1⟩ := kc_ary_e ho2
            subst e1 e2 e4
            refine kc_hp_ok (r := (3, AS'.map kc_e, some (k0, .inl (0, n1, kc_rows (h k1) n1)), [], 0, 0)) hf ?_ rfl (fun D A U as z ws H st hr hst => ⟨AS', _, kc_hr_a hs hk hr (fun j i hj => if_neg (fun q => hj q.1)) (fun j2 hj2 => ?_), hst, k⟩)
            · have hn : wk_nx [] (kc_e (.inl nn)) = some n1 := by
                show (match some (nn.toInt, nn.toInt) with
                  | some (.ofNat a, .ofNat b) => if Nat.beq a b then some a else none
                  | _ => none) = some n1
                rw [e3]
                simp
              have hd0 : wk_nx [] (kc_e (.inl dp)) = some 0 := by
                show (match some (dp.toInt, dp.toInt) with
                  | some (.ofNat a, .ofNat b) => if Nat.beq a b then some a else none
                  | _ => none) = some 0
                rw [e5]
                rfl
              have hs0 : wk_nx [] (kc_e (.inl sp)) = some 0 := by
                show (match some (sp.toInt, sp.toInt) with
                  | some (.ofNat a, .ofNat b) => if Nat.beq a b then some a else none
                  | _ => none) = some 0
                rw [e6]
                rfl
              have hC : wk_isC (.invokestatic idx) x ((kc_e (.inl nn)) :: (kc_e (.inl dp)) :: (.inr (.inr (.inl (some k0)))) :: (kc_e (.inl sp)) :: (.inr (.inr (.inl (some k1)))) :: AS'.map kc_e) = true := by
                show (match Instr.invokestatic idx, x.1 with
                  | .invokestatic _, 5 => true
                  | _, _ => false) = true
                rw [h5]
                rfl
              show wk_hp (kc_gL g) [] (.invokestatic idx) x ((kc_e (.inl nn)) :: (kc_e (.inl dp)) :: (.inr (.inr (.inl (some k0)))) :: (kc_e (.inl sp)) :: (.inr (.inr (.inl (some k1)))) :: AS'.map kc_e) (kc_A h) = _
              unfold wk_hp
              rw [hC, if_pos rfl]
              unfold wk_copy
              simp only [hn, hd0, hs0, kc_wary hs hk, kc_wary hs1 hk1, kc_beq, Bool.true_and, show Nat.ble (wk_cat (AS'.map kc_e)) 8 = true from Nat.ble_eq_true_of_le e7, cond_true]
              rfl
            · have e : kc_cpy h k0 k1 n1 k0 j2 = h k1 j2 := if_pos ⟨rfl, hj2⟩
              show wk_at2 (kc_rows (h k1) n1) j2 = some (kc_e (kc_cpy h k0 k1 n1 k0 j2))
              rw [e]
              exact kc_rows_at _ _ _ (Nat.le_of_lt hj2)
          · cases hp
    · cases hp
  · cases hp
theorem kc_math_ok (hf : wk_fetch M pc = some (pc, i, n, x, wd, t, a)) (hp : kc_math i x AS = some AS') (k : kc_Ev g d M Q (pc + 3) AL AS' h) : kc_Ev g d M Q pc AL AS h := by
  unfold kc_math at hp
  split at hp
  · rename_i idx b AS
    split at hp
    · split at hp
      · rename_i h7
        split at hp
        · rename_i hc
          cases hp
          refine kc_hp_ok (r := (3, kc_e (.inl (if 0 ≤ b then b else 0 - b)) :: AS.map kc_e, none, [], 0, 0)) hf ?_ rfl (fun D A U as z ws H st hr hst => ⟨.inl (if 0 ≤ b then b else 0 - b) :: AS, h, hr, hst, k⟩)
          have hC : wk_isC (.invokestatic idx) x (kc_e (.inl b) :: AS.map kc_e) = false := by
            show (match Instr.invokestatic idx, x.1 with
              | .invokestatic _, 5 => true
              | _, _ => false) = false
            rw [h7]
            rfl
          have hm : wk_mth [] (.invokestatic idx) x (kc_e (.inl b) :: AS.map kc_e) = some (3, kc_e (.inl (if 0 ≤ b then b else 0 - b)) :: AS.map kc_e, none, [], 0, 0) := by
            unfold wk_mth
            rw [h7]
            simp [wk_o2, wk_gi, kc_e, wk_sI, Int32.ofInt_toInt, wk_h1, show Nat.ble (wk_cat (AS.map kc_e)) 8 = true from Nat.ble_eq_true_of_le hc]
          have ho : wk_oin (.invokestatic idx) x (kc_e (.inl b) :: AS.map kc_e) = none := rfl
          show wk_hp (kc_gL g) [] (.invokestatic idx) x (kc_e (.inl b) :: AS.map kc_e) (kc_A h) = _
          unfold wk_hp
          rw [hC, hm, ho]
          rfl
        · cases hp
      · rename_i h7
        split at hp
        · rename_i h6
          split at hp
          · rename_i a AS hle9
            split at hp
            · rename_i hc
              cases hp
              refine kc_hp_ok (r := (3, kc_e (.inl (if b < a then b else a)) :: AS.map kc_e, none, [], 0, 0)) hf ?_ rfl (fun D A U as z ws H st hr hst => ⟨.inl (if b < a then b else a) :: AS, h, hr, hst, k⟩)
              have hC : wk_isC (.invokestatic idx) x (kc_e (.inl b) :: kc_e (.inl a) :: AS.map kc_e) = false := by
                show (match Instr.invokestatic idx, x.1 with
                  | .invokestatic _, 5 => true
                  | _, _ => false) = false
                rw [h6]
                rfl
              have hm : wk_mth [] (.invokestatic idx) x (kc_e (.inl b) :: kc_e (.inl a) :: AS.map kc_e) = some (3, kc_e (.inl (if b < a then b else a)) :: AS.map kc_e, none, [], 0, 0) := by
                unfold wk_mth
                rw [h6]
                simp [wk_o2, wk_gi, kc_e, wk_sI, Int32.ofInt_toInt, wk_h1, show Nat.ble (wk_cat (AS.map kc_e)) 8 = true from Nat.ble_eq_true_of_le hc]
              have ho : wk_oin (.invokestatic idx) x (kc_e (.inl b) :: kc_e (.inl a) :: AS.map kc_e) = none := rfl
              show wk_hp (kc_gL g) [] (.invokestatic idx) x (kc_e (.inl b) :: kc_e (.inl a) :: AS.map kc_e) (kc_A h) = _
              unfold wk_hp
              rw [hC, hm, ho]
              rfl
            · cases hp
          · cases hp
        · rename_i h6
          split at hp
          · rename_i h8
            split at hp
            · rename_i a AS hle9
              split at hp
              · rename_i hc
                cases hp
                refine kc_hp_ok (r := (3, kc_e (.inl (if a < b then b else a)) :: AS.map kc_e, none, [], 0, 0)) hf ?_ rfl (fun D A U as z ws H st hr hst => ⟨.inl (if a < b then b else a) :: AS, h, hr, hst, k⟩)
                have hC : wk_isC (.invokestatic idx) x (kc_e (.inl b) :: kc_e (.inl a) :: AS.map kc_e) = false := by
                  show (match Instr.invokestatic idx, x.1 with
                    | .invokestatic _, 5 => true
                    | _, _ => false) = false
                  rw [h8]
                  rfl
                have hm : wk_mth [] (.invokestatic idx) x (kc_e (.inl b) :: kc_e (.inl a) :: AS.map kc_e) = some (3, kc_e (.inl (if a < b then b else a)) :: AS.map kc_e, none, [], 0, 0) := by
                  unfold wk_mth
                  rw [h8]
                  simp [wk_o2, wk_gi, kc_e, wk_sI, Int32.ofInt_toInt, wk_h1, show Nat.ble (wk_cat (AS.map kc_e)) 8 = true from Nat.ble_eq_true_of_le hc]
                have ho : wk_oin (.invokestatic idx) x (kc_e (.inl b) :: kc_e (.inl a) :: AS.map kc_e) = none := rfl
                show wk_hp (kc_gL g) [] (.invokestatic idx) x (kc_e (.inl b) :: kc_e (.inl a) :: AS.map kc_e) (kc_A h) = _
                unfold wk_hp
                rw [hC, hm, ho]
                rfl
              · cases hp
            · cases hp
          · cases hp
    · cases hp
  · cases hp
end KCR
