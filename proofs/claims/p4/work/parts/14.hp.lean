/-! ===== wk_hp and the short ways are sound ===== -/
section WKHP
variable {p : Program} {l : Launch} {e : Env} {R : Room} {s : State} {m : MethodId} {args : Array Value} {below : List Frame} {meth : Method} {c : Code} {H : Heap} {locs : List Loc} {cells slots : Nat} {Q : State → Prop}
variable {cc : ByteArray} {pc : Nat} {ls : Array Slot} {y : MethodName} {nL Lz : Nat} {z : Nat → Nat} {D : va_G} {A : Nat → Prop} {as : List Nat} {ρ : Nat → Int32} {iv : wk_I} {AS : List wk_V} {AH : wk_A} {ws : va_W} {st : List Value} {x : Nat × Nat × Int} {r : wk_H} {mt : Nat → Option wk_M}
theorem wk_heap_ok (C : wk_cx p s m args meth c cc y nL D A z Lz ρ) (hbx : wk_bx ρ iv) {i : Instr} {n : Nat} {wd : List Nat} (hd : decode cc pc = .ok (i, n)) (hlk : wk_lk i n = true) (hw : wk_okw mt y i x wd = true) (hp : wk_heap Lz iv i x AS AH = some r) (hroom : wk_room AH r.2.2.2.1 AH.1 = true) (hcells : cells + r.2.2.2.2.1 ≤ R.cells) (hslots : slots + r.2.2.2.2.2 ≤ R.slots) (hr : wk_hr D A s as z ρ AH ws H) (hS : va_S A s.heap H locs) (hs : wk_f2 (wk_r as z ρ) AS st)
    (kk : wk_go3 p l e R s m args below meth c cells slots Q D A as z ρ pc ls AH ws r) : W p l e R s m args below meth c H locs cells slots Q (F0 m pc ls st) := by
  cases i with
  | getfield idx =>
    obtain rfl := Nat.eq_of_beq_eq_true hlk
    rcases AS with _ | ⟨v, AS⟩
    · exact wk_no hp
    · match wd, hw with
      | [q1], hw => exact wk_getf_ok C hd hw hp hr hS hs kk
      | [], hw => cases hw
      | _ :: _ :: _, hw => cases hw
  | putfield idx =>
    obtain rfl := Nat.eq_of_beq_eq_true hlk
    rcases AS with _ | ⟨v, _ | ⟨w, AS⟩⟩
    · exact wk_no hp
    · exact wk_no hp
    · match wd, hw with
      | [q1], hw => exact wk_putf_ok C hbx hd hw hp hr hS hs kk
      | [], hw => cases hw
      | _ :: _ :: _, hw => cases hw
  | iaload =>
    obtain rfl := Nat.eq_of_beq_eq_true hlk
    rcases AS with _ | ⟨v, _ | ⟨w, AS⟩⟩
    · exact wk_no hp
    · exact wk_no hp
    · exact wk_ild_ok C hbx hd hp hr hS hs kk
  | baload =>
    obtain rfl := Nat.eq_of_beq_eq_true hlk
    rcases AS with _ | ⟨v, _ | ⟨w, AS⟩⟩
    · exact wk_no hp
    · exact wk_no hp
    · exact wk_bld_ok C hbx hd hp hr hS hs kk
  | aaload =>
    obtain rfl := Nat.eq_of_beq_eq_true hlk
    rcases AS with _ | ⟨v, _ | ⟨w, AS⟩⟩
    · exact wk_no hp
    · exact wk_no hp
    · exact wk_ald_ok C hbx hd hp hr hS hs kk
  | iastore =>
    obtain rfl := Nat.eq_of_beq_eq_true hlk
    rcases AS with _ | ⟨v, _ | ⟨w, _ | ⟨u, AS⟩⟩⟩
    · exact wk_no hp
    · exact wk_no hp
    · exact wk_no hp
    · exact wk_ist_ok C hbx hd hp hr hS hs kk
  | bastore =>
    obtain rfl := Nat.eq_of_beq_eq_true hlk
    rcases AS with _ | ⟨v, _ | ⟨w, _ | ⟨u, AS⟩⟩⟩
    · exact wk_no hp
    · exact wk_no hp
    · exact wk_no hp
    · exact wk_bst_ok C hbx hd hp hr hS hs kk
  | aastore =>
    obtain rfl := Nat.eq_of_beq_eq_true hlk
    rcases AS with _ | ⟨v, _ | ⟨w, _ | ⟨u, AS⟩⟩⟩
    · exact wk_no hp
    · exact wk_no hp
    · exact wk_no hp
    · exact wk_ast_ok C hbx hd hp hr hS hs kk
  | arraylength =>
    obtain rfl := Nat.eq_of_beq_eq_true hlk
    rcases AS with _ | ⟨v, AS⟩
    · exact wk_no hp
    · exact wk_aln_ok C hd hp hr hS hs kk
  | new idx =>
    obtain rfl := Nat.eq_of_beq_eq_true hlk
    match wd, hw with
    | [q1, q2, q3], hw => exact wk_new_ok C hd hw hp hroom hcells hslots hr hS hs kk
    | [], hw => cases hw
    | [_], hw => cases hw
    | [_, _], hw => cases hw
    | _ :: _ :: _ :: _ :: _, hw => cases hw
  | newarray ty =>
    obtain rfl := Nat.eq_of_beq_eq_true hlk
    rcases AS with _ | ⟨v, AS⟩
    · exact wk_no hp
    · match wd, hw with
      | [q1], hw => exact wk_nwa_ok C hbx hd hw hp hroom hcells hslots hr hS hs kk
      | [], hw => cases hw
      | _ :: _ :: _, hw => cases hw
  | anewarray idx =>
    obtain rfl := Nat.eq_of_beq_eq_true hlk
    rcases AS with _ | ⟨v, AS⟩
    · exact wk_no hp
    · match wd, hw with
      | [q1], hw => exact wk_nwq_ok C hbx hd hw hp hroom hcells hslots hr hS hs kk
      | [], hw => cases hw
      | _ :: _ :: _, hw => cases hw
  | multianewarray idx dm =>
    obtain rfl := Nat.eq_of_beq_eq_true hlk
    match dm, hd, hw, hp with
    | 2, hd, hw, hp =>
      rcases AS with _ | ⟨v, _ | ⟨w, AS⟩⟩
      · exact wk_no hp
      · exact wk_no hp
      · match wd, hw with
        | [q1, q2], hw => exact wk_mna_ok C hbx hd hw hp hroom hcells hslots hr hS hs kk
        | [], hw => cases hw
        | [_], hw => cases hw
        | _ :: _ :: _ :: _, hw => cases hw
    | 0, _, _, hp => exact wk_no hp
    | 1, _, _, hp => exact wk_no hp
    | _ + 3, _, _, hp => exact wk_no hp
  | _ => exact wk_no hp
theorem wk_hp_ok (C : wk_cx p s m args meth c cc y nL D A z Lz ρ) (hbx : wk_bx ρ iv) {i : Instr} {n : Nat} {wd : List Nat} {lv : List (Nat × Value)} (hd : decode cc pc = .ok (i, n)) (hlk : wk_lk i n = true) (hw : wk_okw mt y i x wd = true) (hp : wk_hp Lz iv i x AS AH = some r) (hl : lv_has ls nL lv) (hfr : 1 ≤ R.frames) (hlo : 100 ≤ R.locals) (hroom : wk_room AH r.2.2.2.1 AH.1 = true) (hcells : cells + r.2.2.2.2.1 ≤ R.cells) (hslots : slots + r.2.2.2.2.2 ≤ R.slots) (hr : wk_hr D A s as z ρ AH ws H) (hS : va_S A s.heap H locs) (hs : wk_f2 (wk_r as z ρ) AS st)
    (kk : wk_go3 p l e R s m args below meth c cells slots Q D A as z ρ pc ls AH ws r) : W p l e R s m args below meth c H locs cells slots Q (F0 m pc ls st) := by
  unfold wk_hp at hp
  cases hC : wk_isC i x AS with
  | true =>
    rw [hC] at hp
    simp only [if_true] at hp
    unfold wk_isC at hC
    split at hC
    · rename_i idx e5
      obtain rfl := Nat.eq_of_beq_eq_true hlk
      match wd, hw with
      | [q1, q2, q3, q4], hw => exact wk_copy_ok C hbx hd e5 hw hp hl hfr hlo hr hS hs kk
      | [q1], hw =>
        have hw : (match mt x.2.1 with
          | some M => (Nat.beq x.1 1 && wk_has q1 (.methodLink y.cls idx (wk_My M))) || (Nat.beq x.1 3 && wk_nst q1 (.methodLinkNest y.cls idx (wk_My M) "EvenSides"))
          | none => false) = true := hw
        rw [e5] at hw
        cases hm : mt x.2.1 with
        | none => rw [hm] at hw; cases hw
        | some M =>
          rw [hm] at hw
          rw [Bool.or_eq_true, Bool.and_eq_true, Bool.and_eq_true] at hw
          rcases hw with hw | hw
          · exact absurd hw.1 (by decide)
          · exact absurd hw.1 (by decide)
      | [], hw => cases hw
      | [_, _], hw => cases hw
      | [_, _, _], hw => cases hw
      | _ :: _ :: _ :: _ :: _ :: _, hw => cases hw
    · cases hC
  | false =>
    rw [hC] at hp
    simp only [Bool.false_eq_true, if_false] at hp
    unfold wk_or at hp
    cases ho : wk_oin i x AS with
    | some r0 =>
      rw [ho] at hp
      cases hp
      exact wk_oin_ok C hd hlk hw ho hl hfr hlo hr hS hs kk
    | none =>
      rw [ho] at hp
      simp only at hp
      cases hmm : wk_mth iv i x AS with
      | some r0 =>
        rw [hmm] at hp
        cases hp
        exact wk_mth_ok C hbx hd hlk hw hmm hl hfr hlo hcells hslots hr hS hs kk
      | none =>
        rw [hmm] at hp
        exact wk_heap_ok C hbx hd hlk hw hp hroom hcells hslots hr hS hs kk
end WKHP
