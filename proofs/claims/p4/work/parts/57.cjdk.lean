/-! ===== the JDK's members over the texts ===== -/
theorem ks_st {g : kc_G} {d : Nat} {M : wk_M} {Q : Option kc_V → kc_H → Prop} {pc : Nat} {L L' : kc_L} {S S' : List kc_V} {h : kc_H} {i : Instr} {n : Nat} {x : Nat × Nat × Int} {wd : List Nat} {t : Nat} {a : Int} (pc' : Nat) (hf : wk_fetch M pc = some (pc, i, n, x, wd, t, a)) (hp : kc_pure (wk_Ml M) i x.2.2 pc L S = some (pc', L', S')) (k : kc_Ev g d M Q pc' L' S' h) : kc_Ev g d M Q pc L S h := kc_pure_ok hf hp k
def ks_m0 : wk_M := (0, ⟨"java/lang/String", "coder", "()B"⟩, prog_13_method_152_code, 1, (some FieldType.byte), 0, 0, 0, [[(3, .ifCond .eq 10, 3, (0, 0, 0), [], 40, 0), (6, .aload_n 0, 1, (0, 0, 0), [], 40, 0), (10, .goto 4, 3, (0, 0, 0), [], 40, 0), (13, .iconst 1, 1, (0, 0, 0), [], 40, 0)]])
def ks_m1 : wk_M := (0, ⟨"java/lang/String", "isLatin1", "()Z"⟩, prog_13_method_154_code, 1, (some FieldType.boolean), 0, 0, 0, [[(3, .ifCond .eq 14, 3, (0, 0, 0), [], 40, 0), (6, .aload_n 0, 1, (0, 0, 0), [], 40, 0), (10, .ifCond .ne 7, 3, (0, 0, 0), [], 40, 0), (13, .iconst 1, 1, (0, 0, 0), [], 40, 0), (14, .goto 4, 3, (0, 0, 0), [], 40, 0)], [(17, .iconst 0, 1, (0, 0, 0), [], 40, 0), (18, .ireturn, 1, (0, 0, 0), [], 40, 0)]])
def ks_m2 : wk_M := (0, ⟨"java/lang/String", "length", "()I"⟩, prog_13_method_54_code, 1, (some FieldType.int), 0, 0, 0, [[(0, .aload_n 0, 1, (0, 0, 0), [], 40, 0), (5, .aload_n 0, 1, (0, 0, 0), [], 40, 0), (9, .ishr, 1, (0, 0, 0), [], 40, 0), (10, .ireturn, 1, (0, 0, 0), [], 40, 0)]])
def ks_m3 : wk_M := (0, ⟨"jdk/internal/util/Preconditions", "checkIndex", "(IILjava/util/function/BiFunction;)I"⟩, prog_18_method_11_code, 3, (some FieldType.int), 0, 0, 3, [[(0, .iload_n 0, 1, (0, 0, 0), [], 40, 0), (1, .ifCond .lt 8, 3, (0, 0, 0), [], 40, 0), (4, .iload_n 0, 1, (0, 0, 0), [], 40, 0), (5, .iload_n 1, 1, (0, 0, 0), [], 40, 0), (6, .if_icmp .lt 10, 3, (0, 0, 0), [], 40, 0)], [(16, .iload_n 0, 1, (0, 0, 0), [], 40, 0), (17, .ireturn, 1, (0, 0, 0), [], 40, 0)]])
def ks_m4 : wk_M := (0, ⟨"java/lang/String", "checkIndex", "(II)V"⟩, prog_13_method_155_code, 2, none, 0, 0, 2, [[(0, .iload_n 0, 1, (0, 0, 0), [], 40, 0), (1, .iload_n 1, 1, (0, 0, 0), [], 40, 0), (8, .pop, 1, (0, 0, 0), [], 40, 0), (9, .return_, 1, (0, 0, 0), [], 40, 0)]])
def ks_m5 : wk_M := (0, ⟨"java/lang/StringLatin1", "charAt", "([BI)C"⟩, prog_14_method_2_code, 2, (some FieldType.char), 0, 0, 2, [[(0, .iload_n 1, 1, (0, 0, 0), [], 40, 0), (1, .aload_n 0, 1, (0, 0, 0), [], 40, 0), (6, .aload_n 0, 1, (0, 0, 0), [], 40, 0), (7, .iload_n 1, 1, (0, 0, 0), [], 40, 0), (9, .sipush 255, 3, (0, 0, 0), [], 40, 0), (12, .iand, 1, (0, 0, 0), [], 40, 0)]])
def ks_m6 : wk_M := (0, ⟨"java/lang/String", "charAt", "(I)C"⟩, prog_13_method_56_code, 2, (some FieldType.char), 0, 0, 1, [[(0, .aload_n 0, 1, (0, 0, 0), [], 40, 0), (4, .ifCond .eq 12, 3, (0, 0, 0), [], 40, 0), (7, .aload_n 0, 1, (0, 0, 0), [], 40, 0), (11, .iload_n 1, 1, (0, 0, 0), [], 40, 0)]])
theorem ks_o0 : ks_ok ks_m0 710 124 = true := by decide +kernel
theorem ks_o1 : ks_ok ks_m1 720 124 = true := by decide +kernel
theorem ks_o2 : ks_ok ks_m2 706 124 = true := by decide +kernel
theorem ks_o3 : ks_ok ks_m3 731 126 = true := by decide +kernel
theorem ks_o4 : ks_ok ks_m4 726 124 = true := by decide +kernel
theorem ks_o5 : ks_ok ks_m5 723 125 = true := by decide +kernel
theorem ks_o6 : ks_ok ks_m6 716 124 = true := by decide +kernel
/-- returns an int, and leaves the heap alone -/
def ks_R (v : Int32) (h : kc_H) : Option kc_V → kc_H → Prop := fun rv h' => rv = some (.inl v) ∧ h' = h
section KSJ
variable {g : kc_G} {d : Nat} {h : kc_H}
theorem ks_c0 (hg : kc_ok g) {i : Nat} (hi : i < 24) : ks_Con g d ks_m0 [ks_s i] h (ks_R 0 h) := by
  refine ks_new hg ks_o0 rfl rfl (show 1 ≤ 1 by decide) ?_
  refine ks_getcs (idx := 38) (q := 711) (by decide +kernel) (by decide +kernel) ?_
  refine ks_st 6 rfl rfl ?_
  refine ks_st 7 rfl rfl ?_
  refine ks_getc (i := i) (idx := 15) (q := 1912) hi (by decide +kernel) (by decide +kernel) ?_
  refine ks_st 14 rfl rfl ?_
  exact ks_retn (v := 0) rfl rfl (by decide +kernel) ⟨rfl, rfl⟩
theorem ks_c1 (hg : kc_ok g) {i : Nat} (hi : i < 24) : ks_Con g d ks_m1 [ks_s i] h (ks_R 1 h) := by
  refine ks_new hg ks_o1 rfl rfl (show 1 ≤ 1 by decide) ?_
  refine ks_getcs (idx := 38) (q := 711) (by decide +kernel) (by decide +kernel) ?_
  refine ks_st 6 rfl rfl ?_
  refine ks_st 7 rfl rfl ?_
  refine ks_getc (i := i) (idx := 15) (q := 1912) hi (by decide +kernel) (by decide +kernel) ?_
  refine ks_st 13 rfl rfl ?_
  refine ks_st 14 rfl rfl ?_
  refine ks_st 18 rfl rfl ?_
  exact kc_ret_ok rfl (rv := some (.inl (Int32.ofInt 1))) rfl ⟨rfl, rfl⟩
theorem ks_sh : ∀ i, i < 24 → Int32.ofNat (ks_L i) >>> ((0 : Int32) &&& 31) = Int32.ofNat (ks_L i) := by decide +kernel
/-- length() -/
theorem ks_c2 (hg : kc_ok g) {i : Nat} (hi : i < 24) : ks_Con g (d + 1) ks_m2 [ks_s i] h (ks_R (Int32.ofNat (ks_L i)) h) := by
  refine ks_new hg ks_o2 rfl rfl (show 1 ≤ 1 by decide) ?_
  refine ks_st 1 rfl rfl ?_
  refine ks_getv (i := i) (idx := 9) (q := 1911) hi (by decide +kernel) (by decide +kernel) ?_
  refine ks_len (i := i) hi (by decide +kernel) ?_
  refine ks_st 6 rfl rfl ?_
  refine ks_callV (M2 := ks_m0) (i := i) (idx := 335) (q1 := 707) (q2 := 708) (q3 := 709) (av := []) (r := [.inl (Int32.ofNat (ks_L i))]) hi (by decide +kernel) rfl (by decide +kernel) (by decide +kernel) (by decide +kernel) ks_o0 rfl rfl rfl (show 1 ≤ 8 by decide) (ks_c0 hg hi) (fun rv h' hq => ?_)
  obtain ⟨rfl, rfl⟩ := hq
  refine ks_st 10 rfl rfl ?_
  exact kc_ret_ok rfl (rv := some (.inl (Int32.ofNat (ks_L i) >>> ((0 : Int32) &&& 31)))) rfl ⟨by rw [ks_sh i hi], rfl⟩
theorem ks_c3 (hg : kc_ok g) {w : kc_V} (hw : w = ks_f ∨ w = .inr (.inr (.inl none))) {j n : Int32} (h1 : ¬ kc_cnd .lt j.toInt 0 = true) (h2 : kc_cnd .lt j.toInt n.toInt = true) : ks_Con g d ks_m3 [.inl j, .inl n, w] h (ks_R j h) := by
  refine ks_new hg ks_o3 rfl rfl (by rcases hw with rfl | rfl <;> exact (show 3 ≤ 3 by decide)) ?_
  have hwd : kc_args 0 [.inl j, .inl n, w] = [(0, .inl j), (1, .inl n), (2, w)] := rfl
  rw [hwd]
  refine ks_st 1 rfl rfl ?_
  refine ks_st (if kc_cnd .lt j.toInt 0 then 9 else 4) rfl rfl ?_
  rw [if_neg h1]
  refine ks_st 5 rfl rfl ?_
  refine ks_st 6 rfl rfl ?_
  refine ks_st (if kc_cnd .lt j.toInt n.toInt then 16 else 9) rfl rfl ?_
  rw [if_pos h2]
  refine ks_st 17 rfl rfl ?_
  exact kc_ret_ok rfl (rv := some (.inl j)) rfl ⟨rfl, rfl⟩
theorem ks_c4 (hg : kc_ok g) {j n : Int32} (h1 : ¬ kc_cnd .lt j.toInt 0 = true) (h2 : kc_cnd .lt j.toInt n.toInt = true) : ks_Con g (d + 1) ks_m4 [.inl j, .inl n] h (fun rv h' => rv = none ∧ h' = h) := by
  refine ks_new hg ks_o4 rfl rfl (show 2 ≤ 2 by decide) ?_
  refine ks_st 1 rfl rfl ?_
  refine ks_st 2 rfl rfl ?_
  refine ks_getfm (idx := 1053) (q := 727) (by decide +kernel) (by decide +kernel) (fun w hw => ?_)
  refine ks_callS (M2 := ks_m3) (idx := 1059) (q1 := 729) (q2 := 730) (av := [.inl j, .inl n, w]) (r := []) (by decide +kernel) (by decide +kernel) (by decide +kernel) ks_o3 rfl rfl rfl (show 0 ≤ 8 by decide) (ks_c3 hg hw h1 h2) (fun rv h' hq => ?_)
  obtain ⟨rfl, rfl⟩ := hq
  refine ks_st 9 rfl rfl ?_
  exact kc_ret_ok rfl (rv := none) rfl ⟨rfl, rfl⟩
theorem ks_in : ∀ i, i < 24 → ∀ k, k < ks_L i → ¬ (Int32.ofNat k < 0 ∨ ks_L i ≤ (Int32.ofNat k).toNatClampNeg) ∧ kc_cnd .lt (Int32.ofNat k).toInt 0 = false ∧ kc_cnd .lt (Int32.ofNat k).toInt (Int32.ofNat (ks_L i)).toInt = true ∧ (((ks_c i (Int32.ofNat k).toNatClampNeg &&& (Int16.ofInt 255).toInt32).toUInt32 % 65536).toInt32 = ks_c i k) ∧ (ks_c i k).toUInt32.toUInt16.toUInt32.toInt32 = ks_c i k := by decide +kernel
theorem ks_c5 (hg : kc_ok g) {i k : Nat} (hi : i < 24) (hk : k < ks_L i) : ks_Con g (d + 2) ks_m5 [ks_b i, .inl (Int32.ofNat k)] h (ks_R (ks_c i k) h) := by
  obtain ⟨a1, a2, a3, a4, a5⟩ := ks_in i hi k hk
  refine ks_new hg ks_o5 rfl rfl (show 2 ≤ 2 by decide) ?_
  refine ks_st 1 rfl rfl ?_
  refine ks_st 2 rfl rfl ?_
  refine ks_len (i := i) hi (by decide +kernel) ?_
  refine ks_callS (M2 := ks_m4) (idx := 9) (q1 := 724) (q2 := 725) (av := [.inl (Int32.ofNat k), .inl (Int32.ofNat (ks_L i))]) (r := []) (by decide +kernel) (by decide +kernel) (by decide +kernel) ks_o4 rfl rfl rfl (show 0 ≤ 8 by decide) (ks_c4 hg (by rw [a2]; decide) a3) (fun rv h' hq => ?_)
  obtain ⟨rfl, rfl⟩ := hq
  refine ks_st 7 rfl rfl ?_
  refine ks_st 8 rfl rfl ?_
  refine ks_bal (i := i) (j := Int32.ofNat k) hi a1 (by decide +kernel) ?_
  refine ks_st 12 rfl rfl ?_
  refine ks_st 13 rfl rfl ?_
  refine ks_i2c a4 (by decide +kernel) ?_
  exact ks_retn (v := ks_c i k) rfl (by show Value.int _ = Value.int _; rw [a5]) (by decide +kernel) ⟨rfl, rfl⟩
/-- charAt(k) -/
theorem ks_c6 (hg : kc_ok g) {i k : Nat} (hi : i < 24) (hk : k < ks_L i) : ks_Con g (d + 3) ks_m6 [ks_s i, .inl (Int32.ofNat k)] h (ks_R (ks_c i k) h) := by
  obtain ⟨a1, a2, a3, a4, a5⟩ := ks_in i hi k hk
  refine ks_new hg ks_o6 rfl rfl (show 2 ≤ 2 by decide) ?_
  refine ks_st 1 rfl rfl ?_
  refine ks_callV (M2 := ks_m1) (i := i) (idx := 492) (q1 := 717) (q2 := 718) (q3 := 719) (av := []) (r := []) hi (by decide +kernel) rfl (by decide +kernel) (by decide +kernel) (by decide +kernel) ks_o1 rfl rfl rfl (show 0 ≤ 8 by decide) (ks_c1 hg hi) (fun rv h' hq => ?_)
  obtain ⟨rfl, rfl⟩ := hq
  refine ks_st 7 rfl rfl ?_
  refine ks_st 8 rfl rfl ?_
  refine ks_getv (i := i) (idx := 9) (q := 1911) hi (by decide +kernel) (by decide +kernel) ?_
  refine ks_st 12 rfl rfl ?_
  refine ks_callS (M2 := ks_m5) (idx := 495) (q1 := 721) (q2 := 722) (av := [ks_b i, .inl (Int32.ofNat k)]) (r := []) (by decide +kernel) (by decide +kernel) (by decide +kernel) ks_o5 rfl rfl rfl (show 0 ≤ 8 by decide) (ks_c5 hg hi hk) (fun rv h' hq => ?_)
  obtain ⟨rfl, rfl⟩ := hq
  exact ks_retn (v := ks_c i k) rfl (by show Value.int _ = Value.int _; rw [a5]) (by decide +kernel) ⟨rfl, rfl⟩
/-! as steps -/
variable {M : wk_M} {Q : Option kc_V → kc_H → Prop} {pc : Nat} {AL : kc_L} {r : List kc_V}
theorem ks_length (hg : kc_ok g) {i : Nat} (hi : i < 24) (hM : (wk_My M).cls = "EvenSides$Reader") (hd : decode (wk_Mb M) pc = .ok (.invokevirtual 64, 3)) (hcat : wk_cat (r.map kc_e) ≤ 8) (k : kc_Ev g (d + 2) M Q (pc + 3) AL (.inl (Int32.ofNat (ks_L i)) :: r) h) : kc_Ev g (d + 2) M Q pc AL (ks_s i :: r) h := by
  refine ks_callV (M2 := ks_m2) (i := i) (idx := 64) (q1 := 703) (q2 := 704) (q3 := 705) (av := []) (r := r) hi hd rfl (by rw [hM]; decide +kernel) (by decide +kernel) (by decide +kernel) ks_o2 rfl rfl rfl hcat (ks_c2 hg hi) (fun rv h' hq => ?_)
  obtain ⟨rfl, rfl⟩ := hq
  exact k
theorem ks_charAt (hg : kc_ok g) {i j : Nat} (hi : i < 24) (hj : j < ks_L i) (hM : (wk_My M).cls = "EvenSides$Reader") (hd : decode (wk_Mb M) pc = .ok (.invokevirtual 69, 3)) (hcat : wk_cat (r.map kc_e) ≤ 8) (k : kc_Ev g (d + 4) M Q (pc + 3) AL (.inl (ks_c i j) :: r) h) : kc_Ev g (d + 4) M Q pc AL (.inl (Int32.ofNat j) :: ks_s i :: r) h := by
  refine ks_callV (M2 := ks_m6) (i := i) (idx := 69) (q1 := 713) (q2 := 714) (q3 := 715) (av := [.inl (Int32.ofNat j)]) (r := r) hi hd rfl (by rw [hM]; decide +kernel) (by decide +kernel) (by decide +kernel) ks_o6 rfl rfl rfl hcat (ks_c6 hg hi hj) (fun rv h' hq => ?_)
  obtain ⟨rfl, rfl⟩ := hq
  exact k
end KSJ
