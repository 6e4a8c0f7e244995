section
-- 01.tables
-- ===== PART A: goes FIRST, ahead of the names: the tables' words, and 'selects' of the private methods out of them =====
/-- a private method of a class that the tables say can be made, by its rows of tables_1 -/
def lw_okq (q : MethodName × Nat) : Prop := (q.1.cls ≠ "java/lang/invoke/MethodHandle" ∧ q.1.cls ≠ "java/lang/invoke/VarHandle") ∧ Cond.instantiable q.1.cls q.2 ∈ tables_1 ∧ Cond.privateMethod q.1 ∈ tables_1 ∧ Cond.instanceMethod q.1 ∈ tables_1
theorem lw_t1 {w : Cond} {k : Nat} (h : tables_1_1[k]? = some w) : w ∈ tables_1 := List.mem_append_left _ (List.mem_of_getElem? h)
theorem lw_t2 {w : Cond} {k : Nat} (h : tables_1_2[k]? = some w) : w ∈ tables_1 := List.mem_append_right _ (List.mem_append_left _ (List.mem_of_getElem? h))
theorem lw_t3 {w : Cond} {k : Nat} (h : tables_1_3[k]? = some w) : w ∈ tables_1 := List.mem_append_right _ (List.mem_append_right _ (List.mem_append_left _ (List.mem_of_getElem? h)))
theorem lw_t4 {w : Cond} {k : Nat} (h : tables_1_4[k]? = some w) : w ∈ tables_1 := List.mem_append_right _ (List.mem_append_right _ (List.mem_append_right _ (List.mem_append_left _ (List.mem_of_getElem? h))))
theorem lw_t5 {w : Cond} {k : Nat} (h : tables_1_5[k]? = some w) : w ∈ tables_1 := List.mem_append_right _ (List.mem_append_right _ (List.mem_append_right _ (List.mem_append_right _ (List.mem_append_left _ (List.mem_of_getElem? h)))))
theorem lw_t6 {w : Cond} {k : Nat} (h : tables_1_6[k]? = some w) : w ∈ tables_1 := List.mem_append_right _ (List.mem_append_right _ (List.mem_append_right _ (List.mem_append_right _ (List.mem_append_right _ (List.mem_append_left _ (List.mem_of_getElem? h))))))
theorem lw_t7 {w : Cond} {k : Nat} (h : tables_1_7[k]? = some w) : w ∈ tables_1 := List.mem_append_right _ (List.mem_append_right _ (List.mem_append_right _ (List.mem_append_right _ (List.mem_append_right _ (List.mem_append_right _ (List.mem_append_left _ (List.mem_of_getElem? h)))))))
theorem lw_t8 {w : Cond} {k : Nat} (h : tables_1_8[k]? = some w) : w ∈ tables_1 := List.mem_append_right _ (List.mem_append_right _ (List.mem_append_right _ (List.mem_append_right _ (List.mem_append_right _ (List.mem_append_right _ (List.mem_append_right _ (List.mem_of_getElem? h)))))))
theorem lw_p0 : lw_okq (⟨"EvenSides$Reader", "step", "()V"⟩, 9) := ⟨⟨by decide +kernel, by decide +kernel⟩, lw_t1 (k := 118) rfl, lw_t3 (k := 70) rfl, lw_t3 (k := 71) rfl⟩
theorem lw_p1 : lw_okq (⟨"EvenSides$Reader", "readItem", "(I)I"⟩, 9) := ⟨⟨by decide +kernel, by decide +kernel⟩, lw_t1 (k := 118) rfl, lw_t3 (k := 81) rfl, lw_t3 (k := 82) rfl⟩
theorem lw_p2 : lw_okq (⟨"EvenSides$Reader", "verbHere", "(I)I"⟩, 9) := ⟨⟨by decide +kernel, by decide +kernel⟩, lw_t1 (k := 118) rfl, lw_t3 (k := 85) rfl, lw_t3 (k := 86) rfl⟩
theorem lw_p3 : lw_okq (⟨"EvenSides$Reader", "isHere", "(Ljava/lang/String;)Z"⟩, 9) := ⟨⟨by decide +kernel, by decide +kernel⟩, lw_t1 (k := 118) rfl, lw_t3 (k := 108) rfl, lw_t3 (k := 109) rfl⟩
theorem lw_p4 : lw_okq (⟨"EvenSides$Reader", "hardHere", "()I"⟩, 9) := ⟨⟨by decide +kernel, by decide +kernel⟩, lw_t1 (k := 118) rfl, lw_t3 (k := 169) rfl, lw_t3 (k := 170) rfl⟩
theorem lw_p5 : lw_okq (⟨"EvenSides$Reader", "numberHere", "()I"⟩, 9) := ⟨⟨by decide +kernel, by decide +kernel⟩, lw_t1 (k := 118) rfl, lw_t3 (k := 175) rfl, lw_t3 (k := 176) rfl⟩
theorem lw_p6 : lw_okq (⟨"EvenSides$Acts", "begin", "()V"⟩, 15) := ⟨⟨by decide +kernel, by decide +kernel⟩, lw_t1 (k := 160) rfl, lw_t3 (k := 222) rfl, lw_t3 (k := 223) rfl⟩
theorem lw_p7 : lw_okq (⟨"EvenSides$Acts", "weighLoads", "()V"⟩, 15) := ⟨⟨by decide +kernel, by decide +kernel⟩, lw_t1 (k := 160) rfl, lw_t3 (k := 226) rfl, lw_t3 (k := 227) rfl⟩
theorem lw_p8 : lw_okq (⟨"EvenSides$Acts", "act", "(I[I)I"⟩, 15) := ⟨⟨by decide +kernel, by decide +kernel⟩, lw_t1 (k := 160) rfl, lw_t3 (k := 239) rfl, lw_t4 (k := 0) rfl⟩
theorem lw_p9 : lw_okq (⟨"EvenSides$Acts", "hangUp", "(III)I"⟩, 15) := ⟨⟨by decide +kernel, by decide +kernel⟩, lw_t1 (k := 160) rfl, lw_t4 (k := 3) rfl, lw_t4 (k := 4) rfl⟩
theorem lw_p10 : lw_okq (⟨"EvenSides$Acts", "wrongOn", "(IIZ)I"⟩, 15) := ⟨⟨by decide +kernel, by decide +kernel⟩, lw_t1 (k := 160) rfl, lw_t4 (k := 9) rfl, lw_t4 (k := 10) rfl⟩
theorem lw_p11 : lw_okq (⟨"EvenSides$Acts", "tooHeavy", "(IIZ)Z"⟩, 15) := ⟨⟨by decide +kernel, by decide +kernel⟩, lw_t1 (k := 160) rfl, lw_t4 (k := 21) rfl, lw_t4 (k := 22) rfl⟩
theorem lw_p12 : lw_okq (⟨"EvenSides$Acts", "lieOn", "(II)V"⟩, 15) := ⟨⟨by decide +kernel, by decide +kernel⟩, lw_t1 (k := 160) rfl, lw_t4 (k := 29) rfl, lw_t4 (k := 30) rfl⟩
theorem lw_p13 : lw_okq (⟨"EvenSides$Acts", "takeOff", "(II)I"⟩, 15) := ⟨⟨by decide +kernel, by decide +kernel⟩, lw_t1 (k := 160) rfl, lw_t4 (k := 33) rfl, lw_t4 (k := 34) rfl⟩
theorem lw_p14 : lw_okq (⟨"EvenSides$Acts", "shift", "(IIII)I"⟩, 15) := ⟨⟨by decide +kernel, by decide +kernel⟩, lw_t1 (k := 160) rfl, lw_t4 (k := 37) rfl, lw_t4 (k := 38) rfl⟩
theorem lw_p15 : lw_okq (⟨"EvenSides$Acts", "stoneOn", "(II)I"⟩, 15) := ⟨⟨by decide +kernel, by decide +kernel⟩, lw_t1 (k := 160) rfl, lw_t4 (k := 41) rfl, lw_t4 (k := 42) rfl⟩
def lw_privs_1 : List (MethodName × Nat) := [(⟨"EvenSides$Reader", "step", "()V"⟩, 9), (⟨"EvenSides$Reader", "readItem", "(I)I"⟩, 9), (⟨"EvenSides$Reader", "verbHere", "(I)I"⟩, 9), (⟨"EvenSides$Reader", "isHere", "(Ljava/lang/String;)Z"⟩, 9), (⟨"EvenSides$Reader", "hardHere", "()I"⟩, 9), (⟨"EvenSides$Reader", "numberHere", "()I"⟩, 9), (⟨"EvenSides$Acts", "begin", "()V"⟩, 15), (⟨"EvenSides$Acts", "weighLoads", "()V"⟩, 15), (⟨"EvenSides$Acts", "act", "(I[I)I"⟩, 15), (⟨"EvenSides$Acts", "hangUp", "(III)I"⟩, 15), (⟨"EvenSides$Acts", "wrongOn", "(IIZ)I"⟩, 15), (⟨"EvenSides$Acts", "tooHeavy", "(IIZ)Z"⟩, 15), (⟨"EvenSides$Acts", "lieOn", "(II)V"⟩, 15), (⟨"EvenSides$Acts", "takeOff", "(II)I"⟩, 15), (⟨"EvenSides$Acts", "shift", "(IIII)I"⟩, 15), (⟨"EvenSides$Acts", "stoneOn", "(II)I"⟩, 15)]
theorem lw_r1 : ∀ q ∈ lw_privs_1, lw_okq q := List.forall_mem_cons.mpr ⟨lw_p0, List.forall_mem_cons.mpr ⟨lw_p1, List.forall_mem_cons.mpr ⟨lw_p2, List.forall_mem_cons.mpr ⟨lw_p3, List.forall_mem_cons.mpr ⟨lw_p4, List.forall_mem_cons.mpr ⟨lw_p5, List.forall_mem_cons.mpr ⟨lw_p6, List.forall_mem_cons.mpr ⟨lw_p7, List.forall_mem_cons.mpr ⟨lw_p8, List.forall_mem_cons.mpr ⟨lw_p9, List.forall_mem_cons.mpr ⟨lw_p10, List.forall_mem_cons.mpr ⟨lw_p11, List.forall_mem_cons.mpr ⟨lw_p12, List.forall_mem_cons.mpr ⟨lw_p13, List.forall_mem_cons.mpr ⟨lw_p14, List.forall_mem_cons.mpr ⟨lw_p15, fun _ h => absurd h List.not_mem_nil⟩⟩⟩⟩⟩⟩⟩⟩⟩⟩⟩⟩⟩⟩⟩⟩
theorem lw_p16 : lw_okq (⟨"EvenSides$Acts", "stoneOff", "(II)I"⟩, 15) := ⟨⟨by decide +kernel, by decide +kernel⟩, lw_t1 (k := 160) rfl, lw_t4 (k := 45) rfl, lw_t4 (k := 46) rfl⟩
theorem lw_p17 : lw_okq (⟨"EvenSides$Acts", "goTo", "(I)I"⟩, 15) := ⟨⟨by decide +kernel, by decide +kernel⟩, lw_t1 (k := 160) rfl, lw_t4 (k := 49) rfl, lw_t4 (k := 50) rfl⟩
theorem lw_p18 : lw_okq (⟨"EvenSides$Acts", "softLowest", "()Z"⟩, 15) := ⟨⟨by decide +kernel, by decide +kernel⟩, lw_t1 (k := 160) rfl, lw_t4 (k := 54) rfl, lw_t4 (k := 55) rfl⟩
theorem lw_p19 : lw_okq (⟨"EvenSides$Acts", "soreByMile", "()Z"⟩, 15) := ⟨⟨by decide +kernel, by decide +kernel⟩, lw_t1 (k := 160) rfl, lw_t4 (k := 58) rfl, lw_t4 (k := 59) rfl⟩
theorem lw_p20 : lw_okq (⟨"EvenSides", "weighTold", "()Z"⟩, 13) := ⟨⟨by decide +kernel, by decide +kernel⟩, lw_t1 (k := 19) rfl, lw_t4 (k := 132) rfl, lw_t4 (k := 133) rfl⟩
theorem lw_p21 : lw_okq (⟨"EvenSides$Legs", "findStops", "(I)V"⟩, 8) := ⟨⟨by decide +kernel, by decide +kernel⟩, lw_t1 (k := 221) rfl, lw_t4 (k := 142) rfl, lw_t4 (k := 143) rfl⟩
theorem lw_p22 : lw_okq (⟨"EvenSides$Scales", "empty", "()V"⟩, 14) := ⟨⟨by decide +kernel, by decide +kernel⟩, lw_t2 (k := 21) rfl, lw_t4 (k := 151) rfl, lw_t4 (k := 152) rfl⟩
theorem lw_p23 : lw_okq (⟨"EvenSides$Scales", "bring", "(IIII)V"⟩, 14) := ⟨⟨by decide +kernel, by decide +kernel⟩, lw_t2 (k := 21) rfl, lw_t4 (k := 164) rfl, lw_t4 (k := 165) rfl⟩
theorem lw_p24 : lw_okq (⟨"EvenSides$Scales", "isBorneWith", "(I)Z"⟩, 14) := ⟨⟨by decide +kernel, by decide +kernel⟩, lw_t2 (k := 21) rfl, lw_t4 (k := 168) rfl, lw_t4 (k := 169) rfl⟩
theorem lw_p25 : lw_okq (⟨"EvenSides$Scales", "more", "(II)I"⟩, 14) := ⟨⟨by decide +kernel, by decide +kernel⟩, lw_t2 (k := 21) rfl, lw_t4 (k := 180) rfl, lw_t4 (k := 181) rfl⟩
theorem lw_p26 : lw_okq (⟨"EvenSides$Scales", "beginSeeking", "()V"⟩, 14) := ⟨⟨by decide +kernel, by decide +kernel⟩, lw_t2 (k := 21) rfl, lw_t4 (k := 206) rfl, lw_t4 (k := 207) rfl⟩
theorem lw_p27 : lw_okq (⟨"EvenSides$Scales", "judge", "()V"⟩, 14) := ⟨⟨by decide +kernel, by decide +kernel⟩, lw_t2 (k := 21) rfl, lw_t4 (k := 213) rfl, lw_t4 (k := 214) rfl⟩
theorem lw_p28 : lw_okq (⟨"EvenSides$Scales", "isEven", "(I)Z"⟩, 14) := ⟨⟨by decide +kernel, by decide +kernel⟩, lw_t2 (k := 21) rfl, lw_t4 (k := 224) rfl, lw_t4 (k := 225) rfl⟩
theorem lw_p29 : lw_okq (⟨"EvenSides$Scales", "repeats", "(I)Z"⟩, 14) := ⟨⟨by decide +kernel, by decide +kernel⟩, lw_t2 (k := 21) rfl, lw_t4 (k := 230) rfl, lw_t4 (k := 231) rfl⟩
theorem lw_p30 : lw_okq (⟨"EvenSides$Scales", "mayDoBetter", "(I)Z"⟩, 14) := ⟨⟨by decide +kernel, by decide +kernel⟩, lw_t2 (k := 21) rfl, lw_t4 (k := 237) rfl, lw_t4 (k := 238) rfl⟩
theorem lw_p31 : lw_okq (⟨"EvenSides$Routes", "beginOrders", "()V"⟩, 7) := ⟨⟨by decide +kernel, by decide +kernel⟩, lw_t2 (k := 75) rfl, lw_t5 (k := 10) rfl, lw_t5 (k := 11) rfl⟩
def lw_privs_2 : List (MethodName × Nat) := [(⟨"EvenSides$Acts", "stoneOff", "(II)I"⟩, 15), (⟨"EvenSides$Acts", "goTo", "(I)I"⟩, 15), (⟨"EvenSides$Acts", "softLowest", "()Z"⟩, 15), (⟨"EvenSides$Acts", "soreByMile", "()Z"⟩, 15), (⟨"EvenSides", "weighTold", "()Z"⟩, 13), (⟨"EvenSides$Legs", "findStops", "(I)V"⟩, 8), (⟨"EvenSides$Scales", "empty", "()V"⟩, 14), (⟨"EvenSides$Scales", "bring", "(IIII)V"⟩, 14), (⟨"EvenSides$Scales", "isBorneWith", "(I)Z"⟩, 14), (⟨"EvenSides$Scales", "more", "(II)I"⟩, 14), (⟨"EvenSides$Scales", "beginSeeking", "()V"⟩, 14), (⟨"EvenSides$Scales", "judge", "()V"⟩, 14), (⟨"EvenSides$Scales", "isEven", "(I)Z"⟩, 14), (⟨"EvenSides$Scales", "repeats", "(I)Z"⟩, 14), (⟨"EvenSides$Scales", "mayDoBetter", "(I)Z"⟩, 14), (⟨"EvenSides$Routes", "beginOrders", "()V"⟩, 7)]
theorem lw_r2 : ∀ q ∈ lw_privs_2, lw_okq q := List.forall_mem_cons.mpr ⟨lw_p16, List.forall_mem_cons.mpr ⟨lw_p17, List.forall_mem_cons.mpr ⟨lw_p18, List.forall_mem_cons.mpr ⟨lw_p19, List.forall_mem_cons.mpr ⟨lw_p20, List.forall_mem_cons.mpr ⟨lw_p21, List.forall_mem_cons.mpr ⟨lw_p22, List.forall_mem_cons.mpr ⟨lw_p23, List.forall_mem_cons.mpr ⟨lw_p24, List.forall_mem_cons.mpr ⟨lw_p25, List.forall_mem_cons.mpr ⟨lw_p26, List.forall_mem_cons.mpr ⟨lw_p27, List.forall_mem_cons.mpr ⟨lw_p28, List.forall_mem_cons.mpr ⟨lw_p29, List.forall_mem_cons.mpr ⟨lw_p30, List.forall_mem_cons.mpr ⟨lw_p31, fun _ h => absurd h List.not_mem_nil⟩⟩⟩⟩⟩⟩⟩⟩⟩⟩⟩⟩⟩⟩⟩⟩
theorem lw_p32 : lw_okq (⟨"EvenSides$Routes", "nextOrder", "()Z"⟩, 7) := ⟨⟨by decide +kernel, by decide +kernel⟩, lw_t2 (k := 75) rfl, lw_t5 (k := 18) rfl, lw_t5 (k := 19) rfl⟩
theorem lw_p33 : lw_okq (⟨"EvenSides$Routes", "exchange", "(II)V"⟩, 7) := ⟨⟨by decide +kernel, by decide +kernel⟩, lw_t2 (k := 75) rfl, lw_t5 (k := 22) rfl, lw_t5 (k := 23) rfl⟩
theorem lw_p34 : lw_okq (⟨"EvenSides$Layers", "findEvents", "(I)V"⟩, 4) := ⟨⟨by decide +kernel, by decide +kernel⟩, lw_t2 (k := 106) rfl, lw_t5 (k := 34) rfl, lw_t5 (k := 35) rfl⟩
theorem lw_p35 : lw_okq (⟨"EvenSides$Layers", "addEvents", "(I[III)V"⟩, 4) := ⟨⟨by decide +kernel, by decide +kernel⟩, lw_t2 (k := 106) rfl, lw_t5 (k := 38) rfl, lw_t5 (k := 39) rfl⟩
theorem lw_p36 : lw_okq (⟨"EvenSides$Layers", "mayLie", "(IIII)Z"⟩, 4) := ⟨⟨by decide +kernel, by decide +kernel⟩, lw_t2 (k := 106) rfl, lw_t5 (k := 55) rfl, lw_t5 (k := 56) rfl⟩
theorem lw_p37 : lw_okq (⟨"EvenSides$Scales", "fewestTo", "(I)I"⟩, 14) := ⟨⟨by decide +kernel, by decide +kernel⟩, lw_t2 (k := 21) rfl, lw_t5 (k := 73) rfl, lw_t5 (k := 74) rfl⟩
theorem lw_p38 : lw_okq (⟨"EvenSides$Legs", "isUnsure", "(I)Z"⟩, 8) := ⟨⟨by decide +kernel, by decide +kernel⟩, lw_t1 (k := 221) rfl, lw_t5 (k := 86) rfl, lw_t5 (k := 87) rfl⟩
theorem lw_p39 : lw_okq (⟨"EvenSides", "setFraction", "(JJ)V"⟩, 13) := ⟨⟨by decide +kernel, by decide +kernel⟩, lw_t1 (k := 19) rfl, lw_t5 (k := 98) rfl, lw_t5 (k := 99) rfl⟩
theorem lw_p40 : lw_okq (⟨"EvenSides$Alone", "gather", "(I)Z"⟩, 6) := ⟨⟨by decide +kernel, by decide +kernel⟩, lw_t2 (k := 125) rfl, lw_t5 (k := 123) rfl, lw_t5 (k := 124) rfl⟩
theorem lw_p41 : lw_okq (⟨"EvenSides$Alone", "mayFollow", "(II)Z"⟩, 6) := ⟨⟨by decide +kernel, by decide +kernel⟩, lw_t2 (k := 125) rfl, lw_t5 (k := 128) rfl, lw_t5 (k := 129) rfl⟩
theorem lw_p42 : lw_okq (⟨"EvenSides$Alone", "nextInFirst", "(I)I"⟩, 6) := ⟨⟨by decide +kernel, by decide +kernel⟩, lw_t2 (k := 125) rfl, lw_t5 (k := 137) rfl, lw_t5 (k := 138) rfl⟩
theorem lw_p43 : lw_okq (⟨"EvenSidesModel", "begins", "()V"⟩, 49) := ⟨⟨by decide +kernel, by decide +kernel⟩, lw_t5 (k := 185) rfl, lw_t5 (k := 191) rfl, lw_t5 (k := 192) rfl⟩
theorem lw_p44 : lw_okq (⟨"EvenSidesModel", "isPlace", "(I)Z"⟩, 49) := ⟨⟨by decide +kernel, by decide +kernel⟩, lw_t5 (k := 185) rfl, lw_t6 (k := 111) rfl, lw_t6 (k := 112) rfl⟩
theorem lw_p45 : lw_okq (⟨"EvenSidesModel", "sets", "(IJ)I"⟩, 49) := ⟨⟨by decide +kernel, by decide +kernel⟩, lw_t5 (k := 185) rfl, lw_t6 (k := 119) rfl, lw_t6 (k := 120) rfl⟩
theorem lw_p46 : lw_okq (⟨"EvenSidesModel", "isDoor", "(I)Z"⟩, 49) := ⟨⟨by decide +kernel, by decide +kernel⟩, lw_t5 (k := 185) rfl, lw_t6 (k := 127) rfl, lw_t6 (k := 128) rfl⟩
theorem lw_p47 : lw_okq (⟨"EvenSidesModel", "isMule", "(I)Z"⟩, 49) := ⟨⟨by decide +kernel, by decide +kernel⟩, lw_t5 (k := 185) rfl, lw_t6 (k := 145) rfl, lw_t6 (k := 146) rfl⟩
def lw_privs_3 : List (MethodName × Nat) := [(⟨"EvenSides$Routes", "nextOrder", "()Z"⟩, 7), (⟨"EvenSides$Routes", "exchange", "(II)V"⟩, 7), (⟨"EvenSides$Layers", "findEvents", "(I)V"⟩, 4), (⟨"EvenSides$Layers", "addEvents", "(I[III)V"⟩, 4), (⟨"EvenSides$Layers", "mayLie", "(IIII)Z"⟩, 4), (⟨"EvenSides$Scales", "fewestTo", "(I)I"⟩, 14), (⟨"EvenSides$Legs", "isUnsure", "(I)Z"⟩, 8), (⟨"EvenSides", "setFraction", "(JJ)V"⟩, 13), (⟨"EvenSides$Alone", "gather", "(I)Z"⟩, 6), (⟨"EvenSides$Alone", "mayFollow", "(II)Z"⟩, 6), (⟨"EvenSides$Alone", "nextInFirst", "(I)I"⟩, 6), (⟨"EvenSidesModel", "begins", "()V"⟩, 49), (⟨"EvenSidesModel", "isPlace", "(I)Z"⟩, 49), (⟨"EvenSidesModel", "sets", "(IJ)I"⟩, 49), (⟨"EvenSidesModel", "isDoor", "(I)Z"⟩, 49), (⟨"EvenSidesModel", "isMule", "(I)Z"⟩, 49)]
theorem lw_r3 : ∀ q ∈ lw_privs_3, lw_okq q := List.forall_mem_cons.mpr ⟨lw_p32, List.forall_mem_cons.mpr ⟨lw_p33, List.forall_mem_cons.mpr ⟨lw_p34, List.forall_mem_cons.mpr ⟨lw_p35, List.forall_mem_cons.mpr ⟨lw_p36, List.forall_mem_cons.mpr ⟨lw_p37, List.forall_mem_cons.mpr ⟨lw_p38, List.forall_mem_cons.mpr ⟨lw_p39, List.forall_mem_cons.mpr ⟨lw_p40, List.forall_mem_cons.mpr ⟨lw_p41, List.forall_mem_cons.mpr ⟨lw_p42, List.forall_mem_cons.mpr ⟨lw_p43, List.forall_mem_cons.mpr ⟨lw_p44, List.forall_mem_cons.mpr ⟨lw_p45, List.forall_mem_cons.mpr ⟨lw_p46, List.forall_mem_cons.mpr ⟨lw_p47, fun _ h => absurd h List.not_mem_nil⟩⟩⟩⟩⟩⟩⟩⟩⟩⟩⟩⟩⟩⟩⟩⟩
theorem lw_p48 : lw_okq (⟨"EvenSidesModel", "isLoad", "(I)Z"⟩, 49) := ⟨⟨by decide +kernel, by decide +kernel⟩, lw_t5 (k := 185) rfl, lw_t6 (k := 160) rfl, lw_t6 (k := 161) rfl⟩
theorem lw_p49 : lw_okq (⟨"EvenSidesModel", "reads", "(I)Z"⟩, 49) := ⟨⟨by decide +kernel, by decide +kernel⟩, lw_t5 (k := 185) rfl, lw_t6 (k := 191) rfl, lw_t6 (k := 192) rfl⟩
theorem lw_p50 : lw_okq (⟨"EvenSidesModel", "scans", "()V"⟩, 49) := ⟨⟨by decide +kernel, by decide +kernel⟩, lw_t5 (k := 185) rfl, lw_t6 (k := 195) rfl, lw_t6 (k := 196) rfl⟩
theorem lw_p51 : lw_okq (⟨"EvenSidesModel", "isAt", "(II)Z"⟩, 49) := ⟨⟨by decide +kernel, by decide +kernel⟩, lw_t5 (k := 185) rfl, lw_t6 (k := 199) rfl, lw_t6 (k := 200) rfl⟩
theorem lw_p52 : lw_okq (⟨"EvenSidesModel", "byteAt", "(I)I"⟩, 49) := ⟨⟨by decide +kernel, by decide +kernel⟩, lw_t5 (k := 185) rfl, lw_t6 (k := 204) rfl, lw_t6 (k := 205) rfl⟩
theorem lw_p53 : lw_okq (⟨"EvenSidesModel", "tellsItem", "(I)I"⟩, 49) := ⟨⟨by decide +kernel, by decide +kernel⟩, lw_t5 (k := 185) rfl, lw_t7 (k := 0) rfl, lw_t7 (k := 1) rfl⟩
theorem lw_p54 : lw_okq (⟨"EvenSidesModel", "num", "(II)I"⟩, 49) := ⟨⟨by decide +kernel, by decide +kernel⟩, lw_t5 (k := 185) rfl, lw_t7 (k := 4) rfl, lw_t7 (k := 5) rfl⟩
theorem lw_p55 : lw_okq (⟨"EvenSidesModel", "runs", "()Z"⟩, 49) := ⟨⟨by decide +kernel, by decide +kernel⟩, lw_t5 (k := 185) rfl, lw_t7 (k := 22) rfl, lw_t7 (k := 23) rfl⟩
theorem lw_p56 : lw_okq (⟨"EvenSidesModel", "ofLoad", "(II)I"⟩, 49) := ⟨⟨by decide +kernel, by decide +kernel⟩, lw_t5 (k := 185) rfl, lw_t7 (k := 26) rfl, lw_t7 (k := 27) rfl⟩
theorem lw_p57 : lw_okq (⟨"EvenSidesModel", "acts", "(I)I"⟩, 49) := ⟨⟨by decide +kernel, by decide +kernel⟩, lw_t5 (k := 185) rfl, lw_t7 (k := 30) rfl, lw_t7 (k := 31) rfl⟩
theorem lw_p58 : lw_okq (⟨"EvenSidesModel", "hangs", "(III)I"⟩, 49) := ⟨⟨by decide +kernel, by decide +kernel⟩, lw_t5 (k := 185) rfl, lw_t7 (k := 34) rfl, lw_t7 (k := 35) rfl⟩
theorem lw_p59 : lw_okq (⟨"EvenSidesModel", "areSide", "(II)Z"⟩, 49) := ⟨⟨by decide +kernel, by decide +kernel⟩, lw_t5 (k := 185) rfl, lw_t7 (k := 38) rfl, lw_t7 (k := 39) rfl⟩
theorem lw_p60 : lw_okq (⟨"EvenSidesModel", "comes", "(III)I"⟩, 49) := ⟨⟨by decide +kernel, by decide +kernel⟩, lw_t5 (k := 185) rfl, lw_t7 (k := 42) rfl, lw_t7 (k := 43) rfl⟩
theorem lw_p61 : lw_okq (⟨"EvenSidesModel", "isHard", "(I)Z"⟩, 49) := ⟨⟨by decide +kernel, by decide +kernel⟩, lw_t5 (k := 185) rfl, lw_t7 (k := 46) rfl, lw_t7 (k := 47) rfl⟩
theorem lw_p62 : lw_okq (⟨"EvenSidesModel", "topOf", "(I)I"⟩, 49) := ⟨⟨by decide +kernel, by decide +kernel⟩, lw_t5 (k := 185) rfl, lw_t7 (k := 50) rfl, lw_t7 (k := 51) rfl⟩
theorem lw_p63 : lw_okq (⟨"EvenSidesModel", "weighs", "(II)I"⟩, 49) := ⟨⟨by decide +kernel, by decide +kernel⟩, lw_t5 (k := 185) rfl, lw_t7 (k := 54) rfl, lw_t7 (k := 55) rfl⟩
def lw_privs_4 : List (MethodName × Nat) := [(⟨"EvenSidesModel", "isLoad", "(I)Z"⟩, 49), (⟨"EvenSidesModel", "reads", "(I)Z"⟩, 49), (⟨"EvenSidesModel", "scans", "()V"⟩, 49), (⟨"EvenSidesModel", "isAt", "(II)Z"⟩, 49), (⟨"EvenSidesModel", "byteAt", "(I)I"⟩, 49), (⟨"EvenSidesModel", "tellsItem", "(I)I"⟩, 49), (⟨"EvenSidesModel", "num", "(II)I"⟩, 49), (⟨"EvenSidesModel", "runs", "()Z"⟩, 49), (⟨"EvenSidesModel", "ofLoad", "(II)I"⟩, 49), (⟨"EvenSidesModel", "acts", "(I)I"⟩, 49), (⟨"EvenSidesModel", "hangs", "(III)I"⟩, 49), (⟨"EvenSidesModel", "areSide", "(II)Z"⟩, 49), (⟨"EvenSidesModel", "comes", "(III)I"⟩, 49), (⟨"EvenSidesModel", "isHard", "(I)Z"⟩, 49), (⟨"EvenSidesModel", "topOf", "(I)I"⟩, 49), (⟨"EvenSidesModel", "weighs", "(II)I"⟩, 49)]
theorem lw_r4 : ∀ q ∈ lw_privs_4, lw_okq q := List.forall_mem_cons.mpr ⟨lw_p48, List.forall_mem_cons.mpr ⟨lw_p49, List.forall_mem_cons.mpr ⟨lw_p50, List.forall_mem_cons.mpr ⟨lw_p51, List.forall_mem_cons.mpr ⟨lw_p52, List.forall_mem_cons.mpr ⟨lw_p53, List.forall_mem_cons.mpr ⟨lw_p54, List.forall_mem_cons.mpr ⟨lw_p55, List.forall_mem_cons.mpr ⟨lw_p56, List.forall_mem_cons.mpr ⟨lw_p57, List.forall_mem_cons.mpr ⟨lw_p58, List.forall_mem_cons.mpr ⟨lw_p59, List.forall_mem_cons.mpr ⟨lw_p60, List.forall_mem_cons.mpr ⟨lw_p61, List.forall_mem_cons.mpr ⟨lw_p62, List.forall_mem_cons.mpr ⟨lw_p63, fun _ h => absurd h List.not_mem_nil⟩⟩⟩⟩⟩⟩⟩⟩⟩⟩⟩⟩⟩⟩⟩⟩
theorem lw_p64 : lw_okq (⟨"EvenSidesModel", "bearsMore", "(III)Z"⟩, 49) := ⟨⟨by decide +kernel, by decide +kernel⟩, lw_t5 (k := 185) rfl, lw_t7 (k := 58) rfl, lw_t7 (k := 59) rfl⟩
theorem lw_p65 : lw_okq (⟨"EvenSidesModel", "sideWeight", "(I)I"⟩, 49) := ⟨⟨by decide +kernel, by decide +kernel⟩, lw_t5 (k := 185) rfl, lw_t7 (k := 62) rfl, lw_t7 (k := 63) rfl⟩
theorem lw_p66 : lw_okq (⟨"EvenSidesModel", "bears", "(II)I"⟩, 49) := ⟨⟨by decide +kernel, by decide +kernel⟩, lw_t5 (k := 185) rfl, lw_t7 (k := 66) rfl, lw_t7 (k := 67) rfl⟩
theorem lw_p67 : lw_okq (⟨"EvenSidesModel", "most", "(I)I"⟩, 49) := ⟨⟨by decide +kernel, by decide +kernel⟩, lw_t5 (k := 185) rfl, lw_t7 (k := 70) rfl, lw_t7 (k := 71) rfl⟩
theorem lw_p68 : lw_okq (⟨"EvenSidesModel", "lays", "(II)V"⟩, 49) := ⟨⟨by decide +kernel, by decide +kernel⟩, lw_t5 (k := 185) rfl, lw_t7 (k := 74) rfl, lw_t7 (k := 75) rfl⟩
theorem lw_p69 : lw_okq (⟨"EvenSidesModel", "takes", "(II)I"⟩, 49) := ⟨⟨by decide +kernel, by decide +kernel⟩, lw_t5 (k := 185) rfl, lw_t7 (k := 78) rfl, lw_t7 (k := 79) rfl⟩
theorem lw_p70 : lw_okq (⟨"EvenSidesModel", "moves", "(IIII)I"⟩, 49) := ⟨⟨by decide +kernel, by decide +kernel⟩, lw_t5 (k := 185) rfl, lw_t7 (k := 82) rfl, lw_t7 (k := 83) rfl⟩
theorem lw_p71 : lw_okq (⟨"EvenSidesModel", "adds", "(II)I"⟩, 49) := ⟨⟨by decide +kernel, by decide +kernel⟩, lw_t5 (k := 185) rfl, lw_t7 (k := 86) rfl, lw_t7 (k := 87) rfl⟩
theorem lw_p72 : lw_okq (⟨"EvenSidesModel", "drops", "(II)I"⟩, 49) := ⟨⟨by decide +kernel, by decide +kernel⟩, lw_t5 (k := 185) rfl, lw_t7 (k := 90) rfl, lw_t7 (k := 91) rfl⟩
theorem lw_p73 : lw_okq (⟨"EvenSidesModel", "goes", "(I)I"⟩, 49) := ⟨⟨by decide +kernel, by decide +kernel⟩, lw_t5 (k := 185) rfl, lw_t7 (k := 94) rfl, lw_t7 (k := 95) rfl⟩
theorem lw_p74 : lw_okq (⟨"EvenSidesModel", "miles", "(II)I"⟩, 49) := ⟨⟨by decide +kernel, by decide +kernel⟩, lw_t5 (k := 185) rfl, lw_t7 (k := 98) rfl, lw_t7 (k := 99) rfl⟩
theorem lw_p75 : lw_okq (⟨"EvenSidesModel", "muleUneven", "(I)I"⟩, 49) := ⟨⟨by decide +kernel, by decide +kernel⟩, lw_t5 (k := 185) rfl, lw_t7 (k := 102) rfl, lw_t7 (k := 103) rfl⟩
theorem lw_p76 : lw_okq (⟨"EvenSidesModel", "even", "(I)I"⟩, 49) := ⟨⟨by decide +kernel, by decide +kernel⟩, lw_t5 (k := 185) rfl, lw_t7 (k := 106) rfl, lw_t7 (k := 107) rfl⟩
theorem lw_p77 : lw_okq (⟨"EvenSidesModel", "done", "()I"⟩, 49) := ⟨⟨by decide +kernel, by decide +kernel⟩, lw_t5 (k := 185) rfl, lw_t7 (k := 110) rfl, lw_t7 (k := 111) rfl⟩
theorem lw_p78 : lw_okq (⟨"EvenSidesModel", "isSome", "(I)Z"⟩, 49) := ⟨⟨by decide +kernel, by decide +kernel⟩, lw_t5 (k := 185) rfl, lw_t7 (k := 127) rfl, lw_t7 (k := 128) rfl⟩
theorem lw_p79 : lw_okq (⟨"EvenSidesModel", "apart", "(II)I"⟩, 49) := ⟨⟨by decide +kernel, by decide +kernel⟩, lw_t5 (k := 185) rfl, lw_t7 (k := 133) rfl, lw_t7 (k := 134) rfl⟩
def lw_privs_5 : List (MethodName × Nat) := [(⟨"EvenSidesModel", "bearsMore", "(III)Z"⟩, 49), (⟨"EvenSidesModel", "sideWeight", "(I)I"⟩, 49), (⟨"EvenSidesModel", "bears", "(II)I"⟩, 49), (⟨"EvenSidesModel", "most", "(I)I"⟩, 49), (⟨"EvenSidesModel", "lays", "(II)V"⟩, 49), (⟨"EvenSidesModel", "takes", "(II)I"⟩, 49), (⟨"EvenSidesModel", "moves", "(IIII)I"⟩, 49), (⟨"EvenSidesModel", "adds", "(II)I"⟩, 49), (⟨"EvenSidesModel", "drops", "(II)I"⟩, 49), (⟨"EvenSidesModel", "goes", "(I)I"⟩, 49), (⟨"EvenSidesModel", "miles", "(II)I"⟩, 49), (⟨"EvenSidesModel", "muleUneven", "(I)I"⟩, 49), (⟨"EvenSidesModel", "even", "(I)I"⟩, 49), (⟨"EvenSidesModel", "done", "()I"⟩, 49), (⟨"EvenSidesModel", "isSome", "(I)Z"⟩, 49), (⟨"EvenSidesModel", "apart", "(II)I"⟩, 49)]
theorem lw_r5 : ∀ q ∈ lw_privs_5, lw_okq q := List.forall_mem_cons.mpr ⟨lw_p64, List.forall_mem_cons.mpr ⟨lw_p65, List.forall_mem_cons.mpr ⟨lw_p66, List.forall_mem_cons.mpr ⟨lw_p67, List.forall_mem_cons.mpr ⟨lw_p68, List.forall_mem_cons.mpr ⟨lw_p69, List.forall_mem_cons.mpr ⟨lw_p70, List.forall_mem_cons.mpr ⟨lw_p71, List.forall_mem_cons.mpr ⟨lw_p72, List.forall_mem_cons.mpr ⟨lw_p73, List.forall_mem_cons.mpr ⟨lw_p74, List.forall_mem_cons.mpr ⟨lw_p75, List.forall_mem_cons.mpr ⟨lw_p76, List.forall_mem_cons.mpr ⟨lw_p77, List.forall_mem_cons.mpr ⟨lw_p78, List.forall_mem_cons.mpr ⟨lw_p79, fun _ h => absurd h List.not_mem_nil⟩⟩⟩⟩⟩⟩⟩⟩⟩⟩⟩⟩⟩⟩⟩⟩
theorem lw_p80 : lw_okq (⟨"EvenSidesModel", "inLine", "(I)I"⟩, 49) := ⟨⟨by decide +kernel, by decide +kernel⟩, lw_t5 (k := 185) rfl, lw_t7 (k := 150) rfl, lw_t7 (k := 151) rfl⟩
theorem lw_p81 : lw_okq (⟨"EvenSidesModel", "place", "(I)I"⟩, 49) := ⟨⟨by decide +kernel, by decide +kernel⟩, lw_t5 (k := 185) rfl, lw_t7 (k := 154) rfl, lw_t7 (k := 155) rfl⟩
theorem lw_p82 : lw_okq (⟨"EvenSidesModel", "told", "()Z"⟩, 49) := ⟨⟨by decide +kernel, by decide +kernel⟩, lw_t5 (k := 185) rfl, lw_t7 (k := 166) rfl, lw_t7 (k := 167) rfl⟩
theorem lw_p83 : lw_okq (⟨"EvenSidesModel", "spans", "()V"⟩, 49) := ⟨⟨by decide +kernel, by decide +kernel⟩, lw_t5 (k := 185) rfl, lw_t7 (k := 170) rfl, lw_t7 (k := 171) rfl⟩
theorem lw_p84 : lw_okq (⟨"EvenSidesModel", "isBorne", "()Z"⟩, 49) := ⟨⟨by decide +kernel, by decide +kernel⟩, lw_t5 (k := 185) rfl, lw_t7 (k := 174) rfl, lw_t7 (k := 175) rfl⟩
theorem lw_p85 : lw_okq (⟨"EvenSidesModel", "leg", "(II)V"⟩, 49) := ⟨⟨by decide +kernel, by decide +kernel⟩, lw_t5 (k := 185) rfl, lw_t7 (k := 178) rfl, lw_t7 (k := 179) rfl⟩
theorem lw_p86 : lw_okq (⟨"EvenSidesModel", "worstNow", "()I"⟩, 49) := ⟨⟨by decide +kernel, by decide +kernel⟩, lw_t5 (k := 185) rfl, lw_t7 (k := 186) rfl, lw_t7 (k := 187) rfl⟩
theorem lw_p87 : lw_okq (⟨"EvenSidesModel", "legUneven", "(I)I"⟩, 49) := ⟨⟨by decide +kernel, by decide +kernel⟩, lw_t5 (k := 185) rfl, lw_t7 (k := 190) rfl, lw_t7 (k := 191) rfl⟩
theorem lw_p88 : lw_okq (⟨"EvenSidesModel", "isSore", "()Z"⟩, 49) := ⟨⟨by decide +kernel, by decide +kernel⟩, lw_t5 (k := 185) rfl, lw_t7 (k := 198) rfl, lw_t7 (k := 199) rfl⟩
theorem lw_p89 : lw_okq (⟨"EvenSidesModel", "legMiles", "(I)I"⟩, 49) := ⟨⟨by decide +kernel, by decide +kernel⟩, lw_t5 (k := 185) rfl, lw_t7 (k := 202) rfl, lw_t7 (k := 203) rfl⟩
theorem lw_p90 : lw_okq (⟨"EvenSidesModel", "hangings", "()I"⟩, 49) := ⟨⟨by decide +kernel, by decide +kernel⟩, lw_t5 (k := 185) rfl, lw_t7 (k := 210) rfl, lw_t7 (k := 211) rfl⟩
theorem lw_p91 : lw_okq (⟨"EvenSidesModel", "findStays", "(I)Z"⟩, 49) := ⟨⟨by decide +kernel, by decide +kernel⟩, lw_t5 (k := 185) rfl, lw_t7 (k := 214) rfl, lw_t7 (k := 215) rfl⟩
theorem lw_p92 : lw_okq (⟨"EvenSidesModel", "beginCodes", "()V"⟩, 49) := ⟨⟨by decide +kernel, by decide +kernel⟩, lw_t5 (k := 185) rfl, lw_t7 (k := 218) rfl, lw_t7 (k := 219) rfl⟩
theorem lw_p93 : lw_okq (⟨"EvenSidesModel", "nextCodes", "()V"⟩, 49) := ⟨⟨by decide +kernel, by decide +kernel⟩, lw_t5 (k := 185) rfl, lw_t7 (k := 222) rfl, lw_t7 (k := 223) rfl⟩
theorem lw_p94 : lw_okq (⟨"EvenSidesModel", "findBest", "(I)Z"⟩, 49) := ⟨⟨by decide +kernel, by decide +kernel⟩, lw_t5 (k := 185) rfl, lw_t7 (k := 230) rfl, lw_t7 (k := 231) rfl⟩
theorem lw_p95 : lw_okq (⟨"EvenSidesModel", "listDoors", "()V"⟩, 49) := ⟨⟨by decide +kernel, by decide +kernel⟩, lw_t5 (k := 185) rfl, lw_t7 (k := 234) rfl, lw_t7 (k := 235) rfl⟩
def lw_privs_6 : List (MethodName × Nat) := [(⟨"EvenSidesModel", "inLine", "(I)I"⟩, 49), (⟨"EvenSidesModel", "place", "(I)I"⟩, 49), (⟨"EvenSidesModel", "told", "()Z"⟩, 49), (⟨"EvenSidesModel", "spans", "()V"⟩, 49), (⟨"EvenSidesModel", "isBorne", "()Z"⟩, 49), (⟨"EvenSidesModel", "leg", "(II)V"⟩, 49), (⟨"EvenSidesModel", "worstNow", "()I"⟩, 49), (⟨"EvenSidesModel", "legUneven", "(I)I"⟩, 49), (⟨"EvenSidesModel", "isSore", "()Z"⟩, 49), (⟨"EvenSidesModel", "legMiles", "(I)I"⟩, 49), (⟨"EvenSidesModel", "hangings", "()I"⟩, 49), (⟨"EvenSidesModel", "findStays", "(I)Z"⟩, 49), (⟨"EvenSidesModel", "beginCodes", "()V"⟩, 49), (⟨"EvenSidesModel", "nextCodes", "()V"⟩, 49), (⟨"EvenSidesModel", "findBest", "(I)Z"⟩, 49), (⟨"EvenSidesModel", "listDoors", "()V"⟩, 49)]
theorem lw_r6 : ∀ q ∈ lw_privs_6, lw_okq q := List.forall_mem_cons.mpr ⟨lw_p80, List.forall_mem_cons.mpr ⟨lw_p81, List.forall_mem_cons.mpr ⟨lw_p82, List.forall_mem_cons.mpr ⟨lw_p83, List.forall_mem_cons.mpr ⟨lw_p84, List.forall_mem_cons.mpr ⟨lw_p85, List.forall_mem_cons.mpr ⟨lw_p86, List.forall_mem_cons.mpr ⟨lw_p87, List.forall_mem_cons.mpr ⟨lw_p88, List.forall_mem_cons.mpr ⟨lw_p89, List.forall_mem_cons.mpr ⟨lw_p90, List.forall_mem_cons.mpr ⟨lw_p91, List.forall_mem_cons.mpr ⟨lw_p92, List.forall_mem_cons.mpr ⟨lw_p93, List.forall_mem_cons.mpr ⟨lw_p94, List.forall_mem_cons.mpr ⟨lw_p95, fun _ h => absurd h List.not_mem_nil⟩⟩⟩⟩⟩⟩⟩⟩⟩⟩⟩⟩⟩⟩⟩⟩
theorem lw_p96 : lw_okq (⟨"EvenSidesModel", "beginRow", "(I)V"⟩, 49) := ⟨⟨by decide +kernel, by decide +kernel⟩, lw_t5 (k := 185) rfl, lw_t7 (k := 238) rfl, lw_t7 (k := 239) rfl⟩
theorem lw_p97 : lw_okq (⟨"EvenSidesModel", "nextRow", "()Z"⟩, 49) := ⟨⟨by decide +kernel, by decide +kernel⟩, lw_t5 (k := 185) rfl, lw_t8 (k := 2) rfl, lw_t8 (k := 3) rfl⟩
theorem lw_p98 : lw_okq (⟨"EvenSidesModel", "isTaken", "(I)Z"⟩, 49) := ⟨⟨by decide +kernel, by decide +kernel⟩, lw_t5 (k := 185) rfl, lw_t8 (k := 6) rfl, lw_t8 (k := 7) rfl⟩
theorem lw_p99 : lw_okq (⟨"EvenSidesModel", "fillsRow", "(I)Z"⟩, 49) := ⟨⟨by decide +kernel, by decide +kernel⟩, lw_t5 (k := 185) rfl, lw_t8 (k := 10) rfl, lw_t8 (k := 11) rfl⟩
theorem lw_p100 : lw_okq (⟨"EvenSidesModel", "layers", "(I)I"⟩, 49) := ⟨⟨by decide +kernel, by decide +kernel⟩, lw_t5 (k := 185) rfl, lw_t8 (k := 18) rfl, lw_t8 (k := 19) rfl⟩
theorem lw_p101 : lw_okq (⟨"EvenSidesModel", "happens", "(IZ)V"⟩, 49) := ⟨⟨by decide +kernel, by decide +kernel⟩, lw_t5 (k := 185) rfl, lw_t8 (k := 22) rfl, lw_t8 (k := 23) rfl⟩
theorem lw_p102 : lw_okq (⟨"EvenSidesModel", "offers", "(II)V"⟩, 49) := ⟨⟨by decide +kernel, by decide +kernel⟩, lw_t5 (k := 185) rfl, lw_t8 (k := 35) rfl, lw_t8 (k := 36) rfl⟩
theorem lw_p103 : lw_okq (⟨"EvenSidesModel", "isPile", "(I)Z"⟩, 49) := ⟨⟨by decide +kernel, by decide +kernel⟩, lw_t5 (k := 185) rfl, lw_t8 (k := 39) rfl, lw_t8 (k := 40) rfl⟩
theorem lw_p104 : lw_okq (⟨"EvenSidesModel", "stonesOf", "(I)I"⟩, 49) := ⟨⟨by decide +kernel, by decide +kernel⟩, lw_t5 (k := 185) rfl, lw_t8 (k := 50) rfl, lw_t8 (k := 51) rfl⟩
theorem lw_p105 : lw_okq (⟨"EvenSidesModel", "findAskers", "()Z"⟩, 49) := ⟨⟨by decide +kernel, by decide +kernel⟩, lw_t5 (k := 185) rfl, lw_t8 (k := 58) rfl, lw_t8 (k := 59) rfl⟩
theorem lw_p106 : lw_okq (⟨"EvenSidesModel", "chanceNow", "()J"⟩, 49) := ⟨⟨by decide +kernel, by decide +kernel⟩, lw_t5 (k := 185) rfl, lw_t8 (k := 62) rfl, lw_t8 (k := 63) rfl⟩
theorem lw_p107 : lw_okq (⟨"EvenSidesModel", "wholeChance", "()J"⟩, 49) := ⟨⟨by decide +kernel, by decide +kernel⟩, lw_t5 (k := 185) rfl, lw_t8 (k := 66) rfl, lw_t8 (k := 67) rfl⟩
theorem lw_p108 : lw_okq (⟨"EvenSidesModel", "tells", "(JJ)I"⟩, 49) := ⟨⟨by decide +kernel, by decide +kernel⟩, lw_t5 (k := 185) rfl, lw_t8 (k := 70) rfl, lw_t8 (k := 71) rfl⟩
theorem lw_p109 : lw_okq (⟨"EvenSidesModel", "isOrder", "(III)Z"⟩, 49) := ⟨⟨by decide +kernel, by decide +kernel⟩, lw_t5 (k := 185) rfl, lw_t8 (k := 85) rfl, lw_t8 (k := 86) rfl⟩
theorem lw_p110 : lw_okq (⟨"EvenSidesModel", "countOf", "(I)I"⟩, 49) := ⟨⟨by decide +kernel, by decide +kernel⟩, lw_t5 (k := 185) rfl, lw_t8 (k := 105) rfl, lw_t8 (k := 106) rfl⟩
theorem lw_p111 : lw_okq (⟨"EvenSidesModel", "mixed", "(JII)J"⟩, 49) := ⟨⟨by decide +kernel, by decide +kernel⟩, lw_t5 (k := 185) rfl, lw_t8 (k := 115) rfl, lw_t8 (k := 116) rfl⟩
def lw_privs_7 : List (MethodName × Nat) := [(⟨"EvenSidesModel", "beginRow", "(I)V"⟩, 49), (⟨"EvenSidesModel", "nextRow", "()Z"⟩, 49), (⟨"EvenSidesModel", "isTaken", "(I)Z"⟩, 49), (⟨"EvenSidesModel", "fillsRow", "(I)Z"⟩, 49), (⟨"EvenSidesModel", "layers", "(I)I"⟩, 49), (⟨"EvenSidesModel", "happens", "(IZ)V"⟩, 49), (⟨"EvenSidesModel", "offers", "(II)V"⟩, 49), (⟨"EvenSidesModel", "isPile", "(I)Z"⟩, 49), (⟨"EvenSidesModel", "stonesOf", "(I)I"⟩, 49), (⟨"EvenSidesModel", "findAskers", "()Z"⟩, 49), (⟨"EvenSidesModel", "chanceNow", "()J"⟩, 49), (⟨"EvenSidesModel", "wholeChance", "()J"⟩, 49), (⟨"EvenSidesModel", "tells", "(JJ)I"⟩, 49), (⟨"EvenSidesModel", "isOrder", "(III)Z"⟩, 49), (⟨"EvenSidesModel", "countOf", "(I)I"⟩, 49), (⟨"EvenSidesModel", "mixed", "(JII)J"⟩, 49)]
theorem lw_r7 : ∀ q ∈ lw_privs_7, lw_okq q := List.forall_mem_cons.mpr ⟨lw_p96, List.forall_mem_cons.mpr ⟨lw_p97, List.forall_mem_cons.mpr ⟨lw_p98, List.forall_mem_cons.mpr ⟨lw_p99, List.forall_mem_cons.mpr ⟨lw_p100, List.forall_mem_cons.mpr ⟨lw_p101, List.forall_mem_cons.mpr ⟨lw_p102, List.forall_mem_cons.mpr ⟨lw_p103, List.forall_mem_cons.mpr ⟨lw_p104, List.forall_mem_cons.mpr ⟨lw_p105, List.forall_mem_cons.mpr ⟨lw_p106, List.forall_mem_cons.mpr ⟨lw_p107, List.forall_mem_cons.mpr ⟨lw_p108, List.forall_mem_cons.mpr ⟨lw_p109, List.forall_mem_cons.mpr ⟨lw_p110, List.forall_mem_cons.mpr ⟨lw_p111, fun _ h => absurd h List.not_mem_nil⟩⟩⟩⟩⟩⟩⟩⟩⟩⟩⟩⟩⟩⟩⟩⟩
def lw_privs : List (MethodName × Nat) := lw_privs_1 ++ (lw_privs_2 ++ (lw_privs_3 ++ (lw_privs_4 ++ (lw_privs_5 ++ (lw_privs_6 ++ (lw_privs_7))))))
def lw_tbl : List Cond := k2_sels lw_privs ++ tables_1
theorem lw_privs_ok : ∀ q ∈ lw_privs, lw_okq q := by
  show ∀ q ∈ lw_privs_1 ++ (lw_privs_2 ++ (lw_privs_3 ++ (lw_privs_4 ++ (lw_privs_5 ++ (lw_privs_6 ++ (lw_privs_7)))))), lw_okq q
  exact List.forall_mem_append.mpr ⟨lw_r1, List.forall_mem_append.mpr ⟨lw_r2, List.forall_mem_append.mpr ⟨lw_r3, List.forall_mem_append.mpr ⟨lw_r4, List.forall_mem_append.mpr ⟨lw_r5, List.forall_mem_append.mpr ⟨lw_r6, lw_r7⟩⟩⟩⟩⟩⟩
end
section
-- 02.classes
/-! ===== the classes, their fields, the words ===== -/
def wk_fl : List (String × List (String × String × String × Bool)) := [
  ("EvenSides$Acts", [("EvenSides$Acts", "told", "LEvenSides$Told;", true), ("EvenSides$Acts", "reader", "LEvenSides$Reader;", true), ("EvenSides$Acts", "right", "I", false), ("EvenSides$Acts", "wrong", "I", false), ("EvenSides$Acts", "miles", "I", false), ("EvenSides$Acts", "minutes", "I", false), ("EvenSides$Acts", "place", "I", false), ("EvenSides$Acts", "at", "[I", true), ("EvenSides$Acts", "high", "[I", true), ("EvenSides$Acts", "stonesOn", "[I", true), ("EvenSides$Acts", "pile", "[[I", true), ("EvenSides$Acts", "stonesLie", "[I", true), ("EvenSides$Acts", "sore", "[I", true), ("EvenSides$Acts", "weighs", "[I", true), ("EvenSides$Acts", "goings", "I", false)]),
  ("EvenSides$Alone", [("EvenSides$Alone", "told", "LEvenSides$Told;", true), ("EvenSides$Alone", "many", "I", false), ("EvenSides$Alone", "mostUneven", "I", false), ("EvenSides$Alone", "loads", "[I", true), ("EvenSides$Alone", "high", "[I", true), ("EvenSides$Alone", "orders", "[I", true)]),
  ("EvenSides$Layers", [("EvenSides$Layers", "told", "LEvenSides$Told;", true), ("EvenSides$Layers", "legs", "LEvenSides$Legs;", true), ("EvenSides$Layers", "events", "I", false), ("EvenSides$Layers", "event", "[I", true)]),
  ("EvenSides$Legs", [("EvenSides$Legs", "told", "LEvenSides$Told;", true), ("EvenSides$Legs", "many", "I", false), ("EvenSides$Legs", "far", "I", false), ("EvenSides$Legs", "miles", "[I", true), ("EvenSides$Legs", "onAt", "[I", true), ("EvenSides$Legs", "offAt", "[I", true), ("EvenSides$Legs", "weighs", "[[I", true), ("EvenSides$Legs", "stopOf", "[I", true)]),
  ("EvenSides$Reader", [("EvenSides$Reader", "told", "LEvenSides$Told;", true), ("EvenSides$Reader", "items", "I", false), ("EvenSides$Reader", "word", "[I", true), ("EvenSides$Reader", "number", "[[I", true), ("EvenSides$Reader", "text", "[I", false), ("EvenSides$Reader", "length", "I", false), ("EvenSides$Reader", "next", "I", false), ("EvenSides$Reader", "kind", "I", false), ("EvenSides$Reader", "start", "I", false)]),
  ("EvenSides$Routes", [("EvenSides$Routes", "told", "LEvenSides$Told;", true), ("EvenSides$Routes", "legs", "LEvenSides$Legs;", true), ("EvenSides$Routes", "scales", "LEvenSides$Scales;", true), ("EvenSides$Routes", "least", "I", false), ("EvenSides$Routes", "miles", "I", false), ("EvenSides$Routes", "first", "[I", true), ("EvenSides$Routes", "order", "[I", true)]),
  ("EvenSides$Scales", [("EvenSides$Scales", "told", "LEvenSides$Told;", true), ("EvenSides$Scales", "legs", "LEvenSides$Legs;", true), ("EvenSides$Scales", "least", "I", false), ("EvenSides$Scales", "likeliest", "J", false), ("EvenSides$Scales", "found", "[I", true), ("EvenSides$Scales", "byChance", "Z", false), ("EvenSides$Scales", "certain", "J", false), ("EvenSides$Scales", "row", "[I", true), ("EvenSides$Scales", "hungOn", "[I", true), ("EvenSides$Scales", "bears", "[[I", true), ("EvenSides$Scales", "loadsOn", "[[I", true), ("EvenSides$Scales", "still", "[[I", true), ("EvenSides$Scales", "lifted", "[I", true), ("EvenSides$Scales", "liftedAhead", "[I", true)]),
  ("EvenSides$Told", [("EvenSides$Told", "doors", "I", false), ("EvenSides$Told", "mules", "I", false), ("EvenSides$Told", "loads", "I", false), ("EvenSides$Told", "lined", "I", false), ("EvenSides$Told", "miles", "[[I", true), ("EvenSides$Told", "fords", "[I", true), ("EvenSides$Told", "stonesAt", "[I", true), ("EvenSides$Told", "mule", "[[I", true), ("EvenSides$Told", "load", "[[I", true), ("EvenSides$Told", "numbers", "[I", true), ("EvenSides$Told", "line", "[I", true), ("EvenSides$Told", "text", "[[I", true), ("EvenSides$Told", "bytes", "[I", true)]),
  ("EvenSides", [("EvenSides", "now", "LEvenSides$Told;", true), ("EvenSides", "spare", "LEvenSides$Told;", true), ("EvenSides", "images", "[LEvenSides$Told;", true), ("EvenSides", "kept", "[Z", true), ("EvenSides", "reader", "LEvenSides$Reader;", true), ("EvenSides", "acts", "LEvenSides$Acts;", true), ("EvenSides", "legs", "LEvenSides$Legs;", true), ("EvenSides", "scales", "LEvenSides$Scales;", true), ("EvenSides", "routes", "LEvenSides$Routes;", true), ("EvenSides", "layers", "LEvenSides$Layers;", true), ("EvenSides", "aloneOrders", "LEvenSides$Alone;", true), ("EvenSides", "above", "J", false), ("EvenSides", "below", "J", false)]),
  ("EvenSidesModel", [("EvenSidesModel", "book", "[I", true), ("EvenSidesModel", "images", "[I", true), ("EvenSidesModel", "kept", "[Z", true), ("EvenSidesModel", "aside", "[I", true), ("EvenSidesModel", "above", "J", false), ("EvenSidesModel", "below", "J", false), ("EvenSidesModel", "text", "I", false), ("EvenSidesModel", "at", "I", false), ("EvenSidesModel", "start", "I", false), ("EvenSidesModel", "token", "I", false), ("EvenSidesModel", "value", "I", false), ("EvenSidesModel", "verbs", "[I", true), ("EvenSidesModel", "nums", "[I", true), ("EvenSidesModel", "items", "I", false), ("EvenSidesModel", "whereNow", "[I", true), ("EvenSidesModel", "piles", "[I", true), ("EvenSidesModel", "piled", "[I", true), ("EvenSidesModel", "stonesOn", "[I", true), ("EvenSidesModel", "stonesAt", "[I", true), ("EvenSidesModel", "sore", "[I", true), ("EvenSidesModel", "here", "I", false), ("EvenSidesModel", "goings", "I", false), ("EvenSidesModel", "gone", "I", false), ("EvenSidesModel", "minutes", "I", false), ("EvenSidesModel", "right", "I", false), ("EvenSidesModel", "wrong", "I", false), ("EvenSidesModel", "code", "[I", true), ("EvenSidesModel", "firstLeg", "[I", true), ("EvenSidesModel", "lastLeg", "[I", true), ("EvenSidesModel", "comesOff", "[Z", true), ("EvenSidesModel", "sides", "[I", true), ("EvenSidesModel", "counts", "[I", true), ("EvenSidesModel", "bestCodes", "[I", true), ("EvenSidesModel", "bestWorst", "I", false), ("EvenSidesModel", "row", "[I", true), ("EvenSidesModel", "rowMany", "I", false), ("EvenSidesModel", "doors", "[I", true), ("EvenSidesModel", "bestDoors", "[I", true), ("EvenSidesModel", "bestMiles", "I", false), ("EvenSidesModel", "bestOf", "I", false), ("EvenSidesModel", "hadLine", "[I", true), ("EvenSidesModel", "cost", "[I", true), ("EvenSidesModel", "then", "[I", true), ("EvenSidesModel", "steps", "[I", true), ("EvenSidesModel", "stepsThen", "[I", true), ("EvenSidesModel", "always", "I", false), ("EvenSidesModel", "askers", "[I", true), ("EvenSidesModel", "askerMany", "I", false), ("EvenSidesModel", "hung", "[I", true)])]
def wk_T (q : String × List (String × String × String × Bool)) : u_T := fun k => q.2.getD k ("", "", "", false)
def wk_cl : List vw_C := wk_fl.map fun q => (q.1, wk_T q, q.2.length)
/-- the words that hold in every frame -/
def wk_tbl : List Cond := lw_tbl.filter goodWord
theorem wk_tbl_in {w : Cond} (h : w ∈ wk_tbl) : w ∈ lw_tbl := (List.mem_filter.mp h).1
theorem wk_tbl_good : GoodIn wk_tbl wk_tbl := fun w h => ⟨h, good_of_word (List.mem_filter.mp h).2⟩
/-- the table from each 32nd word on: a look at a word costs no walk from the start -/
def wk_dr : Nat → List Cond
  | 0 => lw_tbl
  | k + 1 => (wk_dr k).drop 32
theorem wk_dr_in {w : Cond} : ∀ k : Nat, w ∈ wk_dr k → w ∈ lw_tbl
  | 0, h => h
  | k + 1, h => wk_dr_in k (List.mem_of_mem_drop h)
/-- a word at its place -/
def wk_has (n : Nat) (w : Cond) : Bool := decide ((wk_dr (n / 32))[n % 32]? = some w) && goodWord w
theorem wk_has_in {n : Nat} {w : Cond} (h : wk_has n w = true) : w ∈ wk_tbl := by
  unfold wk_has at h
  rw [Bool.and_eq_true, decide_eq_true_eq] at h
  exact List.mem_filter.mpr ⟨wk_dr_in _ (List.mem_of_getElem? h.1), h.2⟩
def wk_lp : List (List Nat) := [
  [301, 303, 305, 307, 309, 311, 313, 315, 317, 319, 321, 323, 325, 327, 329],
  [488, 490, 492, 494, 496, 498],
  [467, 469, 471, 473],
  [355, 357, 359, 361, 363, 365, 367, 369],
  [251, 253, 255, 257, 259, 261, 263, 265, 267],
  [442, 444, 446, 448, 450, 452, 454],
  [397, 399, 401, 403, 405, 407, 409, 411, 413, 415, 417, 419, 421, 423],
  [200, 202, 204, 206, 208, 210, 212, 214, 216, 218, 220, 222, 224],
  [514, 516, 518, 520, 522, 524, 526, 528, 530, 532, 534, 536, 538],
  [1315, 1317, 1319, 1321, 1323, 1325, 1327, 1329, 1331, 1333, 1335, 1337, 1339, 1341, 1343, 1345, 1347, 1349, 1351, 1353, 1355, 1357, 1359, 1361, 1363, 1365, 1367, 1369, 1371, 1373, 1375, 1377, 1379, 1381, 1383, 1385, 1387, 1389, 1391, 1393, 1395, 1397, 1399, 1401, 1403, 1405, 1407, 1409, 1411]]
def wk_lay (ci k : Nat) : Bool := match wk_fl[ci]?, (wk_lp[ci]?).bind (fun r => r[k]?) with
  | some q, some n => wk_has n (u_lay q.1 (wk_T q) k)
  | _, _ => false
set_option maxRecDepth 100000 in
theorem wk_lay_ok : ((List.range 10).all fun ci => (List.range (match wk_fl[ci]? with | some q => q.2.length | none => 0)).all fun k => wk_lay ci k) = true := by decide +kernel
theorem wk_len10 : wk_fl.length = 10 := by decide +kernel
theorem wk_cl_at {ci : Nat} {r : vw_C} (h : wk_cl[ci]? = some r) : ci < 10 ∧ ∃ q, wk_fl[ci]? = some q ∧ r = (q.1, wk_T q, q.2.length) := by
  unfold wk_cl at h
  rw [List.getElem?_map] at h
  cases hq : wk_fl[ci]? with
  | none => rw [hq] at h; cases h
  | some q =>
    rw [hq] at h
    cases h
    have := (List.getElem?_eq_some_iff.mp hq).1
    rw [wk_len10] at this
    exact ⟨this, q, rfl, rfl⟩
theorem wk_cl_in {ci : Nat} {r : vw_C} (h : wk_cl[ci]? = some r) : ∀ w ∈ u_ws r.1 r.2.1 r.2.2, w ∈ wk_tbl := by
  obtain ⟨hc, q, hq, rfl⟩ := wk_cl_at h
  intro w hw
  obtain ⟨k, hk, rfl⟩ := List.mem_map.mp hw
  have h1 := List.all_eq_true.mp wk_lay_ok ci (List.mem_range.mpr hc)
  rw [hq] at h1
  have h2 := List.all_eq_true.mp h1 k (List.mem_range.mpr (List.mem_range.mp hk))
  unfold wk_lay at h2
  rw [hq] at h2
  split at h2
  · rename_i q' n e1 e2
    cases e1
    exact wk_has_in h2
  · cases h2
/-- a field's type -/
def wk_ft (ci k : Nat) : FieldType := match wk_fl[ci]? with
  | some q => (parseFieldDescriptor (wk_T q k).2.2.1).getD .int
  | none => .int
def wk_tyc : FieldType → Nat
  | .int => 0
  | .boolean => 1
  | .long => 2
  | .object _ => 3
  | .array _ => 3
  | _ => 9
def wk_fc : List (List Nat) := [
  [3, 3, 0, 0, 0, 0, 0, 3, 3, 3, 3, 3, 3, 3, 0],
  [3, 0, 0, 3, 3, 3],
  [3, 3, 0, 3],
  [3, 0, 0, 3, 3, 3, 3, 3],
  [3, 0, 3, 3, 3, 0, 0, 0, 0],
  [3, 3, 3, 0, 0, 3, 3],
  [3, 3, 0, 2, 3, 1, 2, 3, 3, 3, 3, 3, 3, 3],
  [0, 0, 0, 0, 3, 3, 3, 3, 3, 3, 3, 3, 3],
  [3, 3, 3, 3, 3, 3, 3, 3, 3, 3, 3, 2, 2],
  [3, 3, 3, 3, 2, 2, 0, 0, 0, 0, 0, 3, 3, 0, 3, 3, 3, 3, 3, 3, 0, 0, 0, 0, 0, 0, 3, 3, 3, 3, 3, 3, 3, 0, 3, 0, 3, 3, 0, 0, 3, 3, 3, 3, 3, 0, 3, 0, 3]]
theorem wk_ft_ok : ((List.range 10).all fun ci => (List.range (match wk_fl[ci]? with | some q => q.2.length | none => 0)).all fun k => match wk_fl[ci]?, (wk_fc[ci]?).bind (fun r => r[k]?) with | some q, some n => (parseFieldDescriptor (wk_T q k).2.2.1).isSome && Nat.beq (wk_tyc (wk_ft ci k)) n | _, _ => false) = true := by decide +kernel
theorem wk_nm_ok : (wk_fl.all fun q => (List.range q.2.length).all fun a => (List.range q.2.length).all fun b => Nat.beq a b || !decide ((wk_T q a).2.1 = (wk_T q b).2.1)) = true := by decide +kernel
theorem wk_ft_at {ci k : Nat} {q : String × List (String × String × String × Bool)} (hq : wk_fl[ci]? = some q) (hk : k < q.2.length) : parseFieldDescriptor (wk_T q k).2.2.1 = some (wk_ft ci k) ∧ ((wk_fc[ci]?).bind fun r => r[k]?) = some (wk_tyc (wk_ft ci k)) := by
  have hc : ci < 10 := by
    have := (List.getElem?_eq_some_iff.mp hq).1
    rw [wk_len10] at this
    exact this
  have h1 := List.all_eq_true.mp wk_ft_ok ci (List.mem_range.mpr hc)
  rw [hq] at h1
  have h2 := List.all_eq_true.mp h1 k (List.mem_range.mpr hk)
  split at h2
  · rename_i q' n e1 e2
    cases e1
    rw [Bool.and_eq_true] at h2
    obtain ⟨ty, hty⟩ := Option.isSome_iff_exists.mp h2.1
    refine ⟨?_, by rw [e2, Nat.eq_of_beq_eq_true h2.2]⟩
    rw [hty]
    unfold wk_ft
    rw [hq]
    simp only [hty, Option.getD_some]
  · cases h2
theorem wk_nm_at {ci : Nat} {q : String × List (String × String × String × Bool)} (hq : wk_fl[ci]? = some q) : ∀ a, a < q.2.length → ∀ b, b < q.2.length → a ≠ b → (wk_T q a).2.1 ≠ (wk_T q b).2.1 := by
  intro a ha b hb hab
  have h1 := List.all_eq_true.mp wk_nm_ok q (List.mem_of_getElem? hq)
  have h2 := List.all_eq_true.mp (List.all_eq_true.mp h1 a (List.mem_range.mpr ha)) b (List.mem_range.mpr hb)
  rw [Bool.or_eq_true] at h2
  rcases h2 with h2 | h2
  · exact absurd (Nat.eq_of_beq_eq_true h2) hab
  · simpa using h2
end
section
-- 03.engine
/-! ===== THE ENGINE: a run of bytecode over known values, computed by the kernel; the script's ints as variables in a box ===== -/
/-- a value: an int within bounds, a long within bounds, a reference (null, or a cell's number), or (0, i) the int variable i, (1, i) it as a long, (2, _) the script -/
abbrev wk_V : Type := (Int × Int) ⊕ ((Int × Int) ⊕ (Option Nat ⊕ (Nat × Nat)))
/-- a cell: an array (its kind, its length, its contents in rows of 32), an object (its class's number, its fields) -/
abbrev wk_C : Type := (Nat × Nat × List (List wk_V)) ⊕ (Nat × List wk_V)
/-- a heap: how many cells, the cells in rows of 32 -/
abbrev wk_A : Type := Nat × List (List wk_C)
abbrev wk_L : Type := List (Nat × wk_V)
abbrev wk_I : Type := List (Int × Int)
/-- a row of code: its place, the instruction, its length, what it is linked to, where the words stand, the short way's tag and number -/
abbrev wk_X : Type := Nat × Instr × Nat × (Nat × Nat × Int) × List Nat × Nat × Int
/-- a method: its class's number, name, bytes, locals, what it returns, the cells and slots that it may make, parameters, code in rows of sixteen places -/
abbrev wk_M : Type := Nat × MethodName × ByteArray × Nat × Option FieldType × Nat × Nat × Nat × List (List wk_X)
def wk_Mc (M : wk_M) : Nat := M.1
def wk_My (M : wk_M) : MethodName := M.2.1
def wk_Mb (M : wk_M) : ByteArray := M.2.2.1
def wk_Ml (M : wk_M) : Nat := M.2.2.2.1
def wk_Mr (M : wk_M) : Option FieldType := M.2.2.2.2.1
def wk_Mk (M : wk_M) : Nat := M.2.2.2.2.2.1
def wk_Ms (M : wk_M) : Nat := M.2.2.2.2.2.2.1
def wk_Mn (M : wk_M) : Nat := M.2.2.2.2.2.2.2.1
def wk_Mx (M : wk_M) : List (List wk_X) := M.2.2.2.2.2.2.2.2
def wk_at {α : Type} : List α → Nat → Option α
  | [], _ => none
  | a :: _, 0 => some a
  | _ :: l, n + 1 => wk_at l n
theorem wk_at_eq {α : Type} : ∀ (l : List α) (n : Nat), wk_at l n = l[n]?
  | [], n => by simp [wk_at]
  | a :: l, 0 => by simp [wk_at]
  | a :: l, n + 1 => by simp [wk_at, wk_at_eq l n]
/-- the list with another element, made at once -/
def wk_put {α β : Type} : List α → Nat → α → (List α → β) → β
  | [], _, _, k => k []
  | _ :: l, 0, v, k => k (v :: l)
  | a :: l, n + 1, v, k => wk_put l n v (fun r => k (a :: r))
theorem wk_put_eq {α β : Type} : ∀ (l : List α) (n : Nat) (v : α) (k : List α → β), wk_put l n v k = k (l.set n v)
  | [], n, v, k => by simp [wk_put]
  | a :: l, 0, v, k => by simp [wk_put]
  | a :: l, n + 1, v, k => by simp [wk_put, wk_put_eq l n v]
/-- rows of 32 -/
def wk_at2 {α : Type} (vs : List (List α)) (j : Nat) : Option α := match wk_at vs (j / 32) with
  | some r => wk_at r (j % 32)
  | none => none
def wk_put2 {α β : Type} (vs : List (List α)) (j : Nat) (w : α) (k : List (List α) → β) : β := match wk_at vs (j / 32) with
  | some r => wk_put r (j % 32) w (fun r => wk_put vs (j / 32) r k)
  | none => k vs
def wk_set2 {α : Type} (vs : List (List α)) (j : Nat) (w : α) : List (List α) := match vs[j / 32]? with
  | some r => vs.set (j / 32) (r.set (j % 32) w)
  | none => vs
theorem wk_put2_eq {α β : Type} (vs : List (List α)) (j : Nat) (w : α) (k : List (List α) → β) : wk_put2 vs j w k = k (wk_set2 vs j w) := by
  unfold wk_put2 wk_set2
  rw [wk_at_eq]
  cases vs[j / 32]? with
  | none => rfl
  | some r => simp only [wk_put_eq]
theorem wk_at2_eq {α : Type} (vs : List (List α)) (j : Nat) : wk_at2 vs j = (vs[j / 32]?).bind fun r => r[j % 32]? := by
  unfold wk_at2
  rw [wk_at_eq]
  cases vs[j / 32]? with
  | none => rfl
  | some r => simp only [wk_at_eq, Option.bind_some]
theorem wk_at2_set {α : Type} (vs : List (List α)) (j i : Nat) (w : α) (h : (wk_at2 vs j).isSome = true) : wk_at2 (wk_set2 vs j w) i = if i = j then some w else wk_at2 vs i := by
  rw [wk_at2_eq] at h
  rw [wk_at2_eq, wk_at2_eq]
  unfold wk_set2
  cases hr : vs[j / 32]? with
  | none => rw [hr] at h; cases h
  | some r =>
    rw [hr] at h
    simp only [Option.bind_some] at h
    have hl : j / 32 < vs.length := (List.getElem?_eq_some_iff.mp hr).1
    have hl2 : j % 32 < r.length := by
      obtain ⟨b, hb⟩ := Option.isSome_iff_exists.mp h
      exact (List.getElem?_eq_some_iff.mp hb).1
    simp only
    by_cases hd : i / 32 = j / 32
    · rw [hd, List.getElem?_set_self hl, hr]
      simp only [Option.bind_some]
      by_cases hm : i % 32 = j % 32
      · rw [hm, List.getElem?_set_self hl2, if_pos (by omega)]
      · rw [List.getElem?_set_ne (fun q => hm q.symm), if_neg (fun q => hm (by rw [q]))]
    · rw [List.getElem?_set_ne (fun q => hd q.symm), if_neg (fun q => hd (by rw [q]))]
def wk_fN {β : Type} (n : Nat) (k : Nat → β) : β := match n with
  | 0 => k 0
  | m + 1 => k (m + 1)
theorem wk_fN_eq {β : Type} (n : Nat) (k : Nat → β) : wk_fN n k = k n := by cases n <;> rfl
def wk_fI {β : Type} (x : Int) (k : Int → β) : β := match x with
  | .ofNat n => wk_fN n (fun n => k (.ofNat n))
  | .negSucc n => wk_fN n (fun n => k (.negSucc n))
theorem wk_fI_eq {β : Type} (x : Int) (k : Int → β) : wk_fI x k = k x := by cases x <;> simp [wk_fI, wk_fN_eq]
def wk_fV {β : Type} (v : wk_V) (k : wk_V → β) : β := match v with
  | .inl (a, b) => wk_fI a (fun a => wk_fI b (fun b => k (.inl (a, b))))
  | .inr (.inl (a, b)) => wk_fI a (fun a => wk_fI b (fun b => k (.inr (.inl (a, b)))))
  | .inr (.inr (.inl none)) => k (.inr (.inr (.inl none)))
  | .inr (.inr (.inl (some n))) => wk_fN n (fun n => k (.inr (.inr (.inl (some n)))))
  | .inr (.inr (.inr (t, i))) => k (.inr (.inr (.inr (t, i))))
theorem wk_fV_eq {β : Type} (v : wk_V) (k : wk_V → β) : wk_fV v k = k v := by
  rcases v with ⟨a, b⟩ | ⟨a, b⟩ | (_ | n) | ⟨t, i⟩ <;> simp [wk_fV, wk_fI_eq, wk_fN_eq]
def wk_fS {β : Type} (l : List wk_V) (k : List wk_V → β) : β := match l with
  | [] => k []
  | v :: r => wk_fV v (fun v => k (v :: r))
theorem wk_fS_eq {β : Type} (l : List wk_V) (k : List wk_V → β) : wk_fS l k = k l := by cases l <;> simp [wk_fS, wk_fV_eq]
def wk_fA {β : Type} (l : wk_L) (k : wk_L → β) : β := match l with
  | [] => k []
  | (i, v) :: r => wk_fV v (fun v => k ((i, v) :: r))
theorem wk_fA_eq {β : Type} (l : wk_L) (k : wk_L → β) : wk_fA l k = k l := by
  rcases l with _ | ⟨⟨i, v⟩, r⟩ <;> simp [wk_fA, wk_fV_eq]
/-- the box: bounds of an int, of a long -/
def wk_gi (iv : wk_I) (v : wk_V) : Option (Int × Int) := match v with
  | .inl p => some p
  | .inr (.inr (.inr (0, i))) => wk_at iv i
  | _ => none
def wk_gj (iv : wk_I) (v : wk_V) : Option (Int × Int) := match v with
  | .inr (.inl p) => some p
  | .inr (.inr (.inr (1, i))) => wk_at iv i
  | _ => none
def wk_tI : wk_V := .inl (-2147483648, 2147483647)
def wk_tJ : wk_V := .inr (.inl (-9223372036854775808, 9223372036854775807))
def wk_sI (x : Int32) : wk_V := .inl (x.toInt, x.toInt)
def wk_sJ (x : Int64) : wk_V := .inr (.inl (x.toInt, x.toInt))
/-- an operation on two ints, two longs, a long and an int: done on numbers, else anything -/
def wk_o2 (iv : wk_I) (F : Int32 → Int32 → Int32) (v w : wk_V) : Option wk_V := match wk_gi iv v, wk_gi iv w with
  | some p, some q => some (if p.1 = p.2 ∧ q.1 = q.2 then wk_sI (F (Int32.ofInt p.1) (Int32.ofInt q.1)) else wk_tI)
  | _, _ => none
def wk_o2j (iv : wk_I) (F : Int64 → Int64 → Int64) (v w : wk_V) : Option wk_V := match wk_gj iv v, wk_gj iv w with
  | some p, some q => some (if p.1 = p.2 ∧ q.1 = q.2 then wk_sJ (F (Int64.ofInt p.1) (Int64.ofInt q.1)) else wk_tJ)
  | _, _ => none
def wk_o2s (iv : wk_I) (F : Int64 → Int32 → Int64) (v w : wk_V) : Option wk_V := match wk_gj iv v, wk_gi iv w with
  | some p, some q => some (if p.1 = p.2 ∧ q.1 = q.2 then wk_sJ (F (Int64.ofInt p.1) (Int32.ofInt q.1)) else wk_tJ)
  | _, _ => none
def wk_d2 (iv : wk_I) (F : Int32 → Int32 → Int32) (v w : wk_V) : Option wk_V := match wk_gi iv v, wk_gi iv w with
  | some p, some q => if p.1 = p.2 ∧ q.1 = q.2 ∧ ¬ Int32.ofInt q.1 = 0 then some (wk_sI (F (Int32.ofInt p.1) (Int32.ofInt q.1))) else none
  | _, _ => none
def wk_d2j (iv : wk_I) (F : Int64 → Int64 → Int64) (v w : wk_V) : Option wk_V := match wk_gj iv v, wk_gj iv w with
  | some p, some q => if p.1 = p.2 ∧ q.1 = q.2 ∧ ¬ Int64.ofInt q.1 = 0 then some (wk_sJ (F (Int64.ofInt p.1) (Int64.ofInt q.1))) else none
  | _, _ => none
def wk_lc (iv : wk_I) (v w : wk_V) : Option wk_V := match wk_gj iv v, wk_gj iv w with
  | some p, some q => if q.2 < p.1 then some (.inl (1, 1)) else if p.2 < q.1 then some (.inl (-1, -1)) else if p.1 = p.2 ∧ q.1 = q.2 then some (.inl (0, 0)) else none
  | _, _ => none
def wk_lt (p q : Int × Int) : Option Bool := if p.2 < q.1 then some true else if q.2 ≤ p.1 then some false else none
def wk_eq (p q : Int × Int) : Option Bool := if p.1 = p.2 ∧ q.1 = q.2 ∧ p.1 = q.1 then some true else if p.2 < q.1 ∨ q.2 < p.1 then some false else none
def wk_cnd (c : ClassFile.Cond) (p q : Int × Int) : Option Bool := match c with
  | .eq => wk_eq p q
  | .ne => (wk_eq p q).map (fun r => !r)
  | .lt => wk_lt p q
  | .ge => (wk_lt p q).map (fun r => !r)
  | .gt => wk_lt q p
  | .le => (wk_lt q p).map (fun r => !r)
def wk_holds (c : ClassFile.Cond) (x y : Int32) : Prop := match c with
  | .eq => x = y
  | .ne => ¬ x = y
  | .lt => x < y
  | .ge => y ≤ x
  | .gt => y < x
  | .le => x ≤ y
def wk_to (pc : Nat) (off : Int) : Option Nat := match (pc : Int) + off with
  | .ofNat t => some t
  | _ => none
def wk_br (c : ClassFile.Cond) (pc : Nat) (off : Int) (p q : Option (Int × Int)) : Option Nat := match p, q, wk_to pc off with
  | some p, some q, some t => (wk_cnd c p q).map fun b => if b then t else pc + 3
  | _, _, _ => none
def wk_c1 : wk_V → Bool
  | .inl _ => true
  | .inr (.inr (.inl _)) => true
  | .inr (.inr (.inr (1, _))) => false
  | .inr (.inr (.inr _)) => true
  | _ => false
def wk_c2 : wk_V → Bool
  | .inr (.inl _) => true
  | .inr (.inr (.inr (1, _))) => true
  | _ => false
def wk_isr : wk_V → Bool
  | .inr (.inr (.inl (some _))) => true
  | .inr (.inr (.inr (_ + 2, _))) => true
  | _ => false
def wk_get : wk_L → Nat → Option wk_V
  | [], _ => none
  | (j, v) :: l, i => if Nat.beq j i then some v else wk_get l i
def wk_st1 (AL : wk_L) (i : Nat) (v : wk_V) : wk_L := (i, v) :: AL.filter (fun q => !(q.1 == i) && !(q.1 + 1 == i && wk_c2 q.2))
def wk_st2 (AL : wk_L) (i : Nat) (v : wk_V) : wk_L := (i, v) :: AL.filter (fun q => !(q.1 == i) && (!(q.1 == i + 1) && !(q.1 + 1 == i && wk_c2 q.2)))
/-- '& 63' of the variable 0 is the variable 5 -/
def wk_an (iv : wk_I) (v w : wk_V) : Option wk_V := match v, w with
  | .inl (63, 63), .inr (.inr (.inr (0, 0))) => some (.inr (.inr (.inr (0, 5))))
  | v, w => wk_o2 iv (fun a b => a &&& b) w v
def wk_il (iv : wk_I) (v : wk_V) : Option wk_V := match v with
  | .inr (.inr (.inr (0, i))) => some (.inr (.inr (.inr (1, i))))
  | v => (wk_gi iv v).map fun p => .inr (.inl p)
abbrev wk_P : Type := Nat × wk_L × List wk_V
/-- the instructions that leave the heap alone -/
def wk_pure (iv : wk_I) (nL : Nat) (i : Instr) (x : Int) (pc : Nat) (AL : wk_L) (AS : List wk_V) : Option wk_P :=
  match i, AS with
  | .iconst n, AS => some (pc + 1, AL, wk_sI (Int32.ofInt n) :: AS)
  | .bipush n, AS => some (pc + 2, AL, wk_sI (Int8.ofInt n).toInt32 :: AS)
  | .sipush n, AS => some (pc + 3, AL, wk_sI (Int16.ofInt n).toInt32 :: AS)
  | .lconst n, AS => some (pc + 1, AL, wk_sJ (Int64.ofNat n.val) :: AS)
  | .ldc _, AS => some (pc + 2, AL, wk_sI (Int32.ofInt x) :: AS)
  | .ldc_w _, AS => some (pc + 3, AL, wk_sI (Int32.ofInt x) :: AS)
  | .ldc2_w _, AS => some (pc + 3, AL, wk_sJ (Int64.ofInt x) :: AS)
  | .iload_n k, AS => (wk_get AL k.val).bind fun v => if (wk_gi iv v).isSome then some (pc + 1, AL, v :: AS) else none
  | .iload k, AS => (wk_get AL k).bind fun v => if (wk_gi iv v).isSome then some (pc + 2, AL, v :: AS) else none
  | .lload_n k, AS => (wk_get AL k.val).bind fun v => if (wk_gj iv v).isSome then some (pc + 1, AL, v :: AS) else none
  | .lload k, AS => (wk_get AL k).bind fun v => if (wk_gj iv v).isSome then some (pc + 2, AL, v :: AS) else none
  | .aload_n k, AS => (wk_get AL k.val).bind fun v => if wk_isr v then some (pc + 1, AL, v :: AS) else none
  | .aload k, AS => (wk_get AL k).bind fun v => if wk_isr v then some (pc + 2, AL, v :: AS) else none
  | .istore_n k, v :: AS => if (wk_gi iv v).isSome ∧ k.val < nL then some (pc + 1, wk_st1 AL k.val v, AS) else none
  | .istore k, v :: AS => if (wk_gi iv v).isSome ∧ k < nL then some (pc + 2, wk_st1 AL k v, AS) else none
  | .lstore_n k, v :: AS => if (wk_gj iv v).isSome ∧ k.val + 1 < nL then some (pc + 1, wk_st2 AL k.val v, AS) else none
  | .lstore k, v :: AS => if (wk_gj iv v).isSome ∧ k + 1 < nL then some (pc + 2, wk_st2 AL k v, AS) else none
  | .astore_n k, v :: AS => if wk_isr v ∧ k.val < nL then some (pc + 1, wk_st1 AL k.val v, AS) else none
  | .astore k, v :: AS => if wk_isr v ∧ k < nL then some (pc + 2, wk_st1 AL k v, AS) else none
  | .iinc k n, AS => (wk_get AL k).bind fun v => (wk_o2 iv (fun a b => a + b) v (wk_sI (Int32.ofInt n))).bind fun w => if k < nL then some (pc + 3, wk_st1 AL k w, AS) else none
  | .goto off, AS => (wk_to pc off).map fun t => (t, AL, AS)
  | .ifCond c off, v :: AS => (wk_br c pc off (wk_gi iv v) (some (0, 0))).map fun t => (t, AL, AS)
  | .if_icmp c off, v :: w :: AS => (wk_br c pc off (wk_gi iv w) (wk_gi iv v)).map fun t => (t, AL, AS)
  | .iadd, v :: w :: AS => (wk_o2 iv (fun a b => a + b) w v).map fun x => (pc + 1, AL, x :: AS)
  | .isub, v :: w :: AS => (wk_o2 iv (fun a b => a - b) w v).map fun x => (pc + 1, AL, x :: AS)
  | .imul, v :: w :: AS => (wk_o2 iv (fun a b => a * b) w v).map fun x => (pc + 1, AL, x :: AS)
  | .iand, v :: w :: AS => (wk_an iv v w).map fun x => (pc + 1, AL, x :: AS)
  | .ior, v :: w :: AS => (wk_o2 iv (fun a b => a ||| b) w v).map fun x => (pc + 1, AL, x :: AS)
  | .ixor, v :: w :: AS => (wk_o2 iv (fun a b => a ^^^ b) w v).map fun x => (pc + 1, AL, x :: AS)
  | .ishl, v :: w :: AS => (wk_o2 iv (fun a b => a <<< (b &&& 31)) w v).map fun x => (pc + 1, AL, x :: AS)
  | .ishr, v :: w :: AS => (wk_o2 iv (fun a b => a >>> (b &&& 31)) w v).map fun x => (pc + 1, AL, x :: AS)
  | .idiv, v :: w :: AS => (wk_d2 iv (fun a b => a / b) w v).map fun x => (pc + 1, AL, x :: AS)
  | .irem, v :: w :: AS => (wk_d2 iv (fun a b => a - a / b * b) w v).map fun x => (pc + 1, AL, x :: AS)
  | .ladd, v :: w :: AS => (wk_o2j iv (fun a b => a + b) w v).map fun x => (pc + 1, AL, x :: AS)
  | .lsub, v :: w :: AS => (wk_o2j iv (fun a b => a - b) w v).map fun x => (pc + 1, AL, x :: AS)
  | .lmul, v :: w :: AS => (wk_o2j iv (fun a b => a * b) w v).map fun x => (pc + 1, AL, x :: AS)
  | .land, v :: w :: AS => (wk_o2j iv (fun a b => a &&& b) w v).map fun x => (pc + 1, AL, x :: AS)
  | .lor, v :: w :: AS => (wk_o2j iv (fun a b => a ||| b) w v).map fun x => (pc + 1, AL, x :: AS)
  | .ldiv, v :: w :: AS => (wk_d2j iv (fun a b => a / b) w v).map fun x => (pc + 1, AL, x :: AS)
  | .lrem, v :: w :: AS => (wk_d2j iv (fun a b => a - a / b * b) w v).map fun x => (pc + 1, AL, x :: AS)
  | .lshl, v :: w :: AS => (wk_o2s iv (fun a b => a <<< (b.toInt64 &&& 63)) w v).map fun x => (pc + 1, AL, x :: AS)
  | .lshr, v :: w :: AS => (wk_o2s iv (fun a b => a >>> (b.toInt64 &&& 63)) w v).map fun x => (pc + 1, AL, x :: AS)
  | .lushr, v :: w :: AS => (wk_o2s iv (fun a b => (a.toUInt64 >>> (b.toInt64.toUInt64 &&& Int64.toUInt64 63)).toInt64) w v).map fun x => (pc + 1, AL, x :: AS)
  | .lcmp, v :: w :: AS => (wk_lc iv w v).map fun x => (pc + 1, AL, x :: AS)
  | .ineg, v :: AS => (wk_o2 iv (fun a _ => -a) v (.inl (0, 0))).map fun x => (pc + 1, AL, x :: AS)
  | .i2l, v :: AS => (wk_il iv v).map fun x => (pc + 1, AL, x :: AS)
  | .l2i, v :: AS => (wk_gj iv v).map fun p => (pc + 1, AL, (if p.1 = p.2 then wk_sI (Int64.ofInt p.1).toInt32 else wk_tI) :: AS)
  | .dup, v :: AS => if wk_c1 v then some (pc + 1, AL, v :: v :: AS) else none
  | .dup_x1, v :: w :: AS => if wk_c1 v ∧ wk_c1 w then some (pc + 1, AL, v :: w :: v :: AS) else none
  | .dup2, v :: w :: AS => if wk_c1 v ∧ wk_c1 w then some (pc + 1, AL, v :: w :: v :: w :: AS) else none
  | .pop, v :: AS => if wk_c1 v then some (pc + 1, AL, AS) else none
  | .tableswitch d lo hi offs, v :: AS => (wk_gi iv v).bind fun p => if p.1 = p.2 then (if p.1 < lo ∨ hi < p.1 then (wk_to pc d).map fun t => (t, AL, AS) else (offs[(p.1 - lo).toNat]?.bind fun o => wk_to pc o).map fun t => (t, AL, AS)) else if p.2 < lo ∨ hi < p.1 then (wk_to pc d).map fun t => (t, AL, AS) else none
  | _, _ => none
/-- an index, a length -/
def wk_nx (iv : wk_I) (v : wk_V) : Option Nat := match wk_gi iv v with
  | some (.ofNat a, .ofNat b) => if Nat.beq a b then some a else none
  | _ => none
/-- a cell of which something is known ((1000, _): of that one nothing is) -/
def wk_kn (c : wk_C) : Bool := match c with
  | .inl _ => true
  | .inr (ci, _) => bif Nat.beq ci 1000 then false else true
def wk_cell (AH : wk_A) (k : Nat) : Option wk_C := bif Nat.blt k AH.1 then (match wk_at2 AH.2 k with
  | some c => bif wk_kn c then some c else none
  | none => none) else none
def wk_obj (AH : wk_A) (v : wk_V) : Option (Nat × Nat × List wk_V) := match v with
  | .inr (.inr (.inl (some k))) => match wk_cell AH k with
    | some (.inr (ci, fs)) => some (k, ci, fs)
    | _ => none
  | _ => none
def wk_ary (AH : wk_A) (v : wk_V) : Option (Nat × Nat × Nat × List (List wk_V)) := match v with
  | .inr (.inr (.inl (some k))) => match wk_cell AH k with
    | some (.inl (t, n, vs)) => some (k, t, n, vs)
    | _ => none
  | _ => none
def wk_scr (v : wk_V) : Bool := match v with
  | .inr (.inr (.inr (2, _))) => true
  | _ => false
/-- an array's kinds -/
def wk_ty : Nat → FieldType
  | 0 => .int
  | 1 => .boolean
  | 2 => .array .int
  | _ => .object "EvenSides$Told"
/-- may the value be put into a field of that kind -/
def wk_fit (iv : wk_I) (n : Nat) (v : wk_V) : Bool := match n with
  | 0 => (wk_gi iv v).isSome
  | 1 => match wk_gi iv v with
    | some (a, b) => decide (0 ≤ a) && decide (b ≤ 1)
    | none => false
  | 2 => (wk_gj iv v).isSome
  | 3 => match v with
    | .inr (.inr (.inl _)) => true
    | _ => false
  | _ => false
/-- the fields of a new object -/
def wk_zs : List (List wk_V) := wk_fc.map fun r => r.map fun n => match n with
  | 0 => .inl (0, 0)
  | 1 => .inl (0, 0)
  | 2 => .inr (.inl (0, 0))
  | _ => .inr (.inr (.inl none))
/-- what an instruction does to the heap: how far it goes, the stack, a cell written, cells made, how many, their slots -/
abbrev wk_H : Type := Nat × List wk_V × Option (Nat × wk_C) × List wk_C × Nat × Nat
def wk_h1 (d : Nat) (AS : List wk_V) : Option wk_H := some (d, AS, none, [], 0, 0)
def wk_hw (d : Nat) (AS : List wk_V) (k : Nat) (c : wk_C) : Option wk_H := some (d, AS, some (k, c), [], 0, 0)
def wk_getf (x : Nat × Nat × Int) (v : wk_V) (AS : List wk_V) (AH : wk_A) : Option wk_H := match wk_obj AH v with
  | some (_, ci, fs) => bif Nat.beq ci x.1 then (match wk_at fs x.2.1 with
    | some w => wk_h1 3 (w :: AS)
    | none => none) else none
  | none => none
def wk_putf (iv : wk_I) (x : Nat × Nat × Int) (w v : wk_V) (AS : List wk_V) (AH : wk_A) : Option wk_H := match wk_obj AH v with
  | some (k, ci, fs) => bif Nat.beq ci x.1 && ((wk_at fs x.2.1).isSome && wk_fit iv x.2.2.toNat w) then wk_put fs x.2.1 w (fun fs => wk_hw 3 AS k (.inr (ci, fs))) else none
  | none => none
def wk_ild (Lz : Nat) (iv : wk_I) (v a : wk_V) (AS : List wk_V) (AH : wk_A) : Option wk_H := match wk_nx iv v with
  | some j => bif wk_scr a then (bif Nat.blt j Lz then wk_h1 1 (.inr (.inr (.inr (0, j))) :: AS) else none) else match wk_ary AH a with
    | some (_, t, n, vs) => bif Nat.beq t 0 && Nat.blt j n then (match wk_at2 vs j with
      | some w => wk_h1 1 (w :: AS)
      | none => none) else none
    | none => none
  | none => none
def wk_bld (iv : wk_I) (v a : wk_V) (AS : List wk_V) (AH : wk_A) : Option wk_H := match wk_nx iv v, wk_ary AH a with
  | some j, some (_, t, n, vs) => bif Nat.beq t 1 && Nat.blt j n then (match wk_at2 vs j with
    | some w => wk_h1 1 (w :: AS)
    | none => none) else none
  | _, _ => none
def wk_ald (iv : wk_I) (v a : wk_V) (AS : List wk_V) (AH : wk_A) : Option wk_H := match wk_nx iv v, wk_ary AH a with
  | some j, some (_, t, n, vs) => bif Nat.ble 2 t && Nat.blt j n then (match wk_at2 vs j with
    | some w => wk_h1 1 (w :: AS)
    | none => none) else none
  | _, _ => none
def wk_ist (iv : wk_I) (w v a : wk_V) (AS : List wk_V) (AH : wk_A) : Option wk_H := match wk_nx iv v, wk_ary AH a with
  | some j, some (k, t, n, vs) => bif Nat.beq t 0 && (Nat.blt j n && ((wk_at2 vs j).isSome && (wk_gi iv w).isSome)) then wk_put2 vs j w (fun vs => wk_hw 1 AS k (.inl (t, n, vs))) else none
  | _, _ => none
def wk_bst (iv : wk_I) (w v a : wk_V) (AS : List wk_V) (AH : wk_A) : Option wk_H := match wk_nx iv v, wk_ary AH a with
  | some j, some (k, t, n, vs) => bif Nat.beq t 1 && (Nat.blt j n && ((wk_at2 vs j).isSome && wk_fit iv 1 w)) then wk_put2 vs j w (fun vs => wk_hw 1 AS k (.inl (t, n, vs))) else none
  | _, _ => none
def wk_ast (iv : wk_I) (w v a : wk_V) (AS : List wk_V) (AH : wk_A) : Option wk_H := match wk_nx iv v, wk_ary AH a, wk_obj AH w with
  | some j, some (k, t, n, vs), some (_, ci, _) => bif Nat.beq t 3 && (Nat.beq ci 7 && (Nat.blt j n && (wk_at2 vs j).isSome)) then wk_put2 vs j w (fun vs => wk_hw 1 AS k (.inl (t, n, vs))) else none
  | _, _, _ => none
def wk_aln (Lz : Nat) (a : wk_V) (AS : List wk_V) (AH : wk_A) : Option wk_H := bif wk_scr a then wk_h1 1 (wk_sI (Int32.ofNat Lz) :: AS) else match wk_ary AH a with
  | some (_, _, n, _) => wk_h1 1 (wk_sI (Int32.ofNat n) :: AS)
  | none => none
def wk_new (x : Nat × Nat × Int) (AS : List wk_V) (AH : wk_A) : Option wk_H := match wk_at wk_zs x.1 with
  | some fs => some (3, .inr (.inr (.inl (some AH.1))) :: AS, none, [.inr (x.1, fs)], 1, fs.length)
  | none => none
/-- the contents of a new array -/
def wk_rep (n : Nat) (v : wk_V) : List (List wk_V) := List.replicate (n / 32 + 1) (List.replicate 32 v)
def wk_nwa (iv : wk_I) (ty : ArrayType) (v : wk_V) (AS : List wk_V) (AH : wk_A) : Option wk_H := match wk_nx iv v, ty with
  | some n, .int => bif Nat.ble n 100000 then some (2, .inr (.inr (.inl (some AH.1))) :: AS, none, [.inl (0, n, wk_rep n (.inl (0, 0)))], 1, n) else none
  | some n, .boolean => bif Nat.ble n 100000 then some (2, .inr (.inr (.inl (some AH.1))) :: AS, none, [.inl (1, n, wk_rep n (.inl (0, 0)))], 1, n) else none
  | _, _ => none
def wk_nwq (iv : wk_I) (v : wk_V) (AS : List wk_V) (AH : wk_A) : Option wk_H := match wk_nx iv v with
  | some n => bif Nat.ble n 100000 then some (3, .inr (.inr (.inl (some AH.1))) :: AS, none, [.inl (3, n, wk_rep n (.inr (.inr (.inl none))))], 1, n) else none
  | none => none
/-- the numbers of cells in a row, in rows of 32 -/
def wk_refs (b n : Nat) : List (List wk_V) := (List.range (n / 32 + 1)).map fun c => (List.range 32).map fun j => .inr (.inr (.inl (some (b + (32 * c + j)))))
def wk_mna (iv : wk_I) (v w : wk_V) (AS : List wk_V) (AH : wk_A) : Option wk_H := match wk_nx iv v, wk_nx iv w with
  | some k, some n => bif Nat.ble k 10000 && Nat.ble n 10000 then some (4, .inr (.inr (.inl (some AH.1))) :: AS, none, .inl (2, n, wk_refs (AH.1 + 1) n) :: List.replicate n (.inl (0, k, wk_rep k (.inl (0, 0)))), 1 + n, n + n * k) else none
  | _, _ => none
def wk_heap (Lz : Nat) (iv : wk_I) (i : Instr) (x : Nat × Nat × Int) (AS : List wk_V) (AH : wk_A) : Option wk_H :=
  match i, AS with
  | .getfield _, v :: AS => wk_getf x v AS AH
  | .putfield _, w :: v :: AS => wk_putf iv x w v AS AH
  | .iaload, v :: a :: AS => wk_ild Lz iv v a AS AH
  | .baload, v :: a :: AS => wk_bld iv v a AS AH
  | .aaload, v :: a :: AS => wk_ald iv v a AS AH
  | .iastore, w :: v :: a :: AS => wk_ist iv w v a AS AH
  | .bastore, w :: v :: a :: AS => wk_bst iv w v a AS AH
  | .aastore, w :: v :: a :: AS => wk_ast iv w v a AS AH
  | .arraylength, a :: AS => wk_aln Lz a AS AH
  | .new _, AS => wk_new x AS AH
  | .newarray ty, v :: AS => wk_nwa iv ty v AS AH
  | .anewarray _, v :: AS => wk_nwq iv v AS AH
  | .multianewarray _ 2, v :: w :: AS => wk_mna iv v w AS AH
  | _, _ => none
/-- a variable is to be cut into pieces -/
def wk_cv (lo hi : Int) : List (Int × Int) → Bool
  | [] => decide (hi < lo)
  | (a, b) :: r => decide (a ≤ lo) && (decide (hi ≤ b) || wk_cv (b + 1) hi r)
def wk_small (iv : wk_I) (v : wk_V) : Option (Nat × List (Int × Int)) := match v with
  | .inr (.inr (.inr (0, i))) => match wk_at iv i with
    | some (lo, hi) => if lo < hi ∧ hi ≤ lo + 16 then some (i, (List.range ((hi - lo).toNat + 1)).map fun k => (lo + (Int.ofNat k), lo + Int.ofNat k)) else none
    | none => none
  | _ => none
def wk_pcs (iv : wk_I) (v : wk_V) (q : Option (Int × Int)) : Option (Nat × List (Int × Int)) := match v, q with
  | .inr (.inr (.inr (t, i))), some (cl, ch) => if Nat.ble t 1 && decide (cl = ch) then match wk_at iv i with
      | some (lo, hi) => some (i, ((if lo < cl then [(lo, cl - 1)] else []) ++ (if lo ≤ cl ∧ cl ≤ hi then [(cl, cl)] else []) ++ (if cl < hi then [(cl + 1, hi)] else [])))
      | none => none
    else none
  | _, _ => none
/-- the pieces at a switch -/
def wk_psw (iv : wk_I) (v : wk_V) (lo hi : Int) : Option (Nat × List (Int × Int)) := match v with
  | .inr (.inr (.inr (0, i))) => match wk_at iv i with
    | some (a, b) => some (i, ((if a < lo then [(a, lo - 1)] else []) ++ ((List.range ((hi - lo).toNat + 1)).map fun k => (lo + Int.ofNat k, lo + Int.ofNat k)).filter (fun q => decide (a ≤ q.1) && decide (q.1 ≤ b)) ++ (if hi < b then [(if a ≤ hi then hi + 1 else a, b)] else [])))
    | none => none
  | _ => none
def wk_or {α : Type} (a b : Option α) : Option α := match a with
  | some x => some x
  | none => b
/-- where arithmetic wants a number; where a comparison isn't decided -/
def wk_need (iv : wk_I) (i : Instr) (AS : List wk_V) : Option (Nat × List (Int × Int)) := match i, AS with
  | .iadd, v :: w :: _ | .isub, v :: w :: _ | .imul, v :: w :: _ | .ishl, v :: w :: _ | .ishr, v :: w :: _ | .iand, v :: w :: _ | .ior, v :: w :: _ => wk_or (wk_small iv v) (wk_small iv w)
  | .iaload, v :: _ | .baload, v :: _ | .aaload, v :: _ => wk_small iv v
  | .iastore, _ :: v :: _ | .bastore, _ :: v :: _ | .aastore, _ :: v :: _ => wk_small iv v
  | _, _ => none
def wk_undec (iv : wk_I) (i : Instr) (AS : List wk_V) : Option (Nat × List (Int × Int)) := match i, AS with
  | .ifCond _ _, v :: _ => wk_pcs iv v (some (0, 0))
  | .if_icmp _ _, v :: w :: _ => wk_or (wk_pcs iv w (wk_gi iv v)) (wk_pcs iv v (wk_gi iv w))
  | .lcmp, v :: w :: _ => wk_or (wk_pcs iv w (wk_gj iv v)) (wk_pcs iv v (wk_gj iv w))
  | .tableswitch _ lo hi _, v :: _ => wk_psw iv v lo hi
  | _, _ => none
/-- a way's end: the box, what is returned, the heap, the cells written -/
abbrev wk_F : Type := wk_I × Option wk_V × wk_A × List Nat
def wk_app {α : Type} (a b : Option (List α)) : Option (List α) := match a with
  | some x => match b with
    | some y => some (x ++ y)
    | none => none
  | none => none
def wk_cat : List wk_V → Nat
  | [] => 0
  | v :: l => (if wk_c2 v then 2 else 1) + wk_cat l
def wk_fetch (M : wk_M) (pc : Nat) : Option wk_X := match wk_at (wk_Mx M) (pc / 16) with
  | some r => r.find? (fun x => Nat.beq x.1 pc)
  | none => none
/-- what is returned -/
def wk_ret (iv : wk_I) (M : wk_M) (i : Instr) (AS : List wk_V) : Option (Option wk_V) := match i, wk_Mr M, AS with
  | .return_, none, [] => some none
  | .ireturn, some .int, [v] => if (wk_gi iv v).isSome then some (some v) else none
  | .ireturn, some .boolean, [v] => if wk_fit iv 1 v then some (some v) else none
  | .lreturn, some .long, [v] => if (wk_gj iv v).isSome then some (some v) else none
  | _, _, _ => none
/-- the arguments of a call: n of them, first first, and the rest of the stack -/
def wk_take : Nat → List wk_V → List wk_V → Option (List wk_V × List wk_V)
  | 0, AS, acc => some (acc, AS)
  | n + 1, v :: AS, acc => wk_take n AS (v :: acc)
  | _ + 1, [], _ => none
/-- how a call is made: 0 virtual, 1 static, 2 a constructor, 3 a nest mate's static, 4 Object's constructor, 5 arraycopy -/
def wk_argn (kd n : Nat) : Nat := match kd with
  | 0 => n + 1
  | 2 => n + 1
  | _ => n
/-- arraycopy of a whole row -/
def wk_copy (iv : wk_I) (AS : List wk_V) (AH : wk_A) : Option wk_H := match AS with
  | n :: dp :: b :: sp :: a :: AS => match wk_nx iv n, wk_nx iv dp, wk_ary AH b, wk_nx iv sp, wk_ary AH a with
    | some n, some dp, some (k, t, nb, _), some sp, some (_, t2, na, vs) => bif Nat.beq t 0 && (Nat.beq t2 0 && (Nat.beq sp 0 && (Nat.beq dp 0 && (Nat.beq n na && (Nat.beq n nb && Nat.ble (wk_cat AS) 8))))) then wk_hw 3 AS k (.inl (t, nb, vs)) else none
    | _, _, _, _, _ => none
  | _ => none
def wk_isI (i : Instr) (kd : Nat) : Bool := match i, kd with
  | .invokevirtual _, 0 => true
  | .invokestatic _, 1 => true
  | .invokespecial _, 2 => true
  | .invokestatic _, 3 => true
  | _, _ => false
/-- a call's start: the method, the arguments, the rest of the stack -/
def wk_call (mt : Nat → Option wk_M) (i : Instr) (x : Nat × Nat × Int) (AS : List wk_V) (AH : wk_A) : Option (wk_M × List wk_V × List wk_V) :=
  if wk_isI i x.1 then match mt x.2.1 with
    | some M => match wk_take (wk_argn x.1 (wk_Mn M)) AS [] with
      | some (av, r) => if Nat.ble (wk_cat r) 8 then (match x.1, av with
        | 0, v :: _ => match wk_obj AH v with
          | some (_, ci, _) => if Nat.beq ci (wk_Mc M) then some (M, av, r) else none
          | none => none
        | 0, [] => none
        | 2, v :: _ => if wk_isr v && !wk_scr v then some (M, av, r) else none
        | 2, [] => none
        | _, _ => some (M, av, r)) else none
      | none => none
    | none => none
  else none
def wk_oin (i : Instr) (x : Nat × Nat × Int) (AS : List wk_V) : Option wk_H := match i, x.1, AS with
  | .invokespecial _, 4, v :: AS => if wk_isr v && Nat.ble (wk_cat AS) 8 then wk_h1 3 AS else none
  | _, _, _ => none
def wk_isC (i : Instr) (x : Nat × Nat × Int) (AS : List wk_V) : Bool := match i, x.1 with
  | .invokestatic _, 5 => true
  | _, _ => false
/-- Math.min, Math.abs of ints -/
def wk_mth (iv : wk_I) (i : Instr) (x : Nat × Nat × Int) (AS : List wk_V) : Option wk_H := match i, x.1, AS with
  | .invokestatic _, 6, v :: w :: AS => (wk_o2 iv (fun a b => if b < a then b else a) w v).bind fun u => if Nat.ble (wk_cat AS) 8 then wk_h1 3 (u :: AS) else none
  | .invokestatic _, 8, v :: w :: AS => (wk_o2 iv (fun a b => if a < b then b else a) w v).bind fun u => if Nat.ble (wk_cat AS) 8 then wk_h1 3 (u :: AS) else none
  | .invokestatic _, 7, v :: AS => (wk_o2 iv (fun a _ => if 0 ≤ a then a else 0 - a) v (.inl (0, 0))).bind fun u => if Nat.ble (wk_cat AS) 8 then wk_h1 3 (u :: AS) else none
  | _, _, _ => none
/-- all that an instruction does to the heap alone -/
def wk_hp (Lz : Nat) (iv : wk_I) (i : Instr) (x : Nat × Nat × Int) (AS : List wk_V) (AH : wk_A) : Option wk_H :=
  if wk_isC i x AS then wk_copy iv AS AH else wk_or (wk_oin i x AS) (wk_or (wk_mth iv i x AS) (wk_heap Lz iv i x AS AH))
/-- cells put behind the others -/
def wk_push {β : Type} : List wk_C → wk_A → (wk_A → β) → β
  | [], AH, k => k AH
  | c :: l, AH, k => wk_fN AH.1 fun n => wk_put2 AH.2 n c (fun r => wk_push l (n + 1, r) k)
def wk_wr {β : Type} (AH : wk_A) (w : Option (Nat × wk_C)) (nw : List wk_C) (k : wk_A → β) : β := match w with
  | some (n, c) => wk_put2 AH.2 n c (fun r => k (AH.1, r))
  | none => wk_push nw AH k
def wk_room (AH : wk_A) : List wk_C → Nat → Bool
  | [], _ => true
  | _ :: l, n => (wk_at2 AH.2 n).isSome && wk_room AH l (n + 1)
def wk_st (iv : wk_I) (v : Option wk_V) (r : List wk_V) : List wk_V := match v with
  | some v => v :: r
  | none => r
/-- the list of locals, made at once -/
def wk_fLs {β : Type} : wk_L → (wk_L → β) → β
  | [], k => k []
  | q :: l, k => wk_fLs l (fun r => k (q :: r))
theorem wk_fLs_eq {β : Type} : ∀ (l : wk_L) (k : wk_L → β), wk_fLs l k = k l
  | [], _ => rfl
  | q :: l, k => by simp [wk_fLs, wk_fLs_eq l]
def wk_in32 (r : Int) : Bool := decide (-2147483648 ≤ r) && decide (r ≤ 2147483647)
def wk_q1 (r : Int) (pc : Nat) (AL : wk_L) (AS : List wk_V) : Option wk_P := bif wk_in32 r then some (pc + 1, AL, .inl (r, r) :: AS) else none
/-- the short ways: tags -/
def wk_qload (g : wk_V → Bool) (a : Nat) (d pc : Nat) (AL : wk_L) (AS : List wk_V) : Option wk_P := match wk_get AL a with
  | some v => bif g v then some (pc + d, AL, v :: AS) else none
  | none => none
def wk_gii (v : wk_V) : Bool := match v with
  | .inl _ => true
  | _ => false
def wk_gjj (v : wk_V) : Bool := match v with
  | .inr (.inl _) => true
  | _ => false
def wk_qsti (a d pc nL : Nat) (AL : wk_L) (AS : List wk_V) : Option wk_P := match AS with
  | v :: AS => bif wk_gii v && Nat.blt a nL then wk_fLs (wk_st1 AL a v) (fun AL => some (pc + d, AL, AS)) else none
  | [] => none
def wk_qsta (a d pc nL : Nat) (AL : wk_L) (AS : List wk_V) : Option wk_P := match AS with
  | v :: AS => bif wk_isr v && Nat.blt a nL then wk_fLs (wk_st1 AL a v) (fun AL => some (pc + d, AL, AS)) else none
  | [] => none
def wk_qinc (k : Nat) (a : Int) (pc nL : Nat) (AL : wk_L) (AS : List wk_V) : Option wk_P := match wk_get AL k with
  | some (.inl (p, q)) => bif decide (p = q) && (wk_in32 (p + a) && Nat.blt k nL) then wk_fI (p + a) (fun r => wk_fLs (wk_st1 AL k (.inl (r, r))) (fun AL => some (pc + 3, AL, AS))) else none
  | _ => none
def wk_qif (c : ClassFile.Cond) (t : Nat) (pc : Nat) (AL : wk_L) (AS : List wk_V) : Option wk_P := match AS with
  | .inl p :: AS => match wk_cnd c p (0, 0) with
    | some true => some (t, AL, AS)
    | some false => some (pc + 3, AL, AS)
    | none => none
  | _ => none
def wk_qic (c : ClassFile.Cond) (t : Nat) (pc : Nat) (AL : wk_L) (AS : List wk_V) : Option wk_P := match AS with
  | .inl q :: .inl p :: AS => match wk_cnd c p q with
    | some true => some (t, AL, AS)
    | some false => some (pc + 3, AL, AS)
    | none => none
  | _ => none
def wk_qar (F : Int → Int → Int) (pc : Nat) (AL : wk_L) (AS : List wk_V) : Option wk_P := match AS with
  | .inl (c, d) :: .inl (a, b) :: AS => bif decide (a = b) && decide (c = d) then wk_q1 (F a c) pc AL AS else none
  | _ => none
def wk_qil (pc : Nat) (AL : wk_L) (AS : List wk_V) : Option wk_P := match AS with
  | .inl p :: AS => some (pc + 1, AL, .inr (.inl p) :: AS)
  | .inr (.inr (.inr (0, i))) :: AS => some (pc + 1, AL, .inr (.inr (.inr (1, i))) :: AS)
  | _ => none
def wk_qlc (iv : wk_I) (pc : Nat) (AL : wk_L) (AS : List wk_V) : Option wk_P := match AS with
  | v :: w :: AS => match wk_lc iv w v with
    | some x => some (pc + 1, AL, x :: AS)
    | none => none
  | _ => none
def wk_qdup (pc : Nat) (AL : wk_L) (AS : List wk_V) : Option wk_P := match AS with
  | v :: AS => bif wk_c1 v then some (pc + 1, AL, v :: v :: AS) else none
  | _ => none
def wk_qdup2 (pc : Nat) (AL : wk_L) (AS : List wk_V) : Option wk_P := match AS with
  | v :: w :: AS => bif wk_c1 v && wk_c1 w then some (pc + 1, AL, v :: w :: v :: w :: AS) else none
  | _ => none
/-- tags 1 .. 31: k a place or a target, a a number, d the length -/
def wk_t1 (t k d : Nat) (a : Int) (iv : wk_I) (nL pc : Nat) (AL : wk_L) (AS : List wk_V) : Option wk_P :=
  bif Nat.beq t 1 then some (pc + d, AL, .inl (a, a) :: AS) else bif Nat.beq t 2 then wk_qload wk_gii k d pc AL AS else bif Nat.beq t 3 then wk_qload wk_isr k d pc AL AS else none
def wk_t2 (t k d : Nat) (a : Int) (iv : wk_I) (nL pc : Nat) (AL : wk_L) (AS : List wk_V) : Option wk_P :=
  bif Nat.beq t 4 then wk_qload wk_gjj k d pc AL AS else bif Nat.beq t 5 then wk_qsti k d pc nL AL AS else bif Nat.beq t 6 then wk_qsta k d pc nL AL AS else bif Nat.beq t 7 then wk_qinc k a pc nL AL AS else none
def wk_t3 (t k d : Nat) (a : Int) (iv : wk_I) (nL pc : Nat) (AL : wk_L) (AS : List wk_V) : Option wk_P :=
  bif Nat.beq t 8 then some (k, AL, AS) else bif Nat.beq t 9 then wk_qif .eq k pc AL AS else bif Nat.beq t 10 then wk_qif .ne k pc AL AS else bif Nat.beq t 11 then wk_qif .lt k pc AL AS else none
def wk_t4 (t k d : Nat) (a : Int) (iv : wk_I) (nL pc : Nat) (AL : wk_L) (AS : List wk_V) : Option wk_P :=
  bif Nat.beq t 12 then wk_qif .ge k pc AL AS else bif Nat.beq t 13 then wk_qif .gt k pc AL AS else bif Nat.beq t 14 then wk_qif .le k pc AL AS else bif Nat.beq t 15 then wk_qic .eq k pc AL AS else none
def wk_t5 (t k d : Nat) (a : Int) (iv : wk_I) (nL pc : Nat) (AL : wk_L) (AS : List wk_V) : Option wk_P :=
  bif Nat.beq t 16 then wk_qic .ne k pc AL AS else bif Nat.beq t 17 then wk_qic .lt k pc AL AS else bif Nat.beq t 18 then wk_qic .ge k pc AL AS else bif Nat.beq t 19 then wk_qic .gt k pc AL AS else none
def wk_t6 (t k d : Nat) (a : Int) (iv : wk_I) (nL pc : Nat) (AL : wk_L) (AS : List wk_V) : Option wk_P :=
  bif Nat.beq t 20 then wk_qic .le k pc AL AS else bif Nat.beq t 21 then wk_qar (fun x y => x + y) pc AL AS else bif Nat.beq t 22 then wk_qar (fun x y => x - y) pc AL AS else bif Nat.beq t 23 then wk_qar (fun x y => x * y) pc AL AS else none
def wk_t7 (t k d : Nat) (a : Int) (iv : wk_I) (nL pc : Nat) (AL : wk_L) (AS : List wk_V) : Option wk_P :=
  bif Nat.beq t 24 then wk_qil pc AL AS else bif Nat.beq t 25 then wk_qlc iv pc AL AS else bif Nat.beq t 26 then wk_qdup pc AL AS else bif Nat.beq t 27 then wk_qdup2 pc AL AS else none
def wk_t8 (t k d : Nat) (a : Int) (iv : wk_I) (nL pc : Nat) (AL : wk_L) (AS : List wk_V) : Option wk_P :=
  bif Nat.beq t 28 then some (pc + d, AL, .inr (.inl (a, a)) :: AS) else none
def wk_u1 (t k d : Nat) (a : Int) (iv : wk_I) (nL pc : Nat) (AL : wk_L) (AS : List wk_V) : Option wk_P := bif Nat.blt t 4 then wk_t1 t k d a iv nL pc AL AS else wk_t2 t k d a iv nL pc AL AS
def wk_u2 (t k d : Nat) (a : Int) (iv : wk_I) (nL pc : Nat) (AL : wk_L) (AS : List wk_V) : Option wk_P := bif Nat.blt t 12 then wk_t3 t k d a iv nL pc AL AS else wk_t4 t k d a iv nL pc AL AS
def wk_u3 (t k d : Nat) (a : Int) (iv : wk_I) (nL pc : Nat) (AL : wk_L) (AS : List wk_V) : Option wk_P := bif Nat.blt t 20 then wk_t5 t k d a iv nL pc AL AS else wk_t6 t k d a iv nL pc AL AS
def wk_u4 (t k d : Nat) (a : Int) (iv : wk_I) (nL pc : Nat) (AL : wk_L) (AS : List wk_V) : Option wk_P := bif Nat.blt t 28 then wk_t7 t k d a iv nL pc AL AS else wk_t8 t k d a iv nL pc AL AS
def wk_v1 (t k d : Nat) (a : Int) (iv : wk_I) (nL pc : Nat) (AL : wk_L) (AS : List wk_V) : Option wk_P := bif Nat.blt t 8 then wk_u1 t k d a iv nL pc AL AS else wk_u2 t k d a iv nL pc AL AS
def wk_v2 (t k d : Nat) (a : Int) (iv : wk_I) (nL pc : Nat) (AL : wk_L) (AS : List wk_V) : Option wk_P := bif Nat.blt t 24 then wk_u3 t k d a iv nL pc AL AS else wk_u4 t k d a iv nL pc AL AS
def wk_fast (t k d : Nat) (a : Int) (iv : wk_I) (nL pc : Nat) (AL : wk_L) (AS : List wk_V) : Option wk_P := bif Nat.blt t 16 then wk_v1 t k d a iv nL pc AL AS else bif Nat.blt t 32 then wk_v2 t k d a iv nL pc AL AS else none
/-- the heap's short ways: tags 32 .. 39 -/
def wk_z1 (t Lz : Nat) (iv : wk_I) (x : Nat × Nat × Int) (AS : List wk_V) (AH : wk_A) : Option wk_H := match AS with
  | v :: AS => bif Nat.beq t 32 then wk_getf x v AS AH else bif Nat.beq t 33 then wk_aln Lz v AS AH else none
  | [] => none
def wk_z2 (t Lz : Nat) (iv : wk_I) (x : Nat × Nat × Int) (AS : List wk_V) (AH : wk_A) : Option wk_H := match AS with
  | w :: v :: AS => bif Nat.beq t 34 then wk_putf iv x w v AS AH else bif wk_gii w then (bif Nat.beq t 35 then wk_ild Lz iv w v AS AH else bif Nat.beq t 36 then wk_ald iv w v AS AH else none) else none
  | _ => none
def wk_z3 (t Lz : Nat) (iv : wk_I) (x : Nat × Nat × Int) (AS : List wk_V) (AH : wk_A) : Option wk_H := match AS with
  | w :: v :: a :: AS => bif wk_gii v then (bif Nat.beq t 37 then wk_ist iv w v a AS AH else none) else none
  | _ => none
def wk_hfast (t Lz : Nat) (iv : wk_I) (x : Nat × Nat × Int) (AS : List wk_V) (AH : wk_A) : Option wk_H := bif Nat.blt t 34 then wk_z1 t Lz iv x AS AH else bif Nat.blt t 37 then wk_z2 t Lz iv x AS AH else bif Nat.blt t 40 then wk_z3 t Lz iv x AS AH else none
abbrev wk_K : Type := Nat → List wk_V → wk_I → wk_A → Option (List wk_F)
/-- the cells written: one more, some more -/
def wk_mem : List Nat → Nat → Bool
  | [], _ => false
  | a :: l, n => bif Nat.beq a n then true else wk_mem l n
def wk_ins {β : Type} (wr : List Nat) (n : Nat) (k : List Nat → β) : β := bif wk_mem wr n then k wr else k (n :: wr)
def wk_adw {β : Type} (wr : List Nat) (w : Option (Nat × wk_C)) (k : List Nat → β) : β := match w with
  | some (n, _) => wk_ins wr n k
  | none => k wr
def wk_uni {β : Type} : List Nat → List Nat → (List Nat → β) → β
  | [], wr, k => k wr
  | a :: l, wr, k => wk_ins wr a (fun wr => wk_uni l wr k)
/-- cells made or written, then on -/
def wk_hgo (M : wk_M) (k : Nat → List wk_V → wk_A → Nat → Nat → List Nat → Option (List wk_F)) (pc : Nat) (AH : wk_A) (nc ns : Nat) (wr : List Nat) (r : wk_H) : Option (List wk_F) := match r with
  | (d, AS', w, nw, dc, ds) => bif Nat.ble (nc + dc) (wk_Mk M) && (Nat.ble (ns + ds) (wk_Ms M) && wk_room AH nw AH.1) then wk_wr AH w nw (fun AH' => wk_adw wr w fun wr' => wk_fN (pc + d) fun pc' => wk_fS AS' fun AS' => wk_fN (nc + dc) fun nc' => wk_fN (ns + ds) fun ns' => k pc' AS' AH' nc' ns' wr') else none
/-- a variable cut into pieces -/
def wk_cutv (go : wk_I → Option (List wk_F)) (iv : wk_I) (q : Nat × List (Int × Int)) : Option (List wk_F) := match wk_at iv q.1 with
  | some (lo, hi) => bif wk_cv lo hi q.2 then q.2.foldr (fun p acc => wk_app (wk_put iv q.1 p go) acc) (some []) else none
  | none => none
/-- a call -/
def wk_cgo (M : wk_M) (call : wk_K) (go : wk_I → Nat → List wk_V → wk_A → Nat → Nat → List Nat → Option (List wk_F)) (iv : wk_I) (pc id : Nat) (AH : wk_A) (nc ns : Nat) (wr : List Nat) (q : wk_M × List wk_V × List wk_V) : Option (List wk_F) :=
  bif Nat.ble (nc + wk_Mk q.1) (wk_Mk M) && Nat.ble (ns + wk_Ms q.1) (wk_Ms M) then match call id q.2.1 iv AH with
    | some fs => wk_fN (pc + 3) fun pc' => wk_fN (nc + wk_Mk q.1) fun nc' => wk_fN (ns + wk_Ms q.1) fun ns' => fs.foldr (fun f acc => wk_app (wk_uni f.2.2.2 wr fun wr' => go f.1 pc' (wk_st f.1 f.2.1 q.2.2) f.2.2.1 nc' ns' wr') acc) (some [])
    | none => none
  else none
abbrev wk_G : Type := wk_I → Nat → wk_L → List wk_V → wk_A → Nat → Nat → List Nat → Option (List wk_F)
/-- the long way of an instruction -/
def wk_slow (mt : Nat → Option wk_M) (Lz : Nat) (M : wk_M) (call : wk_K) (go : wk_G) (i : Instr) (x : Nat × Nat × Int) (iv : wk_I) (pc : Nat) (AL : wk_L) (AS : List wk_V) (AH : wk_A) (nc ns : Nat) (wr : List Nat) : Option (List wk_F) :=
  match wk_need iv i AS with
  | some q => wk_cutv (fun iv => go iv pc AL AS AH nc ns wr) iv q
  | none => match wk_ret iv M i AS with
    | some r => some [(iv, r, AH, wr)]
    | none => match wk_pure iv (wk_Ml M) i x.2.2 pc AL AS with
      | some (pc', AL', AS') => wk_fN pc' fun pc' => wk_fLs AL' fun AL' => wk_fA AL' fun AL' => wk_fS AS' fun AS' => go iv pc' AL' AS' AH nc ns wr
      | none => match wk_hp Lz iv i x AS AH with
        | some r => wk_hgo M (fun pc AS AH nc ns wr => go iv pc AL AS AH nc ns wr) pc AH nc ns wr r
        | none => match wk_call mt i x AS AH with
          | some q => wk_cgo M call (fun iv pc AS AH nc ns wr => go iv pc AL AS AH nc ns wr) iv pc x.2.1 AH nc ns wr q
          | none => match wk_undec iv i AS with
            | some q => wk_cutv (fun iv => go iv pc AL AS AH nc ns wr) iv q
            | none => none
/-- one instruction -/
def wk_one (mt : Nat → Option wk_M) (Lz : Nat) (M : wk_M) (call : wk_K) (go : wk_G) (row : wk_X) (iv : wk_I) (pc : Nat) (AL : wk_L) (AS : List wk_V) (AH : wk_A) (nc ns : Nat) (wr : List Nat) : Option (List wk_F) :=
  match row with
  | (_, i, n, x, _, t, a) => match wk_fast t (bif Nat.beq t 7 then x.1 else a.toNat) n a iv (wk_Ml M) pc AL AS with
    | some (pc', AL', AS') => wk_fN pc' fun pc' => wk_fS AS' fun AS' => go iv pc' AL' AS' AH nc ns wr
    | none => match wk_hfast t Lz iv x AS AH with
      | some r => wk_hgo M (fun pc AS AH nc ns wr => go iv pc AL AS AH nc ns wr) pc AH nc ns wr r
      | none => wk_slow mt Lz M call go i x iv pc AL AS AH nc ns wr
abbrev wk_Cu : Type := wk_I → Nat → wk_L → List wk_V → wk_A → Nat → Nat → List Nat → Bool
/-- the run of a method's body: cut says where it stops, call what a callee does -/
noncomputable def wk_go (mt : Nat → Option wk_M) (Lz : Nat) (M : wk_M) (cut : wk_Cu) (call : wk_K) (fuel : Nat) : wk_G :=
  Nat.rec (fun _ _ _ _ _ _ _ _ => none) (fun _ go iv pc AL AS AH nc ns wr =>
    bif cut iv pc AL AS AH nc ns wr then some [] else match wk_fetch M pc with
      | none => none
      | some row => wk_one mt Lz M call go row iv pc AL AS AH nc ns wr) fuel
def wk_args : Nat → List wk_V → wk_L
  | _, [] => []
  | i, v :: vs => (i, v) :: wk_args (if wk_c2 v then i + 2 else i + 1) vs
/-- a method from its entry, its calls to a depth -/
noncomputable def wk_run (mt : Nat → Option wk_M) (Lz fuel : Nat) (d : Nat) : wk_K :=
  Nat.rec (fun _ _ _ _ => none) (fun _ run id av iv AH => match mt id with
    | some M => bif Nat.ble (wk_cat av) (wk_Ml M) then wk_go mt Lz M (fun _ _ _ _ _ _ _ _ => false) run fuel iv 0 (wk_args 0 av) [] AH 0 0 [] else none
    | none => none) d
end
section
-- 04.pure
/-! ===== what the engine's values mean; its steps that leave the heap alone ===== -/
def wk_r (as : List Nat) (z : Nat → Nat) (ρ : Nat → Int32) (v : wk_V) (x : Value) : Prop := match v with
  | .inl p => ∃ i : Int32, x = .int i ∧ p.1 ≤ i.toInt ∧ i.toInt ≤ p.2
  | .inr (.inl p) => ∃ i : Int64, x = .long i ∧ p.1 ≤ i.toInt ∧ i.toInt ≤ p.2
  | .inr (.inr (.inl none)) => x = .null
  | .inr (.inr (.inl (some k))) => ∃ a, as[k]? = some a ∧ x = .ref a
  | .inr (.inr (.inr (0, i))) => x = .int (ρ i)
  | .inr (.inr (.inr (1, i))) => x = .long (ρ i).toInt64
  | .inr (.inr (.inr (2, _))) => x = .ref (z 0)
  | .inr (.inr (.inr (_, i))) => x = .ref (z i)
def wk_bx (ρ : Nat → Int32) (iv : wk_I) : Prop := ∀ (i : Nat) (p : Int × Int), iv[i]? = some p → p.1 ≤ (ρ i).toInt ∧ (ρ i).toInt ≤ p.2
def wk_f2 {α β : Type} (R : α → β → Prop) : List α → List β → Prop
  | [], [] => True
  | a :: l, b :: m => R a b ∧ wk_f2 R l m
  | _, _ => False
theorem wk_no {α : Type} {P : Prop} {a : α} (h : (none : Option α) = some a) : P := by cases h
theorem wk_f2_nil {α β : Type} {R : α → β → Prop} {m : List β} (h : wk_f2 R [] m) : m = [] := by cases m <;> first | rfl | exact h.elim
theorem wk_f2_cons {α β : Type} {R : α → β → Prop} {a : α} {l : List α} {m : List β} (h : wk_f2 R (a :: l) m) : ∃ b m', m = b :: m' ∧ R a b ∧ wk_f2 R l m' := by
  cases m with
  | nil => exact h.elim
  | cons b m' => exact ⟨b, m', rfl, h.1, h.2⟩
theorem wk_f2_len {α β : Type} {R : α → β → Prop} : ∀ {l : List α} {m : List β}, wk_f2 R l m → l.length = m.length
  | [], [], _ => rfl
  | [], _ :: _, h => h.elim
  | _ :: _, [], h => h.elim
  | _ :: _, _ :: _, h => by simp [wk_f2_len h.2]
theorem wk_f2_at {α β : Type} {R : α → β → Prop} : ∀ {l : List α} {m : List β}, wk_f2 R l m → ∀ (k : Nat) (a : α), l[k]? = some a → ∃ b, m[k]? = some b ∧ R a b
  | [], _, _, k, a, hk => by simp at hk
  | _ :: _, [], h, _, _, _ => h.elim
  | a0 :: l, b0 :: m, h, 0, a, hk => by
    simp at hk
    subst hk
    exact ⟨b0, by simp, h.1⟩
  | a0 :: l, b0 :: m, h, k + 1, a, hk => by
    simp at hk
    obtain ⟨b, h1, h2⟩ := wk_f2_at h.2 k a hk
    exact ⟨b, by simpa using h1, h2⟩
theorem wk_f2_set {α β : Type} {R : α → β → Prop} : ∀ {l : List α} {m : List β}, wk_f2 R l m → ∀ (k : Nat) (a : α) (b : β), R a b → wk_f2 R (l.set k a) (m.set k b)
  | [], [], _, k, a, b, _ => by simp [wk_f2]
  | [], _ :: _, h, _, _, _, _ => h.elim
  | _ :: _, [], h, _, _, _, _ => h.elim
  | a0 :: l, b0 :: m, h, 0, a, b, hab => ⟨hab, h.2⟩
  | a0 :: l, b0 :: m, h, k + 1, a, b, hab => ⟨h.1, wk_f2_set h.2 k a b hab⟩
theorem wk_f2_app {α β : Type} {R : α → β → Prop} : ∀ {l : List α} {m : List β} {l' : List α} {m' : List β}, wk_f2 R l m → wk_f2 R l' m' → wk_f2 R (l ++ l') (m ++ m')
  | [], [], _, _, _, h' => h'
  | [], _ :: _, _, _, h, _ => h.elim
  | _ :: _, [], _, _, h, _ => h.elim
  | _ :: _, _ :: _, _, _, h, h' => ⟨h.1, wk_f2_app h.2 h'⟩
theorem wk_f2_mono {α β : Type} {R S : α → β → Prop} (hRS : ∀ a b, R a b → S a b) : ∀ {l : List α} {m : List β}, wk_f2 R l m → wk_f2 S l m
  | [], [], _ => trivial
  | [], _ :: _, h => h.elim
  | _ :: _, [], h => h.elim
  | _ :: _, _ :: _, h => ⟨hRS _ _ h.1, wk_f2_mono hRS h.2⟩
theorem wk_f2_fil {α β : Type} {R : α → β → Prop} {f : α → Bool} {g : β → Bool} (hfg : ∀ a b, R a b → f a = g b) : ∀ {l : List α} {m : List β}, wk_f2 R l m → wk_f2 R (l.filter f) (m.filter g)
  | [], [], _ => trivial
  | [], _ :: _, h => h.elim
  | _ :: _, [], h => h.elim
  | a :: l, b :: m, h => by
    have e := hfg a b h.1
    have ih := wk_f2_fil hfg h.2
    cases hb : g b
    · rw [List.filter_cons_of_neg (by rw [e, hb]; decide), List.filter_cons_of_neg (by rw [hb]; decide)]
      exact ih
    · rw [List.filter_cons_of_pos (by rw [e, hb]), List.filter_cons_of_pos (by rw [hb])]
      exact ⟨h.1, ih⟩
theorem wk_i32 {x : Int32} {a : Int} (h : x.toInt = a) : x = Int32.ofInt a := by rw [← h, Int32.ofInt_toInt]
theorem wk_i64 {x : Int64} {a : Int} (h : x.toInt = a) : x = Int64.ofInt a := by rw [← h, Int64.ofInt_toInt]
section WKV
variable {as : List Nat} {z : Nat → Nat} {ρ : Nat → Int32} {iv : wk_I}
theorem wk_gi_r (hb : wk_bx ρ iv) {v : wk_V} {p : Int × Int} {x : Value} (h : wk_gi iv v = some p) (hr : wk_r as z ρ v x) : ∃ i : Int32, x = .int i ∧ p.1 ≤ i.toInt ∧ i.toInt ≤ p.2 := by
  rcases v with q | q | (_ | n) | ⟨t, i⟩
  · cases h; exact hr
  · cases h
  · cases h
  · cases h
  · match t, h, hr with
    | 0, h, hr => exact ⟨ρ i, hr, hb i p (by rw [← wk_at_eq]; exact h)⟩
    | 1, h, _ => cases h
    | _ + 2, h, _ => cases h
theorem wk_gj_r (hb : wk_bx ρ iv) {v : wk_V} {p : Int × Int} {x : Value} (h : wk_gj iv v = some p) (hr : wk_r as z ρ v x) : ∃ i : Int64, x = .long i ∧ p.1 ≤ i.toInt ∧ i.toInt ≤ p.2 := by
  rcases v with q | q | (_ | n) | ⟨t, i⟩
  · cases h
  · cases h; exact hr
  · cases h
  · cases h
  · match t, h, hr with
    | 0, h, _ => cases h
    | 1, h, hr => exact ⟨(ρ i).toInt64, hr, by rw [Int32.toInt_toInt64]; exact hb i p (by rw [← wk_at_eq]; exact h)⟩
    | _ + 2, h, _ => cases h
theorem wk_sI_r (x : Int32) : wk_r as z ρ (wk_sI x) (.int x) := ⟨x, rfl, Int.le_refl _, Int.le_refl _⟩
theorem wk_sJ_r (x : Int64) : wk_r as z ρ (wk_sJ x) (.long x) := ⟨x, rfl, Int.le_refl _, Int.le_refl _⟩
theorem wk_tI_r (x : Int32) : wk_r as z ρ wk_tI (.int x) := ⟨x, rfl, Int32.minValue_le_toInt x, Int32.toInt_le x⟩
theorem wk_tJ_r (x : Int64) : wk_r as z ρ wk_tJ (.long x) := ⟨x, rfl, Int64.minValue_le_toInt x, Int64.toInt_le x⟩
theorem wk_o2_r (hb : wk_bx ρ iv) {F : Int32 → Int32 → Int32} {v w u : wk_V} {x y : Value} (h : wk_o2 iv F v w = some u) (hv : wk_r as z ρ v x) (hw : wk_r as z ρ w y) : ∃ a b : Int32, x = .int a ∧ y = .int b ∧ wk_r as z ρ u (.int (F a b)) := by
  unfold wk_o2 at h
  cases hp : wk_gi iv v with
  | none => rw [hp] at h; cases h
  | some p => cases hq : wk_gi iv w with
    | none => rw [hp, hq] at h; cases h
    | some q =>
      rw [hp, hq] at h
      obtain ⟨a, rfl, a1, a2⟩ := wk_gi_r hb hp hv
      obtain ⟨b, rfl, b1, b2⟩ := wk_gi_r hb hq hw
      refine ⟨a, b, rfl, rfl, ?_⟩
      simp only [Option.some.injEq] at h
      subst h
      split
      · rename_i hc
        rw [wk_i32 (x := a) (a := p.1) (by omega), wk_i32 (x := b) (a := q.1) (by omega)]
        exact wk_sI_r _
      · exact wk_tI_r _
theorem wk_o2j_r (hb : wk_bx ρ iv) {F : Int64 → Int64 → Int64} {v w u : wk_V} {x y : Value} (h : wk_o2j iv F v w = some u) (hv : wk_r as z ρ v x) (hw : wk_r as z ρ w y) : ∃ a b : Int64, x = .long a ∧ y = .long b ∧ wk_r as z ρ u (.long (F a b)) := by
  unfold wk_o2j at h
  cases hp : wk_gj iv v with
  | none => rw [hp] at h; cases h
  | some p => cases hq : wk_gj iv w with
    | none => rw [hp, hq] at h; cases h
    | some q =>
      rw [hp, hq] at h
      obtain ⟨a, rfl, a1, a2⟩ := wk_gj_r hb hp hv
      obtain ⟨b, rfl, b1, b2⟩ := wk_gj_r hb hq hw
      refine ⟨a, b, rfl, rfl, ?_⟩
      simp only [Option.some.injEq] at h
      subst h
      split
      · rename_i hc
        rw [wk_i64 (x := a) (a := p.1) (by omega), wk_i64 (x := b) (a := q.1) (by omega)]
        exact wk_sJ_r _
      · exact wk_tJ_r _
theorem wk_o2s_r (hb : wk_bx ρ iv) {F : Int64 → Int32 → Int64} {v w u : wk_V} {x y : Value} (h : wk_o2s iv F v w = some u) (hv : wk_r as z ρ v x) (hw : wk_r as z ρ w y) : ∃ (a : Int64) (b : Int32), x = .long a ∧ y = .int b ∧ wk_r as z ρ u (.long (F a b)) := by
  unfold wk_o2s at h
  cases hp : wk_gj iv v with
  | none => rw [hp] at h; cases h
  | some p => cases hq : wk_gi iv w with
    | none => rw [hp, hq] at h; cases h
    | some q =>
      rw [hp, hq] at h
      obtain ⟨a, rfl, a1, a2⟩ := wk_gj_r hb hp hv
      obtain ⟨b, rfl, b1, b2⟩ := wk_gi_r hb hq hw
      refine ⟨a, b, rfl, rfl, ?_⟩
      simp only [Option.some.injEq] at h
      subst h
      split
      · rename_i hc
        rw [wk_i64 (x := a) (a := p.1) (by omega), wk_i32 (x := b) (a := q.1) (by omega)]
        exact wk_sJ_r _
      · exact wk_tJ_r _
theorem wk_d2_r (hb : wk_bx ρ iv) {F : Int32 → Int32 → Int32} {v w u : wk_V} {x y : Value} (h : wk_d2 iv F v w = some u) (hv : wk_r as z ρ v x) (hw : wk_r as z ρ w y) : ∃ a b : Int32, x = .int a ∧ y = .int b ∧ ¬ b = 0 ∧ wk_r as z ρ u (.int (F a b)) := by
  unfold wk_d2 at h
  cases hp : wk_gi iv v with
  | none => rw [hp] at h; cases h
  | some p => cases hq : wk_gi iv w with
    | none => rw [hp, hq] at h; cases h
    | some q =>
      rw [hp, hq] at h
      obtain ⟨a, rfl, a1, a2⟩ := wk_gi_r hb hp hv
      obtain ⟨b, rfl, b1, b2⟩ := wk_gi_r hb hq hw
      simp only at h
      split at h
      · rename_i hc
        cases h
        have ea := wk_i32 (x := a) (a := p.1) (by omega)
        have eb := wk_i32 (x := b) (a := q.1) (by omega)
        refine ⟨a, b, rfl, rfl, by rw [eb]; exact hc.2.2, ?_⟩
        rw [ea, eb]
        exact wk_sI_r _
      · cases h
theorem wk_d2j_r (hb : wk_bx ρ iv) {F : Int64 → Int64 → Int64} {v w u : wk_V} {x y : Value} (h : wk_d2j iv F v w = some u) (hv : wk_r as z ρ v x) (hw : wk_r as z ρ w y) : ∃ a b : Int64, x = .long a ∧ y = .long b ∧ ¬ b = 0 ∧ wk_r as z ρ u (.long (F a b)) := by
  unfold wk_d2j at h
  cases hp : wk_gj iv v with
  | none => rw [hp] at h; cases h
  | some p => cases hq : wk_gj iv w with
    | none => rw [hp, hq] at h; cases h
    | some q =>
      rw [hp, hq] at h
      obtain ⟨a, rfl, a1, a2⟩ := wk_gj_r hb hp hv
      obtain ⟨b, rfl, b1, b2⟩ := wk_gj_r hb hq hw
      simp only at h
      split at h
      · rename_i hc
        cases h
        have ea := wk_i64 (x := a) (a := p.1) (by omega)
        have eb := wk_i64 (x := b) (a := q.1) (by omega)
        refine ⟨a, b, rfl, rfl, by rw [eb]; exact hc.2.2, ?_⟩
        rw [ea, eb]
        exact wk_sJ_r _
      · cases h
theorem wk_lc_r (hb : wk_bx ρ iv) {v w u : wk_V} {x y : Value} (h : wk_lc iv v w = some u) (hv : wk_r as z ρ v x) (hw : wk_r as z ρ w y) : ∃ a b : Int64, x = .long a ∧ y = .long b ∧ wk_r as z ρ u (.int (lg_cmp a b)) := by
  unfold wk_lc at h
  cases hp : wk_gj iv v with
  | none => rw [hp] at h; cases h
  | some p => cases hq : wk_gj iv w with
    | none => rw [hp, hq] at h; cases h
    | some q =>
      rw [hp, hq] at h
      obtain ⟨a, rfl, a1, a2⟩ := wk_gj_r hb hp hv
      obtain ⟨b, rfl, b1, b2⟩ := wk_gj_r hb hq hw
      refine ⟨a, b, rfl, rfl, ?_⟩
      simp only at h
      split at h
      · cases h
        have : b < a := Int64.lt_iff_toInt_lt.mpr (by omega)
        rw [show lg_cmp a b = 1 by simp [lg_cmp, this]]
        exact ⟨1, rfl, by decide, by decide⟩
      · split at h
        · cases h
          have h1 : a < b := Int64.lt_iff_toInt_lt.mpr (by omega)
          have h2 : ¬ b < a := fun q => by have := Int64.lt_iff_toInt_lt.mp q; omega
          have h3 : ¬ a = b := fun q => by subst q; omega
          rw [show lg_cmp a b = -1 by simp [lg_cmp, h2, h3]]
          exact ⟨-1, rfl, by decide, by decide⟩
        · split at h
          · cases h
            rename_i hc
            have : a = b := Int64.toInt_inj.mp (by omega)
            subst this
            rw [show lg_cmp a a = 0 by simp [lg_cmp]]
            exact ⟨0, rfl, by decide, by decide⟩
          · cases h
theorem wk_c1_r {v : wk_V} {x : Value} (h : wk_c1 v = true) (hr : wk_r as z ρ v x) : x.category = 1 := by
  rcases v with q | q | (_ | n) | ⟨t, i⟩
  · obtain ⟨i, rfl, -⟩ := hr; rfl
  · cases h
  · cases hr; rfl
  · obtain ⟨a, -, rfl⟩ := hr; rfl
  · match t, h, hr with
    | 0, _, hr => cases hr; rfl
    | 1, h, _ => cases h
    | 2, _, hr => cases hr; rfl
    | _ + 3, _, hr => cases hr; rfl
theorem wk_c2_r {v : wk_V} {x : Value} (hr : wk_r as z ρ v x) : wk_c2 v = (x.category == 2) := by
  rcases v with q | q | (_ | n) | ⟨t, i⟩
  · obtain ⟨i, rfl, -⟩ := hr; rfl
  · obtain ⟨i, rfl, -⟩ := hr; rfl
  · cases hr; rfl
  · obtain ⟨a, -, rfl⟩ := hr; rfl
  · match t, hr with
    | 0, hr => cases hr; rfl
    | 1, hr => cases hr; rfl
    | 2, hr => cases hr; rfl
    | _ + 3, hr => cases hr; rfl
theorem wk_isr_r {v : wk_V} {x : Value} (h : wk_isr v = true) (hr : wk_r as z ρ v x) : ∃ a, x = .ref a := by
  rcases v with q | q | (_ | n) | ⟨t, i⟩
  · cases h
  · cases h
  · cases h
  · obtain ⟨a, -, rfl⟩ := hr; exact ⟨a, rfl⟩
  · match t, h, hr with
    | 0, h, _ => cases h
    | 1, h, _ => cases h
    | 2, _, hr => exact ⟨z 0, hr⟩
    | _ + 3, _, hr => exact ⟨z i, hr⟩
theorem wk_r_mono {v : wk_V} {x : Value} (more : List Nat) (hr : wk_r as z ρ v x) : wk_r (as ++ more) z ρ v x := by
  rcases v with q | q | (_ | n) | ⟨t, i⟩
  · exact hr
  · exact hr
  · exact hr
  · obtain ⟨a, h1, h2⟩ := hr
    exact ⟨a, by rw [List.getElem?_append_left (List.getElem?_eq_some_iff.mp h1).1]; exact h1, h2⟩
  · match t, hr with
    | 0, hr => exact hr
    | 1, hr => exact hr
    | 2, hr => exact hr
    | _ + 3, hr => exact hr
/-- locals -/
def wk_rl (as : List Nat) (z : Nat → Nat) (ρ : Nat → Int32) (q : Nat × wk_V) (r : Nat × Value) : Prop := q.1 = r.1 ∧ wk_r as z ρ q.2 r.2
theorem wk_get_r {nL : Nat} {ls : Array Slot} : ∀ {AL : wk_L} {lv : List (Nat × Value)} {i : Nat} {v : wk_V}, (∀ q ∈ lv, ls[q.1]? = some (.val q.2)) → wk_f2 (wk_rl as z ρ) AL lv → wk_get AL i = some v → ∃ x, ls[i]? = some (.val x) ∧ wk_r as z ρ v x
  | [], _, _, _, _, _, h => by cases h
  | _ :: _, [], _, _, _, h, _ => h.elim
  | (j, w) :: l, r :: m, i, v, hl, hf, h => by
    unfold wk_get at h
    cases hj : Nat.beq j i with
    | true =>
      rw [hj] at h
      simp only [if_true, Option.some.injEq] at h
      subst h
      have e : j = i := Nat.eq_of_beq_eq_true hj
      subst e
      obtain ⟨⟨h1, h2⟩, -⟩ := hf
      simp only at h1 h2
      exact ⟨r.2, by rw [h1]; exact hl r List.mem_cons_self, h2⟩
    | false =>
      rw [hj] at h
      simp only [Bool.false_eq_true, if_false] at h
      exact wk_get_r (nL := nL) (fun q hq => hl q (List.mem_cons_of_mem _ hq)) hf.2 h
theorem wk_st1_r {AL : wk_L} {lv : List (Nat × Value)} {i : Nat} {v : wk_V} {x : Value} (hf : wk_f2 (wk_rl as z ρ) AL lv) (hr : wk_r as z ρ v x) : wk_f2 (wk_rl as z ρ) (wk_st1 AL i v) ((i, x) :: lv.filter (fun q => !(q.1 == i) && !(q.1 + 1 == i && q.2.category == 2))) :=
  ⟨⟨rfl, hr⟩, wk_f2_fil (fun a b h => by rw [h.1, wk_c2_r h.2]) hf⟩
theorem wk_st2_r {AL : wk_L} {lv : List (Nat × Value)} {i : Nat} {v : wk_V} {x : Value} (hf : wk_f2 (wk_rl as z ρ) AL lv) (hr : wk_r as z ρ v x) : wk_f2 (wk_rl as z ρ) (wk_st2 AL i v) ((i, x) :: lv.filter (fun q => !(q.1 == i) && (!(q.1 == i + 1) && !(q.1 + 1 == i && q.2.category == 2)))) :=
  ⟨⟨rfl, hr⟩, wk_f2_fil (fun a b h => by rw [h.1, wk_c2_r h.2]) hf⟩
theorem wk_cnd_r {cd : ClassFile.Cond} {p q : Int × Int} {x y : Int32} {b : Bool} (h : wk_cnd cd p q = some b) (h1 : p.1 ≤ x.toInt) (h2 : x.toInt ≤ p.2) (h3 : q.1 ≤ y.toInt) (h4 : y.toInt ≤ q.2) : wk_holds cd x y ↔ b = true := by
  have heq : ∀ {b : Bool}, wk_eq p q = some b → (x = y ↔ b = true) := by
    intro b h
    rw [← Int32.toInt_inj]
    unfold wk_eq at h
    split at h
    · cases h; simp; omega
    · split at h
      · cases h; simp; omega
      · cases h
  have hlt : ∀ {b : Bool}, wk_lt p q = some b → (x < y ↔ b = true) := by
    intro b h
    rw [Int32.lt_iff_toInt_lt]
    unfold wk_lt at h
    split at h
    · cases h; simp; omega
    · split at h
      · cases h; simp; omega
      · cases h
  have hgt : ∀ {b : Bool}, wk_lt q p = some b → (y < x ↔ b = true) := by
    intro b h
    rw [Int32.lt_iff_toInt_lt]
    unfold wk_lt at h
    split at h
    · cases h; simp; omega
    · split at h
      · cases h; simp; omega
      · cases h
  cases cd with
  | eq => exact heq h
  | ne =>
    cases he : wk_eq p q with
    | none => simp only [wk_cnd, he] at h; cases h
    | some r =>
      simp only [wk_cnd, he] at h
      cases h
      have := heq he
      simp only [wk_holds, this]
      cases r <;> simp
  | lt => exact hlt h
  | ge =>
    cases he : wk_lt p q with
    | none => simp only [wk_cnd, he] at h; cases h
    | some r =>
      simp only [wk_cnd, he] at h
      cases h
      have := hlt he
      simp only [wk_holds]
      rw [show (y ≤ x) ↔ ¬ x < y from by rw [Int32.le_iff_toInt_le, Int32.lt_iff_toInt_lt]; omega, this]
      cases r <;> simp
  | gt => exact hgt h
  | le =>
    cases he : wk_lt q p with
    | none => simp only [wk_cnd, he] at h; cases h
    | some r =>
      simp only [wk_cnd, he] at h
      cases h
      have := hgt he
      simp only [wk_holds]
      rw [show (x ≤ y) ↔ ¬ y < x from by rw [Int32.le_iff_toInt_le, Int32.lt_iff_toInt_lt]; omega, this]
      cases r <;> simp
theorem wk_to_r {pc t : Nat} {off : Int} (h : wk_to pc off = some t) : (pc : Int) + off = (t : Int) := by
  unfold wk_to at h
  split at h
  · rename_i n hn
    cases h
    rw [hn]; rfl
  · cases h
end WKV
end
section
-- 05.steps
/-! ===== the engine's steps that leave the heap alone, over the machine ===== -/
/-- lengths -/
def wk_lk : Instr → Nat → Bool
  | .bipush _, n | .iload _, n | .lload _, n | .aload _, n | .istore _, n | .lstore _, n | .astore _, n | .newarray _, n | .ldc _, n => Nat.beq n 2
  | .sipush _, n | .iinc _ _, n | .goto _, n | .ifCond _ _, n | .if_icmp _ _, n | .ldc2_w _, n | .ldc_w _, n | .getfield _, n | .putfield _, n | .new _, n | .anewarray _, n => Nat.beq n 3
  | .invokespecial _, n | .invokestatic _, n | .invokevirtual _, n => Nat.beq n 3
  | .multianewarray _ _, n => Nat.beq n 4
  | .tableswitch .., _ => true
  | _, n => Nat.beq n 1
section WKS
variable {p : Program} {l : Launch} {e : Env} {R : Room} {s : State} {m : MethodId} {args : Array Value} {below : List Frame} {meth : Method} {c : Code} {H : Heap} {locs : List Loc} {cells slots : Nat} {Q : State → Prop}
variable {cc : ByteArray} {pc : Nat} {ls : Array Slot} {rest : List Value}
theorem wk_if (hx : p.tables.exec = Jvm.exec) (hb : c.code = cc) {cd : ClassFile.Cond} {x : Int32} {off : Int} {tgt : Nat} (hd : decode cc pc = .ok (.ifCond cd off, 3)) (ht : (pc : Int) + off = (tgt : Int))
    (k1 : wk_holds cd x 0 → W p l e R s m args below meth c H locs cells slots Q (F0 m tgt ls rest)) (k2 : ¬ wk_holds cd x 0 → W p l e R s m args below meth c H locs cells slots Q (F0 m (pc + 3) ls rest)) : W p l e R s m args below meth c H locs cells slots Q (F0 m pc ls (.int x :: rest)) := by
  cases cd with
  | eq => exact lv_if_eq hx hb hd ht k1 k2
  | ne => exact lv_if_ne hx hb hd ht k1 (fun h => k2 (fun q => q h))
  | lt => exact lv_if_lt hx hb hd ht k1 k2
  | ge => exact lv_if_ge hx hb hd ht k1 k2
  | gt => exact lv_if_gt hx hb hd ht k1 k2
  | le => exact lv_if_le hx hb hd ht k1 k2
theorem wk_icmp (hx : p.tables.exec = Jvm.exec) (hb : c.code = cc) {cd : ClassFile.Cond} {x y : Int32} {off : Int} {tgt : Nat} (hd : decode cc pc = .ok (.if_icmp cd off, 3)) (ht : (pc : Int) + off = (tgt : Int))
    (k1 : wk_holds cd x y → W p l e R s m args below meth c H locs cells slots Q (F0 m tgt ls rest)) (k2 : ¬ wk_holds cd x y → W p l e R s m args below meth c H locs cells slots Q (F0 m (pc + 3) ls rest)) : W p l e R s m args below meth c H locs cells slots Q (F0 m pc ls (.int y :: .int x :: rest)) := by
  cases cd with
  | eq => exact lv_icmp_eq hx hb hd ht k1 k2
  | ne => exact lv_icmp_ne hx hb hd ht k1 (fun h => k2 (fun q => q h))
  | lt => exact lv_icmp_lt hx hb hd ht k1 k2
  | ge => exact lv_icmp_ge hx hb hd ht k1 k2
  | gt => exact lv_icmp_gt hx hb hd ht k1 k2
  | le => exact lv_icmp_le hx hb hd ht k1 k2
variable {as : List Nat} {z : Nat → Nat} {ρ : Nat → Int32} {iv : wk_I} {AL AL' : wk_L} {AS AS' : List wk_V} {pc' : Nat} {nL : Nat}
abbrev wk_go1 (p : Program) (l : Launch) (e : Env) (R : Room) (s : State) (m : MethodId) (args : Array Value) (below : List Frame) (meth : Method) (c : Code) (H : Heap) (locs : List Loc) (cells slots : Nat) (Q : State → Prop) (as : List Nat) (z : Nat → Nat) (ρ : Nat → Int32) (nL pc' : Nat) (AL' : wk_L) (AS' : List wk_V) : Prop :=
  ∀ (ls' : Array Slot) (lv' : List (Nat × Value)) (st' : List Value), lv_has ls' nL lv' → wk_f2 (wk_rl as z ρ) AL' lv' → wk_f2 (wk_r as z ρ) AS' st' → W p l e R s m args below meth c H locs cells slots Q (F0 m pc' ls' st')
theorem wk_bin {F : Int32 → Int32 → Int32} {v w : wk_V} {lv : List (Nat × Value)} {st : List Value} (hbx : wk_bx ρ iv) (hp : (wk_o2 iv F w v).map (fun x => ((pc + 1, AL, x :: AS) : wk_P)) = some (pc', AL', AS')) (hs : wk_f2 (wk_r as z ρ) (v :: w :: AS) st) (hl : lv_has ls nL lv) (ha : wk_f2 (wk_rl as z ρ) AL lv)
    (row : ∀ (a b : Int32) (r : List Value), W p l e R s m args below meth c H locs cells slots Q (F0 m (pc + 1) ls (.int (F a b) :: r)) → W p l e R s m args below meth c H locs cells slots Q (F0 m pc ls (.int b :: .int a :: r)))
    (kk : wk_go1 p l e R s m args below meth c H locs cells slots Q as z ρ nL pc' AL' AS') : W p l e R s m args below meth c H locs cells slots Q (F0 m pc ls st) := by
  obtain ⟨y, st1, rfl, hv, hs1⟩ := wk_f2_cons hs
  obtain ⟨x, st2, rfl, hw, hs2⟩ := wk_f2_cons hs1
  cases ho : wk_o2 iv F w v with
  | none => rw [ho] at hp; cases hp
  | some u =>
    rw [ho] at hp
    cases hp
    obtain ⟨a, b, rfl, rfl, hu⟩ := wk_o2_r hbx ho hw hv
    exact row a b st2 (kk ls lv _ hl ha ⟨hu, hs2⟩)
theorem wk_binj {F : Int64 → Int64 → Int64} {v w : wk_V} {lv : List (Nat × Value)} {st : List Value} (hbx : wk_bx ρ iv) (hp : (wk_o2j iv F w v).map (fun x => ((pc + 1, AL, x :: AS) : wk_P)) = some (pc', AL', AS')) (hs : wk_f2 (wk_r as z ρ) (v :: w :: AS) st) (hl : lv_has ls nL lv) (ha : wk_f2 (wk_rl as z ρ) AL lv)
    (row : ∀ (a b : Int64) (r : List Value), W p l e R s m args below meth c H locs cells slots Q (F0 m (pc + 1) ls (.long (F a b) :: r)) → W p l e R s m args below meth c H locs cells slots Q (F0 m pc ls (.long b :: .long a :: r)))
    (kk : wk_go1 p l e R s m args below meth c H locs cells slots Q as z ρ nL pc' AL' AS') : W p l e R s m args below meth c H locs cells slots Q (F0 m pc ls st) := by
  obtain ⟨y, st1, rfl, hv, hs1⟩ := wk_f2_cons hs
  obtain ⟨x, st2, rfl, hw, hs2⟩ := wk_f2_cons hs1
  cases ho : wk_o2j iv F w v with
  | none => rw [ho] at hp; cases hp
  | some u =>
    rw [ho] at hp
    cases hp
    obtain ⟨a, b, rfl, rfl, hu⟩ := wk_o2j_r hbx ho hw hv
    exact row a b st2 (kk ls lv _ hl ha ⟨hu, hs2⟩)
theorem wk_bins {F : Int64 → Int32 → Int64} {v w : wk_V} {lv : List (Nat × Value)} {st : List Value} (hbx : wk_bx ρ iv) (hp : (wk_o2s iv F w v).map (fun x => ((pc + 1, AL, x :: AS) : wk_P)) = some (pc', AL', AS')) (hs : wk_f2 (wk_r as z ρ) (v :: w :: AS) st) (hl : lv_has ls nL lv) (ha : wk_f2 (wk_rl as z ρ) AL lv)
    (row : ∀ (a : Int64) (b : Int32) (r : List Value), W p l e R s m args below meth c H locs cells slots Q (F0 m (pc + 1) ls (.long (F a b) :: r)) → W p l e R s m args below meth c H locs cells slots Q (F0 m pc ls (.int b :: .long a :: r)))
    (kk : wk_go1 p l e R s m args below meth c H locs cells slots Q as z ρ nL pc' AL' AS') : W p l e R s m args below meth c H locs cells slots Q (F0 m pc ls st) := by
  obtain ⟨y, st1, rfl, hv, hs1⟩ := wk_f2_cons hs
  obtain ⟨x, st2, rfl, hw, hs2⟩ := wk_f2_cons hs1
  cases ho : wk_o2s iv F w v with
  | none => rw [ho] at hp; cases hp
  | some u =>
    rw [ho] at hp
    cases hp
    obtain ⟨a, b, rfl, rfl, hu⟩ := wk_o2s_r hbx ho hw hv
    exact row a b st2 (kk ls lv _ hl ha ⟨hu, hs2⟩)
theorem wk_bind {F : Int32 → Int32 → Int32} {v w : wk_V} {lv : List (Nat × Value)} {st : List Value} (hbx : wk_bx ρ iv) (hp : (wk_d2 iv F w v).map (fun x => ((pc + 1, AL, x :: AS) : wk_P)) = some (pc', AL', AS')) (hs : wk_f2 (wk_r as z ρ) (v :: w :: AS) st) (hl : lv_has ls nL lv) (ha : wk_f2 (wk_rl as z ρ) AL lv)
    (row : ∀ (a b : Int32) (r : List Value), ¬ b = 0 → W p l e R s m args below meth c H locs cells slots Q (F0 m (pc + 1) ls (.int (F a b) :: r)) → W p l e R s m args below meth c H locs cells slots Q (F0 m pc ls (.int b :: .int a :: r)))
    (kk : wk_go1 p l e R s m args below meth c H locs cells slots Q as z ρ nL pc' AL' AS') : W p l e R s m args below meth c H locs cells slots Q (F0 m pc ls st) := by
  obtain ⟨y, st1, rfl, hv, hs1⟩ := wk_f2_cons hs
  obtain ⟨x, st2, rfl, hw, hs2⟩ := wk_f2_cons hs1
  cases ho : wk_d2 iv F w v with
  | none => rw [ho] at hp; cases hp
  | some u =>
    rw [ho] at hp
    cases hp
    obtain ⟨a, b, rfl, rfl, hne, hu⟩ := wk_d2_r hbx ho hw hv
    exact row a b st2 hne (kk ls lv _ hl ha ⟨hu, hs2⟩)
theorem wk_bindj {F : Int64 → Int64 → Int64} {v w : wk_V} {lv : List (Nat × Value)} {st : List Value} (hbx : wk_bx ρ iv) (hp : (wk_d2j iv F w v).map (fun x => ((pc + 1, AL, x :: AS) : wk_P)) = some (pc', AL', AS')) (hs : wk_f2 (wk_r as z ρ) (v :: w :: AS) st) (hl : lv_has ls nL lv) (ha : wk_f2 (wk_rl as z ρ) AL lv)
    (row : ∀ (a b : Int64) (r : List Value), ¬ b = 0 → W p l e R s m args below meth c H locs cells slots Q (F0 m (pc + 1) ls (.long (F a b) :: r)) → W p l e R s m args below meth c H locs cells slots Q (F0 m pc ls (.long b :: .long a :: r)))
    (kk : wk_go1 p l e R s m args below meth c H locs cells slots Q as z ρ nL pc' AL' AS') : W p l e R s m args below meth c H locs cells slots Q (F0 m pc ls st) := by
  obtain ⟨y, st1, rfl, hv, hs1⟩ := wk_f2_cons hs
  obtain ⟨x, st2, rfl, hw, hs2⟩ := wk_f2_cons hs1
  cases ho : wk_d2j iv F w v with
  | none => rw [ho] at hp; cases hp
  | some u =>
    rw [ho] at hp
    cases hp
    obtain ⟨a, b, rfl, rfl, hne, hu⟩ := wk_d2j_r hbx ho hw hv
    exact row a b st2 hne (kk ls lv _ hl ha ⟨hu, hs2⟩)
theorem wk_ldi {k d : Nat} {lv : List (Nat × Value)} {st : List Value} (hbx : wk_bx ρ iv) (hp : ((wk_get AL k).bind fun v => if (wk_gi iv v).isSome then some ((pc + d, AL, v :: AS) : wk_P) else none) = some (pc', AL', AS')) (hs : wk_f2 (wk_r as z ρ) AS st) (hl : lv_has ls nL lv) (ha : wk_f2 (wk_rl as z ρ) AL lv)
    (row : ∀ (a : Int32), ls[k]? = some (.val (.int a)) → W p l e R s m args below meth c H locs cells slots Q (F0 m (pc + d) ls (.int a :: st)) → W p l e R s m args below meth c H locs cells slots Q (F0 m pc ls st))
    (kk : wk_go1 p l e R s m args below meth c H locs cells slots Q as z ρ nL pc' AL' AS') : W p l e R s m args below meth c H locs cells slots Q (F0 m pc ls st) := by
  cases hg : wk_get AL k with
  | none => rw [hg] at hp; cases hp
  | some v =>
    rw [hg] at hp
    simp only [Option.bind_some] at hp
    split at hp
    · cases hp
      rename_i hi
      obtain ⟨q, hq⟩ := Option.isSome_iff_exists.mp hi
      obtain ⟨x, h1, h2⟩ := wk_get_r (nL := nL) hl.2.2 ha hg
      obtain ⟨a, rfl, -⟩ := wk_gi_r hbx hq h2
      exact row a h1 (kk ls lv _ hl ha ⟨h2, hs⟩)
    · cases hp
theorem wk_ldj {k d : Nat} {lv : List (Nat × Value)} {st : List Value} (hbx : wk_bx ρ iv) (hp : ((wk_get AL k).bind fun v => if (wk_gj iv v).isSome then some ((pc + d, AL, v :: AS) : wk_P) else none) = some (pc', AL', AS')) (hs : wk_f2 (wk_r as z ρ) AS st) (hl : lv_has ls nL lv) (ha : wk_f2 (wk_rl as z ρ) AL lv)
    (row : ∀ (a : Int64), ls[k]? = some (.val (.long a)) → W p l e R s m args below meth c H locs cells slots Q (F0 m (pc + d) ls (.long a :: st)) → W p l e R s m args below meth c H locs cells slots Q (F0 m pc ls st))
    (kk : wk_go1 p l e R s m args below meth c H locs cells slots Q as z ρ nL pc' AL' AS') : W p l e R s m args below meth c H locs cells slots Q (F0 m pc ls st) := by
  cases hg : wk_get AL k with
  | none => rw [hg] at hp; cases hp
  | some v =>
    rw [hg] at hp
    simp only [Option.bind_some] at hp
    split at hp
    · cases hp
      rename_i hi
      obtain ⟨q, hq⟩ := Option.isSome_iff_exists.mp hi
      obtain ⟨x, h1, h2⟩ := wk_get_r (nL := nL) hl.2.2 ha hg
      obtain ⟨a, rfl, -⟩ := wk_gj_r hbx hq h2
      exact row a h1 (kk ls lv _ hl ha ⟨h2, hs⟩)
    · cases hp
theorem wk_lda {k d : Nat} {lv : List (Nat × Value)} {st : List Value} (hp : ((wk_get AL k).bind fun v => if wk_isr v then some ((pc + d, AL, v :: AS) : wk_P) else none) = some (pc', AL', AS')) (hs : wk_f2 (wk_r as z ρ) AS st) (hl : lv_has ls nL lv) (ha : wk_f2 (wk_rl as z ρ) AL lv)
    (row : ∀ (a : Nat), ls[k]? = some (.val (.ref a)) → W p l e R s m args below meth c H locs cells slots Q (F0 m (pc + d) ls (.ref a :: st)) → W p l e R s m args below meth c H locs cells slots Q (F0 m pc ls st))
    (kk : wk_go1 p l e R s m args below meth c H locs cells slots Q as z ρ nL pc' AL' AS') : W p l e R s m args below meth c H locs cells slots Q (F0 m pc ls st) := by
  cases hg : wk_get AL k with
  | none => rw [hg] at hp; cases hp
  | some v =>
    rw [hg] at hp
    simp only [Option.bind_some] at hp
    split at hp
    · cases hp
      rename_i hi
      obtain ⟨x, h1, h2⟩ := wk_get_r (nL := nL) hl.2.2 ha hg
      obtain ⟨a, rfl⟩ := wk_isr_r hi h2
      exact row a h1 (kk ls lv _ hl ha ⟨h2, hs⟩)
    · cases hp
theorem wk_sti {k d : Nat} {v : wk_V} {lv : List (Nat × Value)} {st : List Value} (hbx : wk_bx ρ iv) (hp : (if (wk_gi iv v).isSome ∧ k < nL then some ((pc + d, wk_st1 AL k v, AS) : wk_P) else none) = some (pc', AL', AS')) (hs : wk_f2 (wk_r as z ρ) (v :: AS) st) (hl : lv_has ls nL lv) (ha : wk_f2 (wk_rl as z ρ) AL lv)
    (row : ∀ (a : Int32) (lv' : List (Nat × Value)) (r : List Value), k < nL → (k, Value.int a) :: lv.filter (fun q => !(q.1 == k) && !(q.1 + 1 == k && q.2.category == 2)) = lv' → (∀ ls', lv_has ls' nL lv' → W p l e R s m args below meth c H locs cells slots Q (F0 m (pc + d) ls' r)) → W p l e R s m args below meth c H locs cells slots Q (F0 m pc ls (.int a :: r)))
    (kk : wk_go1 p l e R s m args below meth c H locs cells slots Q as z ρ nL pc' AL' AS') : W p l e R s m args below meth c H locs cells slots Q (F0 m pc ls st) := by
  obtain ⟨x, st1, rfl, hv, hs1⟩ := wk_f2_cons hs
  split at hp
  · cases hp
    rename_i hi
    obtain ⟨q, hq⟩ := Option.isSome_iff_exists.mp hi.1
    obtain ⟨a, rfl, -⟩ := wk_gi_r hbx hq hv
    exact row a _ st1 hi.2 rfl (fun ls' hl' => kk ls' _ st1 hl' (wk_st1_r ha hv) hs1)
  · cases hp
theorem wk_sta {k d : Nat} {v : wk_V} {lv : List (Nat × Value)} {st : List Value} (hp : (if wk_isr v ∧ k < nL then some ((pc + d, wk_st1 AL k v, AS) : wk_P) else none) = some (pc', AL', AS')) (hs : wk_f2 (wk_r as z ρ) (v :: AS) st) (hl : lv_has ls nL lv) (ha : wk_f2 (wk_rl as z ρ) AL lv)
    (row : ∀ (a : Nat) (lv' : List (Nat × Value)) (r : List Value), k < nL → (k, Value.ref a) :: lv.filter (fun q => !(q.1 == k) && !(q.1 + 1 == k && q.2.category == 2)) = lv' → (∀ ls', lv_has ls' nL lv' → W p l e R s m args below meth c H locs cells slots Q (F0 m (pc + d) ls' r)) → W p l e R s m args below meth c H locs cells slots Q (F0 m pc ls (.ref a :: r)))
    (kk : wk_go1 p l e R s m args below meth c H locs cells slots Q as z ρ nL pc' AL' AS') : W p l e R s m args below meth c H locs cells slots Q (F0 m pc ls st) := by
  obtain ⟨x, st1, rfl, hv, hs1⟩ := wk_f2_cons hs
  split at hp
  · cases hp
    rename_i hi
    obtain ⟨a, rfl⟩ := wk_isr_r hi.1 hv
    exact row a _ st1 hi.2 rfl (fun ls' hl' => kk ls' _ st1 hl' (wk_st1_r ha hv) hs1)
  · cases hp
theorem wk_stj {k d : Nat} {v : wk_V} {lv : List (Nat × Value)} {st : List Value} (hbx : wk_bx ρ iv) (hp : (if (wk_gj iv v).isSome ∧ k + 1 < nL then some ((pc + d, wk_st2 AL k v, AS) : wk_P) else none) = some (pc', AL', AS')) (hs : wk_f2 (wk_r as z ρ) (v :: AS) st) (hl : lv_has ls nL lv) (ha : wk_f2 (wk_rl as z ρ) AL lv)
    (row : ∀ (a : Int64) (lv' : List (Nat × Value)) (r : List Value), k + 1 < nL → (k, Value.long a) :: lv.filter (fun q => !(q.1 == k) && (!(q.1 == k + 1) && !(q.1 + 1 == k && q.2.category == 2))) = lv' → (∀ ls', lv_has ls' nL lv' → W p l e R s m args below meth c H locs cells slots Q (F0 m (pc + d) ls' r)) → W p l e R s m args below meth c H locs cells slots Q (F0 m pc ls (.long a :: r)))
    (kk : wk_go1 p l e R s m args below meth c H locs cells slots Q as z ρ nL pc' AL' AS') : W p l e R s m args below meth c H locs cells slots Q (F0 m pc ls st) := by
  obtain ⟨x, st1, rfl, hv, hs1⟩ := wk_f2_cons hs
  split at hp
  · cases hp
    rename_i hi
    obtain ⟨q, hq⟩ := Option.isSome_iff_exists.mp hi.1
    obtain ⟨a, rfl, -⟩ := wk_gj_r hbx hq hv
    exact row a _ st1 hi.2 rfl (fun ls' hl' => kk ls' _ st1 hl' (wk_st2_r ha hv) hs1)
  · cases hp
end WKS
end
section
-- 06.pure2
/-! ===== wk_pure is sound ===== -/
theorem wk_br_r {cd : ClassFile.Cond} {pc t : Nat} {off : Int} {P q : Option (Int × Int)} (h : wk_br cd pc off P q = some t) : ∃ (r r2 : Int × Int) (tgt : Nat) (b : Bool), P = some r ∧ q = some r2 ∧ (pc : Int) + off = (tgt : Int) ∧ wk_cnd cd r r2 = some b ∧ t = if b then tgt else pc + 3 := by
  unfold wk_br at h
  cases P with
  | none => cases h
  | some r => cases q with
    | none => cases h
    | some r2 => cases ht : wk_to pc off with
      | none => rw [ht] at h; cases h
      | some tgt =>
        rw [ht] at h
        cases hc : wk_cnd cd r r2 with
        | none => simp only [hc] at h; cases h
        | some b =>
          simp only [hc, Option.map_some, Option.some.injEq] at h
          exact ⟨r, r2, tgt, b, rfl, rfl, wk_to_r ht, hc, h.symm⟩
theorem wk_an_r {as : List Nat} {z : Nat → Nat} {ρ : Nat → Int32} {iv : wk_I} (hb : wk_bx ρ iv) (hρ : ρ 5 = ρ 0 &&& 63) {v w u : wk_V} {x y : Value} (h : wk_an iv v w = some u) (hw : wk_r as z ρ w x) (hv : wk_r as z ρ v y) : ∃ a b : Int32, x = .int a ∧ y = .int b ∧ wk_r as z ρ u (.int (a &&& b)) := by
  unfold wk_an at h
  split at h
  · cases h
    obtain ⟨j, rfl, j1, j2⟩ := hv
    cases hw
    have ej : j = 63 := wk_i32 (x := j) (a := 63) (by simp only at j1 j2; omega)
    subst ej
    refine ⟨ρ 0, 63, rfl, rfl, ?_⟩
    show Value.int (ρ 0 &&& 63) = Value.int (ρ 5)
    rw [hρ]
  · exact wk_o2_r (F := fun a b => a &&& b) hb h hw hv
theorem wk_il_r {as : List Nat} {z : Nat → Nat} {ρ : Nat → Int32} {iv : wk_I} (hb : wk_bx ρ iv) {v u : wk_V} {x : Value} (h : wk_il iv v = some u) (hv : wk_r as z ρ v x) : ∃ a : Int32, x = .int a ∧ wk_r as z ρ u (.long a.toInt64) := by
  unfold wk_il at h
  split at h
  · cases h
    cases hv
    exact ⟨_, rfl, rfl⟩
  · cases hg : wk_gi iv v with
    | none => rw [hg] at h; cases h
    | some q =>
      rw [hg] at h
      cases h
      obtain ⟨a, rfl, a1, a2⟩ := wk_gi_r hb hg hv
      exact ⟨a, rfl, a.toInt64, rfl, by rw [Int32.toInt_toInt64]; exact a1, by rw [Int32.toInt_toInt64]; exact a2⟩
section WKP
variable {p : Program} {l : Launch} {e : Env} {R : Room} {s : State} {m : MethodId} {args : Array Value} {below : List Frame} {meth : Method} {c : Code} {H : Heap} {locs : List Loc} {cells slots : Nat} {Q : State → Prop}
variable {cc : ByteArray} {pc : Nat} {ls : Array Slot} {rest : List Value}
variable {as : List Nat} {z : Nat → Nat} {ρ : Nat → Int32} {iv : wk_I} {AL AL' : wk_L} {AS AS' : List wk_V} {pc' : Nat} {nL : Nat}
set_option maxHeartbeats 4000000 in
theorem wk_pure_ok {own : String} {i : Instr} {n : Nat} {x : Int} {lv : List (Nat × Value)} {st : List Value} (hx : p.tables.exec = Jvm.exec) (hb : c.code = cc) (hown : s.vm.findClass own = some m.cls) (hd : decode cc pc = .ok (i, n)) (hlk : wk_lk i n = true)
    (hc1 : ∀ idx, i = .ldc idx ∨ i = .ldc_w idx → (Jvm.Cond.constant own idx (Int32.ofInt x)).before args s = true) (hc2 : ∀ idx, i = .ldc2_w idx → (Jvm.Cond.constantLong own idx (Int64.ofInt x)).before args s = true)
    (hbx : wk_bx ρ iv) (hρ : ρ 5 = ρ 0 &&& 63) (hp : wk_pure iv nL i x pc AL AS = some (pc', AL', AS')) (hl : lv_has ls nL lv) (ha : wk_f2 (wk_rl as z ρ) AL lv) (hs : wk_f2 (wk_r as z ρ) AS st)
    (kk : wk_go1 p l e R s m args below meth c H locs cells slots Q as z ρ nL pc' AL' AS') : W p l e R s m args below meth c H locs cells slots Q (F0 m pc ls st) := by
  cases i with
  | iconst k =>
    cases hp
    obtain rfl := Nat.eq_of_beq_eq_true hlk
    exact lv_iconst hx hb hd rfl (kk ls lv _ hl ha ⟨wk_sI_r _, hs⟩)
  | bipush k =>
    cases hp
    obtain rfl := Nat.eq_of_beq_eq_true hlk
    exact lv_bipush hx hb hd rfl (kk ls lv _ hl ha ⟨wk_sI_r _, hs⟩)
  | sipush k =>
    cases hp
    obtain rfl := Nat.eq_of_beq_eq_true hlk
    exact lv_sipush hx hb hd rfl (kk ls lv _ hl ha ⟨wk_sI_r _, hs⟩)
  | lconst k =>
    cases hp
    obtain rfl := Nat.eq_of_beq_eq_true hlk
    exact lv_lconst hx hb hd rfl (kk ls lv _ hl ha ⟨wk_sJ_r _, hs⟩)
  | ldc idx =>
    cases hp
    obtain rfl := Nat.eq_of_beq_eq_true hlk
    exact lv_ldc hx hb hown (hc1 idx (Or.inl rfl)) hd (kk ls lv _ hl ha ⟨wk_sI_r _, hs⟩)
  | ldc_w idx =>
    cases hp
    obtain rfl := Nat.eq_of_beq_eq_true hlk
    exact lv_ldcw hx hb hown (hc1 idx (Or.inr rfl)) hd (kk ls lv _ hl ha ⟨wk_sI_r _, hs⟩)
  | ldc2_w idx =>
    cases hp
    obtain rfl := Nat.eq_of_beq_eq_true hlk
    exact lv_ldc2 hx hb hown (hc2 idx rfl) hd (kk ls lv _ hl ha ⟨wk_sJ_r _, hs⟩)
  | iload_n k =>
    obtain rfl := Nat.eq_of_beq_eq_true hlk
    exact wk_ldi hbx hp hs hl ha (fun a h kw => lv_iload_n hx hb hd rfl h kw) kk
  | iload k =>
    obtain rfl := Nat.eq_of_beq_eq_true hlk
    exact wk_ldi hbx hp hs hl ha (fun a h kw => lv_iload hx hb hd h kw) kk
  | lload_n k =>
    obtain rfl := Nat.eq_of_beq_eq_true hlk
    exact wk_ldj hbx hp hs hl ha (fun a h kw => lv_lload_n hx hb hd rfl h kw) kk
  | lload k =>
    obtain rfl := Nat.eq_of_beq_eq_true hlk
    exact wk_ldj hbx hp hs hl ha (fun a h kw => lv_lload hx hb hd h kw) kk
  | aload_n k =>
    obtain rfl := Nat.eq_of_beq_eq_true hlk
    exact wk_lda hp hs hl ha (fun a h kw => lv_aload_n hx hb hd rfl h kw) kk
  | aload k =>
    obtain rfl := Nat.eq_of_beq_eq_true hlk
    exact wk_lda hp hs hl ha (fun a h kw => lv_aload hx hb hd h kw) kk
  | istore_n k =>
    obtain rfl := Nat.eq_of_beq_eq_true hlk
    rcases AS with _ | ⟨v, AS⟩
    · exact wk_no hp
    · exact wk_sti hbx hp hs hl ha (fun a lv' r h1 h2 kw => lv_istore_n hx hb hd rfl hl h1 h2 kw) kk
  | istore k =>
    obtain rfl := Nat.eq_of_beq_eq_true hlk
    rcases AS with _ | ⟨v, AS⟩
    · exact wk_no hp
    · exact wk_sti hbx hp hs hl ha (fun a lv' r h1 h2 kw => lv_istore hx hb hd hl h1 h2 kw) kk
  | lstore_n k =>
    obtain rfl := Nat.eq_of_beq_eq_true hlk
    rcases AS with _ | ⟨v, AS⟩
    · exact wk_no hp
    · exact wk_stj hbx hp hs hl ha (fun a lv' r h1 h2 kw => lv_lstore_n hx hb hd rfl hl h1 h2 kw) kk
  | lstore k =>
    obtain rfl := Nat.eq_of_beq_eq_true hlk
    rcases AS with _ | ⟨v, AS⟩
    · exact wk_no hp
    · exact wk_stj hbx hp hs hl ha (fun a lv' r h1 h2 kw => lv_lstore hx hb hd hl h1 h2 kw) kk
  | astore_n k =>
    obtain rfl := Nat.eq_of_beq_eq_true hlk
    rcases AS with _ | ⟨v, AS⟩
    · exact wk_no hp
    · exact wk_sta hp hs hl ha (fun a lv' r h1 h2 kw => lv_astore_n hx hb hd rfl hl h1 h2 kw) kk
  | astore k =>
    obtain rfl := Nat.eq_of_beq_eq_true hlk
    rcases AS with _ | ⟨v, AS⟩
    · exact wk_no hp
    · exact wk_sta hp hs hl ha (fun a lv' r h1 h2 kw => lv_astore hx hb hd hl h1 h2 kw) kk
  | iinc k d =>
    obtain rfl := Nat.eq_of_beq_eq_true hlk
    have hp : ((wk_get AL k).bind fun v => (wk_o2 iv (fun a b => a + b) v (wk_sI (Int32.ofInt d))).bind fun w => if k < nL then some ((pc + 3, wk_st1 AL k w, AS) : wk_P) else none) = some (pc', AL', AS') := hp
    cases hg : wk_get AL k with
    | none => rw [hg] at hp; cases hp
    | some v =>
      rw [hg] at hp
      simp only [Option.bind_some] at hp
      cases ho : wk_o2 iv (fun a b => a + b) v (wk_sI (Int32.ofInt d)) with
      | none => rw [ho] at hp; cases hp
      | some w =>
        rw [ho] at hp
        simp only [Option.bind_some] at hp
        split at hp
        · cases hp
          rename_i hk
          obtain ⟨y, h1, h2⟩ := wk_get_r (nL := nL) hl.2.2 ha hg
          obtain ⟨a, b, rfl, e2, hw⟩ := wk_o2_r hbx ho h2 (wk_sI_r (Int32.ofInt d))
          cases e2
          have hl2 : lv_has ls nL (lv ++ [(k, .int a)]) := ⟨hl.1, hl.2.1, fun q hq => by
            rcases List.mem_append.mp hq with h | h
            · exact hl.2.2 q h
            · rw [List.mem_singleton] at h
              subst h
              exact h1⟩
          refine lv_iinc (x := a) (lv := lv ++ [(k, .int a)]) (k := lv.length) hx hb hd hl2 (by simp) rfl hk rfl (fun ls' hl' => ?_)
          refine kk ls' _ st ⟨hl'.1, hl'.2.1, fun q hq => hl'.2.2 q ?_⟩ (wk_st1_r ha hw) hs
          rcases List.mem_cons.mp hq with h | h
          · exact List.mem_cons.mpr (Or.inl h)
          · refine List.mem_cons.mpr (Or.inr ?_)
            rw [List.filter_append]
            exact List.mem_append_left _ h
        · cases hp
  | goto off =>
    obtain rfl := Nat.eq_of_beq_eq_true hlk
    have hp : ((wk_to pc off).map fun t => ((t, AL, AS) : wk_P)) = some (pc', AL', AS') := hp
    cases ht : wk_to pc off with
    | none => rw [ht] at hp; cases hp
    | some t =>
      rw [ht] at hp
      cases hp
      exact lv_goto hx hb hd (wk_to_r ht) (kk ls lv st hl ha hs)
  | ifCond cd off =>
    obtain rfl := Nat.eq_of_beq_eq_true hlk
    rcases AS with _ | ⟨v, AS⟩
    · exact wk_no hp
    · have hp : ((wk_br cd pc off (wk_gi iv v) (some (0, 0))).map fun t => ((t, AL, AS) : wk_P)) = some (pc', AL', AS') := hp
      obtain ⟨y, st1, rfl, hv, hs1⟩ := wk_f2_cons hs
      cases ht : wk_br cd pc off (wk_gi iv v) (some (0, 0)) with
      | none => rw [ht] at hp; cases hp
      | some t =>
        rw [ht] at hp
        cases hp
        obtain ⟨r, r2, tgt, b, e1, e2, e3, e4, e5⟩ := wk_br_r ht
        cases e2
        obtain ⟨j, rfl, a1, a2⟩ := wk_gi_r hbx e1 hv
        have hh := wk_cnd_r (y := 0) e4 a1 a2 (by decide) (by decide)
        have k0 := kk ls lv st1 hl ha hs1
        refine wk_if hx hb hd e3 (fun q => ?_) (fun q => ?_)
        · rw [hh.mp q, if_pos rfl] at e5
          subst e5
          exact k0
        · have : b = false := by cases b; rfl; exact absurd (hh.mpr rfl) q
          rw [this, if_neg (by decide)] at e5
          subst e5
          exact k0
  | if_icmp cd off =>
    obtain rfl := Nat.eq_of_beq_eq_true hlk
    rcases AS with _ | ⟨v, _ | ⟨w, AS⟩⟩
    · exact wk_no hp
    · exact wk_no hp
    · have hp : ((wk_br cd pc off (wk_gi iv w) (wk_gi iv v)).map fun t => ((t, AL, AS) : wk_P)) = some (pc', AL', AS') := hp
      obtain ⟨y, st1, rfl, hv, hs1⟩ := wk_f2_cons hs
      obtain ⟨y2, st2, rfl, hw, hs2⟩ := wk_f2_cons hs1
      cases ht : wk_br cd pc off (wk_gi iv w) (wk_gi iv v) with
      | none => rw [ht] at hp; cases hp
      | some t =>
        rw [ht] at hp
        cases hp
        obtain ⟨r, r2, tgt, b, e1, e2, e3, e4, e5⟩ := wk_br_r ht
        obtain ⟨j, rfl, a1, a2⟩ := wk_gi_r hbx e1 hw
        obtain ⟨j2, rfl, b1, b2⟩ := wk_gi_r hbx e2 hv
        have hh := wk_cnd_r e4 a1 a2 b1 b2
        have k0 := kk ls lv st2 hl ha hs2
        refine wk_icmp hx hb hd e3 (fun q => ?_) (fun q => ?_)
        · rw [hh.mp q, if_pos rfl] at e5
          subst e5
          exact k0
        · have : b = false := by cases b; rfl; exact absurd (hh.mpr rfl) q
          rw [this, if_neg (by decide)] at e5
          subst e5
          exact k0
  | iadd =>
    obtain rfl := Nat.eq_of_beq_eq_true hlk
    rcases AS with _ | ⟨v, _ | ⟨w, AS⟩⟩
    · exact wk_no hp
    · exact wk_no hp
    · exact wk_bin hbx hp hs hl ha (fun a b r kw => lv_iadd hx hb hd kw) kk
  | isub =>
    obtain rfl := Nat.eq_of_beq_eq_true hlk
    rcases AS with _ | ⟨v, _ | ⟨w, AS⟩⟩
    · exact wk_no hp
    · exact wk_no hp
    · exact wk_bin hbx hp hs hl ha (fun a b r kw => lv_isub hx hb hd kw) kk
  | imul =>
    obtain rfl := Nat.eq_of_beq_eq_true hlk
    rcases AS with _ | ⟨v, _ | ⟨w, AS⟩⟩
    · exact wk_no hp
    · exact wk_no hp
    · exact wk_bin hbx hp hs hl ha (fun a b r kw => lv_imul hx hb hd kw) kk
  | iand =>
    obtain rfl := Nat.eq_of_beq_eq_true hlk
    rcases AS with _ | ⟨v, _ | ⟨w, AS⟩⟩
    · exact wk_no hp
    · exact wk_no hp
    · have hp : ((wk_an iv v w).map fun x => ((pc + 1, AL, x :: AS) : wk_P)) = some (pc', AL', AS') := hp
      obtain ⟨y, st1, rfl, hv, hs1⟩ := wk_f2_cons hs
      obtain ⟨y2, st2, rfl, hw, hs2⟩ := wk_f2_cons hs1
      cases ho : wk_an iv v w with
      | none => rw [ho] at hp; cases hp
      | some u =>
        rw [ho] at hp
        cases hp
        obtain ⟨a, b, rfl, rfl, hu⟩ := wk_an_r hbx hρ ho hw hv
        exact lv_iand hx hb hd (kk ls lv _ hl ha ⟨hu, hs2⟩)
  | ior =>
    obtain rfl := Nat.eq_of_beq_eq_true hlk
    rcases AS with _ | ⟨v, _ | ⟨w, AS⟩⟩
    · exact wk_no hp
    · exact wk_no hp
    · exact wk_bin hbx hp hs hl ha (fun a b r kw => lv_ior hx hb hd kw) kk
  | ixor =>
    obtain rfl := Nat.eq_of_beq_eq_true hlk
    rcases AS with _ | ⟨v, _ | ⟨w, AS⟩⟩
    · exact wk_no hp
    · exact wk_no hp
    · exact wk_bin hbx hp hs hl ha (fun a b r kw => lv_ixor hx hb hd kw) kk
  | ishl =>
    obtain rfl := Nat.eq_of_beq_eq_true hlk
    rcases AS with _ | ⟨v, _ | ⟨w, AS⟩⟩
    · exact wk_no hp
    · exact wk_no hp
    · exact wk_bin hbx hp hs hl ha (fun a b r kw => lv_ishl hx hb hd kw) kk
  | ishr =>
    obtain rfl := Nat.eq_of_beq_eq_true hlk
    rcases AS with _ | ⟨v, _ | ⟨w, AS⟩⟩
    · exact wk_no hp
    · exact wk_no hp
    · exact wk_bin hbx hp hs hl ha (fun a b r kw => lv_ishr hx hb hd kw) kk
  | idiv =>
    obtain rfl := Nat.eq_of_beq_eq_true hlk
    rcases AS with _ | ⟨v, _ | ⟨w, AS⟩⟩
    · exact wk_no hp
    · exact wk_no hp
    · exact wk_bind hbx hp hs hl ha (fun a b r h0 kw => lv_idiv hx hb hd h0 kw) kk
  | irem =>
    obtain rfl := Nat.eq_of_beq_eq_true hlk
    rcases AS with _ | ⟨v, _ | ⟨w, AS⟩⟩
    · exact wk_no hp
    · exact wk_no hp
    · exact wk_bind hbx hp hs hl ha (fun a b r h0 kw => lv_irem hx hb hd h0 kw) kk
  | ladd =>
    obtain rfl := Nat.eq_of_beq_eq_true hlk
    rcases AS with _ | ⟨v, _ | ⟨w, AS⟩⟩
    · exact wk_no hp
    · exact wk_no hp
    · exact wk_binj hbx hp hs hl ha (fun a b r kw => lv_ladd hx hb hd kw) kk
  | lsub =>
    obtain rfl := Nat.eq_of_beq_eq_true hlk
    rcases AS with _ | ⟨v, _ | ⟨w, AS⟩⟩
    · exact wk_no hp
    · exact wk_no hp
    · exact wk_binj hbx hp hs hl ha (fun a b r kw => lv_lsub hx hb hd kw) kk
  | lmul =>
    obtain rfl := Nat.eq_of_beq_eq_true hlk
    rcases AS with _ | ⟨v, _ | ⟨w, AS⟩⟩
    · exact wk_no hp
    · exact wk_no hp
    · exact wk_binj hbx hp hs hl ha (fun a b r kw => lv_lmul hx hb hd kw) kk
  | land =>
    obtain rfl := Nat.eq_of_beq_eq_true hlk
    rcases AS with _ | ⟨v, _ | ⟨w, AS⟩⟩
    · exact wk_no hp
    · exact wk_no hp
    · exact wk_binj hbx hp hs hl ha (fun a b r kw => lv_land hx hb hd kw) kk
  | lor =>
    obtain rfl := Nat.eq_of_beq_eq_true hlk
    rcases AS with _ | ⟨v, _ | ⟨w, AS⟩⟩
    · exact wk_no hp
    · exact wk_no hp
    · exact wk_binj hbx hp hs hl ha (fun a b r kw => lv_lor hx hb hd kw) kk
  | ldiv =>
    obtain rfl := Nat.eq_of_beq_eq_true hlk
    rcases AS with _ | ⟨v, _ | ⟨w, AS⟩⟩
    · exact wk_no hp
    · exact wk_no hp
    · exact wk_bindj hbx hp hs hl ha (fun a b r h0 kw => lv_ldiv hx hb hd h0 kw) kk
  | lrem =>
    obtain rfl := Nat.eq_of_beq_eq_true hlk
    rcases AS with _ | ⟨v, _ | ⟨w, AS⟩⟩
    · exact wk_no hp
    · exact wk_no hp
    · exact wk_bindj hbx hp hs hl ha (fun a b r h0 kw => lv_lrem hx hb hd h0 kw) kk
  | lshl =>
    obtain rfl := Nat.eq_of_beq_eq_true hlk
    rcases AS with _ | ⟨v, _ | ⟨w, AS⟩⟩
    · exact wk_no hp
    · exact wk_no hp
    · exact wk_bins hbx hp hs hl ha (fun a b r kw => lv_lshl hx hb hd rfl kw) kk
  | lshr =>
    obtain rfl := Nat.eq_of_beq_eq_true hlk
    rcases AS with _ | ⟨v, _ | ⟨w, AS⟩⟩
    · exact wk_no hp
    · exact wk_no hp
    · exact wk_bins hbx hp hs hl ha (fun a b r kw => lv_lshr hx hb hd rfl kw) kk
  | lushr =>
    obtain rfl := Nat.eq_of_beq_eq_true hlk
    rcases AS with _ | ⟨v, _ | ⟨w, AS⟩⟩
    · exact wk_no hp
    · exact wk_no hp
    · exact wk_bins hbx hp hs hl ha (fun a b r kw => lv_lushr hx hb hd rfl kw) kk
  | lcmp =>
    obtain rfl := Nat.eq_of_beq_eq_true hlk
    rcases AS with _ | ⟨v, _ | ⟨w, AS⟩⟩
    · exact wk_no hp
    · exact wk_no hp
    · have hp : ((wk_lc iv w v).map fun x => ((pc + 1, AL, x :: AS) : wk_P)) = some (pc', AL', AS') := hp
      obtain ⟨y, st1, rfl, hv, hs1⟩ := wk_f2_cons hs
      obtain ⟨y2, st2, rfl, hw, hs2⟩ := wk_f2_cons hs1
      cases ho : wk_lc iv w v with
      | none => rw [ho] at hp; cases hp
      | some u =>
        rw [ho] at hp
        cases hp
        obtain ⟨a, b, rfl, rfl, hu⟩ := wk_lc_r hbx ho hw hv
        exact W.lcmp hx hb hd (kk ls lv _ hl ha ⟨hu, hs2⟩)
  | ineg =>
    obtain rfl := Nat.eq_of_beq_eq_true hlk
    rcases AS with _ | ⟨v, AS⟩
    · exact wk_no hp
    · have hp : ((wk_o2 iv (fun a _ => -a) v (.inl (0, 0))).map fun x => ((pc + 1, AL, x :: AS) : wk_P)) = some (pc', AL', AS') := hp
      obtain ⟨y, st1, rfl, hv, hs1⟩ := wk_f2_cons hs
      cases ho : wk_o2 iv (fun a _ => -a) v (.inl (0, 0)) with
      | none => rw [ho] at hp; cases hp
      | some u =>
        rw [ho] at hp
        cases hp
        obtain ⟨a, b, rfl, -, hu⟩ := wk_o2_r hbx ho hv (y := .int 0) ⟨0, rfl, by decide, by decide⟩
        exact lv_ineg hx hb hd (kk ls lv _ hl ha ⟨hu, hs1⟩)
  | i2l =>
    obtain rfl := Nat.eq_of_beq_eq_true hlk
    rcases AS with _ | ⟨v, AS⟩
    · exact wk_no hp
    · have hp : ((wk_il iv v).map fun x => ((pc + 1, AL, x :: AS) : wk_P)) = some (pc', AL', AS') := hp
      obtain ⟨y, st1, rfl, hv, hs1⟩ := wk_f2_cons hs
      cases ho : wk_il iv v with
      | none => rw [ho] at hp; cases hp
      | some u =>
        rw [ho] at hp
        cases hp
        obtain ⟨a, rfl, hu⟩ := wk_il_r hbx ho hv
        exact lv_i2l hx hb hd rfl (kk ls lv _ hl ha ⟨hu, hs1⟩)
  | l2i =>
    obtain rfl := Nat.eq_of_beq_eq_true hlk
    rcases AS with _ | ⟨v, AS⟩
    · exact wk_no hp
    · have hp : ((wk_gj iv v).map fun p => ((pc + 1, AL, (if p.1 = p.2 then wk_sI (Int64.ofInt p.1).toInt32 else wk_tI) :: AS) : wk_P)) = some (pc', AL', AS') := hp
      obtain ⟨y, st1, rfl, hv, hs1⟩ := wk_f2_cons hs
      cases hg : wk_gj iv v with
      | none => rw [hg] at hp; cases hp
      | some q =>
        rw [hg] at hp
        cases hp
        obtain ⟨a, rfl, a1, a2⟩ := wk_gj_r hbx hg hv
        refine lv_l2i hx hb hd rfl (kk ls lv _ hl ha ⟨?_, hs1⟩)
        split
        · rename_i hq
          rw [wk_i64 (x := a) (a := q.1) (by omega)]
          exact wk_sI_r _
        · exact wk_tI_r _
  | dup =>
    obtain rfl := Nat.eq_of_beq_eq_true hlk
    rcases AS with _ | ⟨v, AS⟩
    · exact wk_no hp
    · have hp : (if wk_c1 v then some ((pc + 1, AL, v :: v :: AS) : wk_P) else none) = some (pc', AL', AS') := hp
      obtain ⟨y, st1, rfl, hv, hs1⟩ := wk_f2_cons hs
      split at hp
      · cases hp
        rename_i h1
        exact lv_dup hx hb hd (wk_c1_r h1 hv) (kk ls lv _ hl ha ⟨hv, hv, hs1⟩)
      · cases hp
  | dup_x1 =>
    obtain rfl := Nat.eq_of_beq_eq_true hlk
    rcases AS with _ | ⟨v, _ | ⟨w, AS⟩⟩
    · exact wk_no hp
    · exact wk_no hp
    · have hp : (if wk_c1 v ∧ wk_c1 w then some ((pc + 1, AL, v :: w :: v :: AS) : wk_P) else none) = some (pc', AL', AS') := hp
      obtain ⟨y, st1, rfl, hv, hs1⟩ := wk_f2_cons hs
      obtain ⟨y2, st2, rfl, hw, hs2⟩ := wk_f2_cons hs1
      split at hp
      · cases hp
        rename_i h1
        exact lv_dup_x1 hx hb hd (wk_c1_r h1.1 hv) (wk_c1_r h1.2 hw) (kk ls lv _ hl ha ⟨hv, hw, hv, hs2⟩)
      · cases hp
  | dup2 =>
    obtain rfl := Nat.eq_of_beq_eq_true hlk
    rcases AS with _ | ⟨v, _ | ⟨w, AS⟩⟩
    · exact wk_no hp
    · exact wk_no hp
    · have hp : (if wk_c1 v ∧ wk_c1 w then some ((pc + 1, AL, v :: w :: v :: w :: AS) : wk_P) else none) = some (pc', AL', AS') := hp
      obtain ⟨y, st1, rfl, hv, hs1⟩ := wk_f2_cons hs
      obtain ⟨y2, st2, rfl, hw, hs2⟩ := wk_f2_cons hs1
      split at hp
      · cases hp
        rename_i h1
        exact lv_dup2_11 hx hb hd (wk_c1_r h1.1 hv) (wk_c1_r h1.2 hw) (kk ls lv _ hl ha ⟨hv, hw, hv, hw, hs2⟩)
      · cases hp
  | pop =>
    obtain rfl := Nat.eq_of_beq_eq_true hlk
    rcases AS with _ | ⟨v, AS⟩
    · exact wk_no hp
    · have hp : (if wk_c1 v then some ((pc + 1, AL, AS) : wk_P) else none) = some (pc', AL', AS') := hp
      obtain ⟨y, st1, rfl, hv, hs1⟩ := wk_f2_cons hs
      split at hp
      · cases hp
        rename_i h1
        exact lv_pop hx hb hd (wk_c1_r h1 hv) (kk ls lv _ hl ha hs1)
      · cases hp
  | tableswitch dft lo hi offs =>
    rcases AS with _ | ⟨v, AS⟩
    · exact wk_no hp
    · have hp : ((wk_gi iv v).bind fun p => if p.1 = p.2 then (if p.1 < lo ∨ hi < p.1 then (wk_to pc dft).map fun t => ((t, AL, AS) : wk_P) else (offs[(p.1 - lo).toNat]?.bind fun o => wk_to pc o).map fun t => (t, AL, AS)) else if p.2 < lo ∨ hi < p.1 then (wk_to pc dft).map fun t => (t, AL, AS) else none) = some (pc', AL', AS') := hp
      obtain ⟨y, st1, rfl, hv, hs1⟩ := wk_f2_cons hs
      cases hg : wk_gi iv v with
      | none => rw [hg] at hp; cases hp
      | some q =>
        rw [hg] at hp
        simp only [Option.bind_some] at hp
        obtain ⟨a, rfl, a1, a2⟩ := wk_gi_r hbx hg hv
        split at hp
        · rename_i hq
          have ea : a.toInt = q.1 := by omega
          split at hp
          · rename_i ho
            cases ht : wk_to pc dft with
            | none => rw [ht] at hp; cases hp
            | some t =>
              rw [ht] at hp
              cases hp
              exact lv_tableOut hx hb hd (by rw [ea]; exact ho) (wk_to_r ht) (kk ls lv _ hl ha hs1)
          · rename_i ho
            cases hof : offs[(q.1 - lo).toNat]? with
            | none => rw [hof] at hp; cases hp
            | some o =>
              rw [hof] at hp
              simp only [Option.bind_some] at hp
              cases ht : wk_to pc o with
              | none => rw [ht] at hp; cases hp
              | some t =>
                rw [ht] at hp
                cases hp
                exact lv_tableIn hx hb hd (by rw [ea]; exact fun z => ho (Or.inl z)) (by rw [ea]; exact fun z => ho (Or.inr z)) (by rw [ea]; exact hof) (wk_to_r ht) (kk ls lv _ hl ha hs1)
        · split at hp
          · rename_i ho
            cases ht : wk_to pc dft with
            | none => rw [ht] at hp; cases hp
            | some t =>
              rw [ht] at hp
              cases hp
              exact lv_tableOut hx hb hd (by omega) (wk_to_r ht) (kk ls lv _ hl ha hs1)
          · cases hp
  | _ => exact wk_no hp
end WKP
end
