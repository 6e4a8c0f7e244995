section
-- ===== PART A: goes FIRST, ahead of the names: the tables' words, and 'selects' of the private methods out of them =====
/-- a private method of a class that the tables say can be made, by its rows of tables_1 -/
def lw_okq (q : MethodName × Nat) : Prop := (q.1.cls ≠ "java/lang/invoke/MethodHandle" ∧ q.1.cls ≠ "java/lang/invoke/VarHandle") ∧ Cond.instantiable q.1.cls q.2 ∈ tables_1 ∧ Cond.privateMethod q.1 ∈ tables_1 ∧ Cond.instanceMethod q.1 ∈ tables_1
theorem lw_p0 : lw_okq (⟨"EvenSides$Reader", "step", "()V"⟩, 9) := ⟨⟨by decide +kernel, by decide +kernel⟩, List.mem_of_getElem? (i := 118) (by decide +kernel), List.mem_of_getElem? (i := 550) (by decide +kernel), List.mem_of_getElem? (i := 551) (by decide +kernel)⟩
theorem lw_p1 : lw_okq (⟨"EvenSides$Reader", "readItem", "(I)I"⟩, 9) := ⟨⟨by decide +kernel, by decide +kernel⟩, List.mem_of_getElem? (i := 118) (by decide +kernel), List.mem_of_getElem? (i := 561) (by decide +kernel), List.mem_of_getElem? (i := 562) (by decide +kernel)⟩
theorem lw_p2 : lw_okq (⟨"EvenSides$Reader", "verbHere", "(I)I"⟩, 9) := ⟨⟨by decide +kernel, by decide +kernel⟩, List.mem_of_getElem? (i := 118) (by decide +kernel), List.mem_of_getElem? (i := 565) (by decide +kernel), List.mem_of_getElem? (i := 566) (by decide +kernel)⟩
theorem lw_p3 : lw_okq (⟨"EvenSides$Reader", "isHere", "(Ljava/lang/String;)Z"⟩, 9) := ⟨⟨by decide +kernel, by decide +kernel⟩, List.mem_of_getElem? (i := 118) (by decide +kernel), List.mem_of_getElem? (i := 588) (by decide +kernel), List.mem_of_getElem? (i := 589) (by decide +kernel)⟩
theorem lw_p4 : lw_okq (⟨"EvenSides$Reader", "hardHere", "()I"⟩, 9) := ⟨⟨by decide +kernel, by decide +kernel⟩, List.mem_of_getElem? (i := 118) (by decide +kernel), List.mem_of_getElem? (i := 649) (by decide +kernel), List.mem_of_getElem? (i := 650) (by decide +kernel)⟩
theorem lw_p5 : lw_okq (⟨"EvenSides$Reader", "numberHere", "()I"⟩, 9) := ⟨⟨by decide +kernel, by decide +kernel⟩, List.mem_of_getElem? (i := 118) (by decide +kernel), List.mem_of_getElem? (i := 655) (by decide +kernel), List.mem_of_getElem? (i := 656) (by decide +kernel)⟩
theorem lw_p6 : lw_okq (⟨"EvenSides$Acts", "begin", "()V"⟩, 15) := ⟨⟨by decide +kernel, by decide +kernel⟩, List.mem_of_getElem? (i := 160) (by decide +kernel), List.mem_of_getElem? (i := 702) (by decide +kernel), List.mem_of_getElem? (i := 703) (by decide +kernel)⟩
theorem lw_p7 : lw_okq (⟨"EvenSides$Acts", "weighLoads", "()V"⟩, 15) := ⟨⟨by decide +kernel, by decide +kernel⟩, List.mem_of_getElem? (i := 160) (by decide +kernel), List.mem_of_getElem? (i := 706) (by decide +kernel), List.mem_of_getElem? (i := 707) (by decide +kernel)⟩
theorem lw_p8 : lw_okq (⟨"EvenSides$Acts", "act", "(I[I)I"⟩, 15) := ⟨⟨by decide +kernel, by decide +kernel⟩, List.mem_of_getElem? (i := 160) (by decide +kernel), List.mem_of_getElem? (i := 719) (by decide +kernel), List.mem_of_getElem? (i := 720) (by decide +kernel)⟩
theorem lw_p9 : lw_okq (⟨"EvenSides$Acts", "hangUp", "(III)I"⟩, 15) := ⟨⟨by decide +kernel, by decide +kernel⟩, List.mem_of_getElem? (i := 160) (by decide +kernel), List.mem_of_getElem? (i := 723) (by decide +kernel), List.mem_of_getElem? (i := 724) (by decide +kernel)⟩
theorem lw_p10 : lw_okq (⟨"EvenSides$Acts", "wrongOn", "(IIZ)I"⟩, 15) := ⟨⟨by decide +kernel, by decide +kernel⟩, List.mem_of_getElem? (i := 160) (by decide +kernel), List.mem_of_getElem? (i := 729) (by decide +kernel), List.mem_of_getElem? (i := 730) (by decide +kernel)⟩
theorem lw_p11 : lw_okq (⟨"EvenSides$Acts", "tooHeavy", "(IIZ)Z"⟩, 15) := ⟨⟨by decide +kernel, by decide +kernel⟩, List.mem_of_getElem? (i := 160) (by decide +kernel), List.mem_of_getElem? (i := 741) (by decide +kernel), List.mem_of_getElem? (i := 742) (by decide +kernel)⟩
theorem lw_p12 : lw_okq (⟨"EvenSides$Acts", "lieOn", "(II)V"⟩, 15) := ⟨⟨by decide +kernel, by decide +kernel⟩, List.mem_of_getElem? (i := 160) (by decide +kernel), List.mem_of_getElem? (i := 749) (by decide +kernel), List.mem_of_getElem? (i := 750) (by decide +kernel)⟩
theorem lw_p13 : lw_okq (⟨"EvenSides$Acts", "takeOff", "(II)I"⟩, 15) := ⟨⟨by decide +kernel, by decide +kernel⟩, List.mem_of_getElem? (i := 160) (by decide +kernel), List.mem_of_getElem? (i := 753) (by decide +kernel), List.mem_of_getElem? (i := 754) (by decide +kernel)⟩
theorem lw_p14 : lw_okq (⟨"EvenSides$Acts", "shift", "(IIII)I"⟩, 15) := ⟨⟨by decide +kernel, by decide +kernel⟩, List.mem_of_getElem? (i := 160) (by decide +kernel), List.mem_of_getElem? (i := 757) (by decide +kernel), List.mem_of_getElem? (i := 758) (by decide +kernel)⟩
theorem lw_p15 : lw_okq (⟨"EvenSides$Acts", "stoneOn", "(II)I"⟩, 15) := ⟨⟨by decide +kernel, by decide +kernel⟩, List.mem_of_getElem? (i := 160) (by decide +kernel), List.mem_of_getElem? (i := 761) (by decide +kernel), List.mem_of_getElem? (i := 762) (by decide +kernel)⟩
def lw_privs_1 : List (MethodName × Nat) := [(⟨"EvenSides$Reader", "step", "()V"⟩, 9), (⟨"EvenSides$Reader", "readItem", "(I)I"⟩, 9), (⟨"EvenSides$Reader", "verbHere", "(I)I"⟩, 9), (⟨"EvenSides$Reader", "isHere", "(Ljava/lang/String;)Z"⟩, 9), (⟨"EvenSides$Reader", "hardHere", "()I"⟩, 9), (⟨"EvenSides$Reader", "numberHere", "()I"⟩, 9), (⟨"EvenSides$Acts", "begin", "()V"⟩, 15), (⟨"EvenSides$Acts", "weighLoads", "()V"⟩, 15), (⟨"EvenSides$Acts", "act", "(I[I)I"⟩, 15), (⟨"EvenSides$Acts", "hangUp", "(III)I"⟩, 15), (⟨"EvenSides$Acts", "wrongOn", "(IIZ)I"⟩, 15), (⟨"EvenSides$Acts", "tooHeavy", "(IIZ)Z"⟩, 15), (⟨"EvenSides$Acts", "lieOn", "(II)V"⟩, 15), (⟨"EvenSides$Acts", "takeOff", "(II)I"⟩, 15), (⟨"EvenSides$Acts", "shift", "(IIII)I"⟩, 15), (⟨"EvenSides$Acts", "stoneOn", "(II)I"⟩, 15)]
theorem lw_r1 : ∀ q ∈ lw_privs_1, lw_okq q := List.forall_mem_cons.mpr ⟨lw_p0, List.forall_mem_cons.mpr ⟨lw_p1, List.forall_mem_cons.mpr ⟨lw_p2, List.forall_mem_cons.mpr ⟨lw_p3, List.forall_mem_cons.mpr ⟨lw_p4, List.forall_mem_cons.mpr ⟨lw_p5, List.forall_mem_cons.mpr ⟨lw_p6, List.forall_mem_cons.mpr ⟨lw_p7, List.forall_mem_cons.mpr ⟨lw_p8, List.forall_mem_cons.mpr ⟨lw_p9, List.forall_mem_cons.mpr ⟨lw_p10, List.forall_mem_cons.mpr ⟨lw_p11, List.forall_mem_cons.mpr ⟨lw_p12, List.forall_mem_cons.mpr ⟨lw_p13, List.forall_mem_cons.mpr ⟨lw_p14, List.forall_mem_cons.mpr ⟨lw_p15, fun _ h => absurd h List.not_mem_nil⟩⟩⟩⟩⟩⟩⟩⟩⟩⟩⟩⟩⟩⟩⟩⟩
theorem lw_p16 : lw_okq (⟨"EvenSides$Acts", "stoneOff", "(II)I"⟩, 15) := ⟨⟨by decide +kernel, by decide +kernel⟩, List.mem_of_getElem? (i := 160) (by decide +kernel), List.mem_of_getElem? (i := 765) (by decide +kernel), List.mem_of_getElem? (i := 766) (by decide +kernel)⟩
theorem lw_p17 : lw_okq (⟨"EvenSides$Acts", "goTo", "(I)I"⟩, 15) := ⟨⟨by decide +kernel, by decide +kernel⟩, List.mem_of_getElem? (i := 160) (by decide +kernel), List.mem_of_getElem? (i := 769) (by decide +kernel), List.mem_of_getElem? (i := 770) (by decide +kernel)⟩
theorem lw_p18 : lw_okq (⟨"EvenSides$Acts", "softLowest", "()Z"⟩, 15) := ⟨⟨by decide +kernel, by decide +kernel⟩, List.mem_of_getElem? (i := 160) (by decide +kernel), List.mem_of_getElem? (i := 774) (by decide +kernel), List.mem_of_getElem? (i := 775) (by decide +kernel)⟩
theorem lw_p19 : lw_okq (⟨"EvenSides$Acts", "soreByMile", "()Z"⟩, 15) := ⟨⟨by decide +kernel, by decide +kernel⟩, List.mem_of_getElem? (i := 160) (by decide +kernel), List.mem_of_getElem? (i := 778) (by decide +kernel), List.mem_of_getElem? (i := 779) (by decide +kernel)⟩
theorem lw_p20 : lw_okq (⟨"EvenSides", "weighTold", "()Z"⟩, 13) := ⟨⟨by decide +kernel, by decide +kernel⟩, List.mem_of_getElem? (i := 19) (by decide +kernel), List.mem_of_getElem? (i := 852) (by decide +kernel), List.mem_of_getElem? (i := 853) (by decide +kernel)⟩
theorem lw_p21 : lw_okq (⟨"EvenSides$Legs", "findStops", "(I)V"⟩, 8) := ⟨⟨by decide +kernel, by decide +kernel⟩, List.mem_of_getElem? (i := 221) (by decide +kernel), List.mem_of_getElem? (i := 862) (by decide +kernel), List.mem_of_getElem? (i := 863) (by decide +kernel)⟩
theorem lw_p22 : lw_okq (⟨"EvenSides$Scales", "empty", "()V"⟩, 14) := ⟨⟨by decide +kernel, by decide +kernel⟩, List.mem_of_getElem? (i := 261) (by decide +kernel), List.mem_of_getElem? (i := 871) (by decide +kernel), List.mem_of_getElem? (i := 872) (by decide +kernel)⟩
theorem lw_p23 : lw_okq (⟨"EvenSides$Scales", "bring", "(IIII)V"⟩, 14) := ⟨⟨by decide +kernel, by decide +kernel⟩, List.mem_of_getElem? (i := 261) (by decide +kernel), List.mem_of_getElem? (i := 884) (by decide +kernel), List.mem_of_getElem? (i := 885) (by decide +kernel)⟩
theorem lw_p24 : lw_okq (⟨"EvenSides$Scales", "isBorneWith", "(I)Z"⟩, 14) := ⟨⟨by decide +kernel, by decide +kernel⟩, List.mem_of_getElem? (i := 261) (by decide +kernel), List.mem_of_getElem? (i := 888) (by decide +kernel), List.mem_of_getElem? (i := 889) (by decide +kernel)⟩
theorem lw_p25 : lw_okq (⟨"EvenSides$Scales", "more", "(II)I"⟩, 14) := ⟨⟨by decide +kernel, by decide +kernel⟩, List.mem_of_getElem? (i := 261) (by decide +kernel), List.mem_of_getElem? (i := 900) (by decide +kernel), List.mem_of_getElem? (i := 901) (by decide +kernel)⟩
theorem lw_p26 : lw_okq (⟨"EvenSides$Scales", "beginSeeking", "()V"⟩, 14) := ⟨⟨by decide +kernel, by decide +kernel⟩, List.mem_of_getElem? (i := 261) (by decide +kernel), List.mem_of_getElem? (i := 926) (by decide +kernel), List.mem_of_getElem? (i := 927) (by decide +kernel)⟩
theorem lw_p27 : lw_okq (⟨"EvenSides$Scales", "judge", "()V"⟩, 14) := ⟨⟨by decide +kernel, by decide +kernel⟩, List.mem_of_getElem? (i := 261) (by decide +kernel), List.mem_of_getElem? (i := 933) (by decide +kernel), List.mem_of_getElem? (i := 934) (by decide +kernel)⟩
theorem lw_p28 : lw_okq (⟨"EvenSides$Scales", "isEven", "(I)Z"⟩, 14) := ⟨⟨by decide +kernel, by decide +kernel⟩, List.mem_of_getElem? (i := 261) (by decide +kernel), List.mem_of_getElem? (i := 944) (by decide +kernel), List.mem_of_getElem? (i := 945) (by decide +kernel)⟩
theorem lw_p29 : lw_okq (⟨"EvenSides$Scales", "repeats", "(I)Z"⟩, 14) := ⟨⟨by decide +kernel, by decide +kernel⟩, List.mem_of_getElem? (i := 261) (by decide +kernel), List.mem_of_getElem? (i := 950) (by decide +kernel), List.mem_of_getElem? (i := 951) (by decide +kernel)⟩
theorem lw_p30 : lw_okq (⟨"EvenSides$Scales", "mayDoBetter", "(I)Z"⟩, 14) := ⟨⟨by decide +kernel, by decide +kernel⟩, List.mem_of_getElem? (i := 261) (by decide +kernel), List.mem_of_getElem? (i := 957) (by decide +kernel), List.mem_of_getElem? (i := 958) (by decide +kernel)⟩
theorem lw_p31 : lw_okq (⟨"EvenSides$Routes", "beginOrders", "()V"⟩, 7) := ⟨⟨by decide +kernel, by decide +kernel⟩, List.mem_of_getElem? (i := 315) (by decide +kernel), List.mem_of_getElem? (i := 970) (by decide +kernel), List.mem_of_getElem? (i := 971) (by decide +kernel)⟩
def lw_privs_2 : List (MethodName × Nat) := [(⟨"EvenSides$Acts", "stoneOff", "(II)I"⟩, 15), (⟨"EvenSides$Acts", "goTo", "(I)I"⟩, 15), (⟨"EvenSides$Acts", "softLowest", "()Z"⟩, 15), (⟨"EvenSides$Acts", "soreByMile", "()Z"⟩, 15), (⟨"EvenSides", "weighTold", "()Z"⟩, 13), (⟨"EvenSides$Legs", "findStops", "(I)V"⟩, 8), (⟨"EvenSides$Scales", "empty", "()V"⟩, 14), (⟨"EvenSides$Scales", "bring", "(IIII)V"⟩, 14), (⟨"EvenSides$Scales", "isBorneWith", "(I)Z"⟩, 14), (⟨"EvenSides$Scales", "more", "(II)I"⟩, 14), (⟨"EvenSides$Scales", "beginSeeking", "()V"⟩, 14), (⟨"EvenSides$Scales", "judge", "()V"⟩, 14), (⟨"EvenSides$Scales", "isEven", "(I)Z"⟩, 14), (⟨"EvenSides$Scales", "repeats", "(I)Z"⟩, 14), (⟨"EvenSides$Scales", "mayDoBetter", "(I)Z"⟩, 14), (⟨"EvenSides$Routes", "beginOrders", "()V"⟩, 7)]
theorem lw_r2 : ∀ q ∈ lw_privs_2, lw_okq q := List.forall_mem_cons.mpr ⟨lw_p16, List.forall_mem_cons.mpr ⟨lw_p17, List.forall_mem_cons.mpr ⟨lw_p18, List.forall_mem_cons.mpr ⟨lw_p19, List.forall_mem_cons.mpr ⟨lw_p20, List.forall_mem_cons.mpr ⟨lw_p21, List.forall_mem_cons.mpr ⟨lw_p22, List.forall_mem_cons.mpr ⟨lw_p23, List.forall_mem_cons.mpr ⟨lw_p24, List.forall_mem_cons.mpr ⟨lw_p25, List.forall_mem_cons.mpr ⟨lw_p26, List.forall_mem_cons.mpr ⟨lw_p27, List.forall_mem_cons.mpr ⟨lw_p28, List.forall_mem_cons.mpr ⟨lw_p29, List.forall_mem_cons.mpr ⟨lw_p30, List.forall_mem_cons.mpr ⟨lw_p31, fun _ h => absurd h List.not_mem_nil⟩⟩⟩⟩⟩⟩⟩⟩⟩⟩⟩⟩⟩⟩⟩⟩
theorem lw_p32 : lw_okq (⟨"EvenSides$Routes", "nextOrder", "()Z"⟩, 7) := ⟨⟨by decide +kernel, by decide +kernel⟩, List.mem_of_getElem? (i := 315) (by decide +kernel), List.mem_of_getElem? (i := 978) (by decide +kernel), List.mem_of_getElem? (i := 979) (by decide +kernel)⟩
theorem lw_p33 : lw_okq (⟨"EvenSides$Routes", "exchange", "(II)V"⟩, 7) := ⟨⟨by decide +kernel, by decide +kernel⟩, List.mem_of_getElem? (i := 315) (by decide +kernel), List.mem_of_getElem? (i := 982) (by decide +kernel), List.mem_of_getElem? (i := 983) (by decide +kernel)⟩
theorem lw_p34 : lw_okq (⟨"EvenSides$Layers", "findEvents", "(I)V"⟩, 4) := ⟨⟨by decide +kernel, by decide +kernel⟩, List.mem_of_getElem? (i := 346) (by decide +kernel), List.mem_of_getElem? (i := 994) (by decide +kernel), List.mem_of_getElem? (i := 995) (by decide +kernel)⟩
theorem lw_p35 : lw_okq (⟨"EvenSides$Layers", "addEvents", "(I[III)V"⟩, 4) := ⟨⟨by decide +kernel, by decide +kernel⟩, List.mem_of_getElem? (i := 346) (by decide +kernel), List.mem_of_getElem? (i := 998) (by decide +kernel), List.mem_of_getElem? (i := 999) (by decide +kernel)⟩
theorem lw_p36 : lw_okq (⟨"EvenSides$Layers", "mayLie", "(IIII)Z"⟩, 4) := ⟨⟨by decide +kernel, by decide +kernel⟩, List.mem_of_getElem? (i := 346) (by decide +kernel), List.mem_of_getElem? (i := 1015) (by decide +kernel), List.mem_of_getElem? (i := 1016) (by decide +kernel)⟩
theorem lw_p37 : lw_okq (⟨"EvenSides$Scales", "fewestTo", "(I)I"⟩, 14) := ⟨⟨by decide +kernel, by decide +kernel⟩, List.mem_of_getElem? (i := 261) (by decide +kernel), List.mem_of_getElem? (i := 1033) (by decide +kernel), List.mem_of_getElem? (i := 1034) (by decide +kernel)⟩
theorem lw_p38 : lw_okq (⟨"EvenSides$Legs", "isUnsure", "(I)Z"⟩, 8) := ⟨⟨by decide +kernel, by decide +kernel⟩, List.mem_of_getElem? (i := 221) (by decide +kernel), List.mem_of_getElem? (i := 1046) (by decide +kernel), List.mem_of_getElem? (i := 1047) (by decide +kernel)⟩
theorem lw_p39 : lw_okq (⟨"EvenSides", "setFraction", "(JJ)V"⟩, 13) := ⟨⟨by decide +kernel, by decide +kernel⟩, List.mem_of_getElem? (i := 19) (by decide +kernel), List.mem_of_getElem? (i := 1058) (by decide +kernel), List.mem_of_getElem? (i := 1059) (by decide +kernel)⟩
theorem lw_p40 : lw_okq (⟨"EvenSides$Alone", "gather", "(I)Z"⟩, 6) := ⟨⟨by decide +kernel, by decide +kernel⟩, List.mem_of_getElem? (i := 365) (by decide +kernel), List.mem_of_getElem? (i := 1083) (by decide +kernel), List.mem_of_getElem? (i := 1084) (by decide +kernel)⟩
theorem lw_p41 : lw_okq (⟨"EvenSides$Alone", "mayFollow", "(II)Z"⟩, 6) := ⟨⟨by decide +kernel, by decide +kernel⟩, List.mem_of_getElem? (i := 365) (by decide +kernel), List.mem_of_getElem? (i := 1088) (by decide +kernel), List.mem_of_getElem? (i := 1089) (by decide +kernel)⟩
theorem lw_p42 : lw_okq (⟨"EvenSides$Alone", "nextInFirst", "(I)I"⟩, 6) := ⟨⟨by decide +kernel, by decide +kernel⟩, List.mem_of_getElem? (i := 365) (by decide +kernel), List.mem_of_getElem? (i := 1097) (by decide +kernel), List.mem_of_getElem? (i := 1098) (by decide +kernel)⟩
theorem lw_p43 : lw_okq (⟨"EvenSidesModel", "begins", "()V"⟩, 49) := ⟨⟨by decide +kernel, by decide +kernel⟩, List.mem_of_getElem? (i := 1145) (by decide +kernel), List.mem_of_getElem? (i := 1151) (by decide +kernel), List.mem_of_getElem? (i := 1152) (by decide +kernel)⟩
theorem lw_p44 : lw_okq (⟨"EvenSidesModel", "isPlace", "(I)Z"⟩, 49) := ⟨⟨by decide +kernel, by decide +kernel⟩, List.mem_of_getElem? (i := 1145) (by decide +kernel), List.mem_of_getElem? (i := 1311) (by decide +kernel), List.mem_of_getElem? (i := 1312) (by decide +kernel)⟩
theorem lw_p45 : lw_okq (⟨"EvenSidesModel", "sets", "(IJ)I"⟩, 49) := ⟨⟨by decide +kernel, by decide +kernel⟩, List.mem_of_getElem? (i := 1145) (by decide +kernel), List.mem_of_getElem? (i := 1319) (by decide +kernel), List.mem_of_getElem? (i := 1320) (by decide +kernel)⟩
theorem lw_p46 : lw_okq (⟨"EvenSidesModel", "isDoor", "(I)Z"⟩, 49) := ⟨⟨by decide +kernel, by decide +kernel⟩, List.mem_of_getElem? (i := 1145) (by decide +kernel), List.mem_of_getElem? (i := 1327) (by decide +kernel), List.mem_of_getElem? (i := 1328) (by decide +kernel)⟩
theorem lw_p47 : lw_okq (⟨"EvenSidesModel", "isMule", "(I)Z"⟩, 49) := ⟨⟨by decide +kernel, by decide +kernel⟩, List.mem_of_getElem? (i := 1145) (by decide +kernel), List.mem_of_getElem? (i := 1345) (by decide +kernel), List.mem_of_getElem? (i := 1346) (by decide +kernel)⟩
def lw_privs_3 : List (MethodName × Nat) := [(⟨"EvenSides$Routes", "nextOrder", "()Z"⟩, 7), (⟨"EvenSides$Routes", "exchange", "(II)V"⟩, 7), (⟨"EvenSides$Layers", "findEvents", "(I)V"⟩, 4), (⟨"EvenSides$Layers", "addEvents", "(I[III)V"⟩, 4), (⟨"EvenSides$Layers", "mayLie", "(IIII)Z"⟩, 4), (⟨"EvenSides$Scales", "fewestTo", "(I)I"⟩, 14), (⟨"EvenSides$Legs", "isUnsure", "(I)Z"⟩, 8), (⟨"EvenSides", "setFraction", "(JJ)V"⟩, 13), (⟨"EvenSides$Alone", "gather", "(I)Z"⟩, 6), (⟨"EvenSides$Alone", "mayFollow", "(II)Z"⟩, 6), (⟨"EvenSides$Alone", "nextInFirst", "(I)I"⟩, 6), (⟨"EvenSidesModel", "begins", "()V"⟩, 49), (⟨"EvenSidesModel", "isPlace", "(I)Z"⟩, 49), (⟨"EvenSidesModel", "sets", "(IJ)I"⟩, 49), (⟨"EvenSidesModel", "isDoor", "(I)Z"⟩, 49), (⟨"EvenSidesModel", "isMule", "(I)Z"⟩, 49)]
theorem lw_r3 : ∀ q ∈ lw_privs_3, lw_okq q := List.forall_mem_cons.mpr ⟨lw_p32, List.forall_mem_cons.mpr ⟨lw_p33, List.forall_mem_cons.mpr ⟨lw_p34, List.forall_mem_cons.mpr ⟨lw_p35, List.forall_mem_cons.mpr ⟨lw_p36, List.forall_mem_cons.mpr ⟨lw_p37, List.forall_mem_cons.mpr ⟨lw_p38, List.forall_mem_cons.mpr ⟨lw_p39, List.forall_mem_cons.mpr ⟨lw_p40, List.forall_mem_cons.mpr ⟨lw_p41, List.forall_mem_cons.mpr ⟨lw_p42, List.forall_mem_cons.mpr ⟨lw_p43, List.forall_mem_cons.mpr ⟨lw_p44, List.forall_mem_cons.mpr ⟨lw_p45, List.forall_mem_cons.mpr ⟨lw_p46, List.forall_mem_cons.mpr ⟨lw_p47, fun _ h => absurd h List.not_mem_nil⟩⟩⟩⟩⟩⟩⟩⟩⟩⟩⟩⟩⟩⟩⟩⟩
theorem lw_p48 : lw_okq (⟨"EvenSidesModel", "isLoad", "(I)Z"⟩, 49) := ⟨⟨by decide +kernel, by decide +kernel⟩, List.mem_of_getElem? (i := 1145) (by decide +kernel), List.mem_of_getElem? (i := 1360) (by decide +kernel), List.mem_of_getElem? (i := 1361) (by decide +kernel)⟩
theorem lw_p49 : lw_okq (⟨"EvenSidesModel", "reads", "(I)Z"⟩, 49) := ⟨⟨by decide +kernel, by decide +kernel⟩, List.mem_of_getElem? (i := 1145) (by decide +kernel), List.mem_of_getElem? (i := 1391) (by decide +kernel), List.mem_of_getElem? (i := 1392) (by decide +kernel)⟩
theorem lw_p50 : lw_okq (⟨"EvenSidesModel", "scans", "()V"⟩, 49) := ⟨⟨by decide +kernel, by decide +kernel⟩, List.mem_of_getElem? (i := 1145) (by decide +kernel), List.mem_of_getElem? (i := 1395) (by decide +kernel), List.mem_of_getElem? (i := 1396) (by decide +kernel)⟩
theorem lw_p51 : lw_okq (⟨"EvenSidesModel", "isAt", "(II)Z"⟩, 49) := ⟨⟨by decide +kernel, by decide +kernel⟩, List.mem_of_getElem? (i := 1145) (by decide +kernel), List.mem_of_getElem? (i := 1399) (by decide +kernel), List.mem_of_getElem? (i := 1400) (by decide +kernel)⟩
theorem lw_p52 : lw_okq (⟨"EvenSidesModel", "byteAt", "(I)I"⟩, 49) := ⟨⟨by decide +kernel, by decide +kernel⟩, List.mem_of_getElem? (i := 1145) (by decide +kernel), List.mem_of_getElem? (i := 1404) (by decide +kernel), List.mem_of_getElem? (i := 1405) (by decide +kernel)⟩
theorem lw_p53 : lw_okq (⟨"EvenSidesModel", "tellsItem", "(I)I"⟩, 49) := ⟨⟨by decide +kernel, by decide +kernel⟩, List.mem_of_getElem? (i := 1145) (by decide +kernel), List.mem_of_getElem? (i := 1440) (by decide +kernel), List.mem_of_getElem? (i := 1441) (by decide +kernel)⟩
theorem lw_p54 : lw_okq (⟨"EvenSidesModel", "num", "(II)I"⟩, 49) := ⟨⟨by decide +kernel, by decide +kernel⟩, List.mem_of_getElem? (i := 1145) (by decide +kernel), List.mem_of_getElem? (i := 1444) (by decide +kernel), List.mem_of_getElem? (i := 1445) (by decide +kernel)⟩
theorem lw_p55 : lw_okq (⟨"EvenSidesModel", "runs", "()Z"⟩, 49) := ⟨⟨by decide +kernel, by decide +kernel⟩, List.mem_of_getElem? (i := 1145) (by decide +kernel), List.mem_of_getElem? (i := 1462) (by decide +kernel), List.mem_of_getElem? (i := 1463) (by decide +kernel)⟩
theorem lw_p56 : lw_okq (⟨"EvenSidesModel", "ofLoad", "(II)I"⟩, 49) := ⟨⟨by decide +kernel, by decide +kernel⟩, List.mem_of_getElem? (i := 1145) (by decide +kernel), List.mem_of_getElem? (i := 1466) (by decide +kernel), List.mem_of_getElem? (i := 1467) (by decide +kernel)⟩
theorem lw_p57 : lw_okq (⟨"EvenSidesModel", "acts", "(I)I"⟩, 49) := ⟨⟨by decide +kernel, by decide +kernel⟩, List.mem_of_getElem? (i := 1145) (by decide +kernel), List.mem_of_getElem? (i := 1470) (by decide +kernel), List.mem_of_getElem? (i := 1471) (by decide +kernel)⟩
theorem lw_p58 : lw_okq (⟨"EvenSidesModel", "hangs", "(III)I"⟩, 49) := ⟨⟨by decide +kernel, by decide +kernel⟩, List.mem_of_getElem? (i := 1145) (by decide +kernel), List.mem_of_getElem? (i := 1474) (by decide +kernel), List.mem_of_getElem? (i := 1475) (by decide +kernel)⟩
theorem lw_p59 : lw_okq (⟨"EvenSidesModel", "areSide", "(II)Z"⟩, 49) := ⟨⟨by decide +kernel, by decide +kernel⟩, List.mem_of_getElem? (i := 1145) (by decide +kernel), List.mem_of_getElem? (i := 1478) (by decide +kernel), List.mem_of_getElem? (i := 1479) (by decide +kernel)⟩
theorem lw_p60 : lw_okq (⟨"EvenSidesModel", "comes", "(III)I"⟩, 49) := ⟨⟨by decide +kernel, by decide +kernel⟩, List.mem_of_getElem? (i := 1145) (by decide +kernel), List.mem_of_getElem? (i := 1482) (by decide +kernel), List.mem_of_getElem? (i := 1483) (by decide +kernel)⟩
theorem lw_p61 : lw_okq (⟨"EvenSidesModel", "isHard", "(I)Z"⟩, 49) := ⟨⟨by decide +kernel, by decide +kernel⟩, List.mem_of_getElem? (i := 1145) (by decide +kernel), List.mem_of_getElem? (i := 1486) (by decide +kernel), List.mem_of_getElem? (i := 1487) (by decide +kernel)⟩
theorem lw_p62 : lw_okq (⟨"EvenSidesModel", "topOf", "(I)I"⟩, 49) := ⟨⟨by decide +kernel, by decide +kernel⟩, List.mem_of_getElem? (i := 1145) (by decide +kernel), List.mem_of_getElem? (i := 1490) (by decide +kernel), List.mem_of_getElem? (i := 1491) (by decide +kernel)⟩
theorem lw_p63 : lw_okq (⟨"EvenSidesModel", "weighs", "(II)I"⟩, 49) := ⟨⟨by decide +kernel, by decide +kernel⟩, List.mem_of_getElem? (i := 1145) (by decide +kernel), List.mem_of_getElem? (i := 1494) (by decide +kernel), List.mem_of_getElem? (i := 1495) (by decide +kernel)⟩
def lw_privs_4 : List (MethodName × Nat) := [(⟨"EvenSidesModel", "isLoad", "(I)Z"⟩, 49), (⟨"EvenSidesModel", "reads", "(I)Z"⟩, 49), (⟨"EvenSidesModel", "scans", "()V"⟩, 49), (⟨"EvenSidesModel", "isAt", "(II)Z"⟩, 49), (⟨"EvenSidesModel", "byteAt", "(I)I"⟩, 49), (⟨"EvenSidesModel", "tellsItem", "(I)I"⟩, 49), (⟨"EvenSidesModel", "num", "(II)I"⟩, 49), (⟨"EvenSidesModel", "runs", "()Z"⟩, 49), (⟨"EvenSidesModel", "ofLoad", "(II)I"⟩, 49), (⟨"EvenSidesModel", "acts", "(I)I"⟩, 49), (⟨"EvenSidesModel", "hangs", "(III)I"⟩, 49), (⟨"EvenSidesModel", "areSide", "(II)Z"⟩, 49), (⟨"EvenSidesModel", "comes", "(III)I"⟩, 49), (⟨"EvenSidesModel", "isHard", "(I)Z"⟩, 49), (⟨"EvenSidesModel", "topOf", "(I)I"⟩, 49), (⟨"EvenSidesModel", "weighs", "(II)I"⟩, 49)]
theorem lw_r4 : ∀ q ∈ lw_privs_4, lw_okq q := List.forall_mem_cons.mpr ⟨lw_p48, List.forall_mem_cons.mpr ⟨lw_p49, List.forall_mem_cons.mpr ⟨lw_p50, List.forall_mem_cons.mpr ⟨lw_p51, List.forall_mem_cons.mpr ⟨lw_p52, List.forall_mem_cons.mpr ⟨lw_p53, List.forall_mem_cons.mpr ⟨lw_p54, List.forall_mem_cons.mpr ⟨lw_p55, List.forall_mem_cons.mpr ⟨lw_p56, List.forall_mem_cons.mpr ⟨lw_p57, List.forall_mem_cons.mpr ⟨lw_p58, List.forall_mem_cons.mpr ⟨lw_p59, List.forall_mem_cons.mpr ⟨lw_p60, List.forall_mem_cons.mpr ⟨lw_p61, List.forall_mem_cons.mpr ⟨lw_p62, List.forall_mem_cons.mpr ⟨lw_p63, fun _ h => absurd h List.not_mem_nil⟩⟩⟩⟩⟩⟩⟩⟩⟩⟩⟩⟩⟩⟩⟩⟩
theorem lw_p64 : lw_okq (⟨"EvenSidesModel", "bearsMore", "(III)Z"⟩, 49) := ⟨⟨by decide +kernel, by decide +kernel⟩, List.mem_of_getElem? (i := 1145) (by decide +kernel), List.mem_of_getElem? (i := 1498) (by decide +kernel), List.mem_of_getElem? (i := 1499) (by decide +kernel)⟩
theorem lw_p65 : lw_okq (⟨"EvenSidesModel", "sideWeight", "(I)I"⟩, 49) := ⟨⟨by decide +kernel, by decide +kernel⟩, List.mem_of_getElem? (i := 1145) (by decide +kernel), List.mem_of_getElem? (i := 1502) (by decide +kernel), List.mem_of_getElem? (i := 1503) (by decide +kernel)⟩
theorem lw_p66 : lw_okq (⟨"EvenSidesModel", "bears", "(II)I"⟩, 49) := ⟨⟨by decide +kernel, by decide +kernel⟩, List.mem_of_getElem? (i := 1145) (by decide +kernel), List.mem_of_getElem? (i := 1506) (by decide +kernel), List.mem_of_getElem? (i := 1507) (by decide +kernel)⟩
theorem lw_p67 : lw_okq (⟨"EvenSidesModel", "most", "(I)I"⟩, 49) := ⟨⟨by decide +kernel, by decide +kernel⟩, List.mem_of_getElem? (i := 1145) (by decide +kernel), List.mem_of_getElem? (i := 1510) (by decide +kernel), List.mem_of_getElem? (i := 1511) (by decide +kernel)⟩
theorem lw_p68 : lw_okq (⟨"EvenSidesModel", "lays", "(II)V"⟩, 49) := ⟨⟨by decide +kernel, by decide +kernel⟩, List.mem_of_getElem? (i := 1145) (by decide +kernel), List.mem_of_getElem? (i := 1514) (by decide +kernel), List.mem_of_getElem? (i := 1515) (by decide +kernel)⟩
theorem lw_p69 : lw_okq (⟨"EvenSidesModel", "takes", "(II)I"⟩, 49) := ⟨⟨by decide +kernel, by decide +kernel⟩, List.mem_of_getElem? (i := 1145) (by decide +kernel), List.mem_of_getElem? (i := 1518) (by decide +kernel), List.mem_of_getElem? (i := 1519) (by decide +kernel)⟩
theorem lw_p70 : lw_okq (⟨"EvenSidesModel", "moves", "(IIII)I"⟩, 49) := ⟨⟨by decide +kernel, by decide +kernel⟩, List.mem_of_getElem? (i := 1145) (by decide +kernel), List.mem_of_getElem? (i := 1522) (by decide +kernel), List.mem_of_getElem? (i := 1523) (by decide +kernel)⟩
theorem lw_p71 : lw_okq (⟨"EvenSidesModel", "adds", "(II)I"⟩, 49) := ⟨⟨by decide +kernel, by decide +kernel⟩, List.mem_of_getElem? (i := 1145) (by decide +kernel), List.mem_of_getElem? (i := 1526) (by decide +kernel), List.mem_of_getElem? (i := 1527) (by decide +kernel)⟩
theorem lw_p72 : lw_okq (⟨"EvenSidesModel", "drops", "(II)I"⟩, 49) := ⟨⟨by decide +kernel, by decide +kernel⟩, List.mem_of_getElem? (i := 1145) (by decide +kernel), List.mem_of_getElem? (i := 1530) (by decide +kernel), List.mem_of_getElem? (i := 1531) (by decide +kernel)⟩
theorem lw_p73 : lw_okq (⟨"EvenSidesModel", "goes", "(I)I"⟩, 49) := ⟨⟨by decide +kernel, by decide +kernel⟩, List.mem_of_getElem? (i := 1145) (by decide +kernel), List.mem_of_getElem? (i := 1534) (by decide +kernel), List.mem_of_getElem? (i := 1535) (by decide +kernel)⟩
theorem lw_p74 : lw_okq (⟨"EvenSidesModel", "miles", "(II)I"⟩, 49) := ⟨⟨by decide +kernel, by decide +kernel⟩, List.mem_of_getElem? (i := 1145) (by decide +kernel), List.mem_of_getElem? (i := 1538) (by decide +kernel), List.mem_of_getElem? (i := 1539) (by decide +kernel)⟩
theorem lw_p75 : lw_okq (⟨"EvenSidesModel", "muleUneven", "(I)I"⟩, 49) := ⟨⟨by decide +kernel, by decide +kernel⟩, List.mem_of_getElem? (i := 1145) (by decide +kernel), List.mem_of_getElem? (i := 1542) (by decide +kernel), List.mem_of_getElem? (i := 1543) (by decide +kernel)⟩
theorem lw_p76 : lw_okq (⟨"EvenSidesModel", "even", "(I)I"⟩, 49) := ⟨⟨by decide +kernel, by decide +kernel⟩, List.mem_of_getElem? (i := 1145) (by decide +kernel), List.mem_of_getElem? (i := 1546) (by decide +kernel), List.mem_of_getElem? (i := 1547) (by decide +kernel)⟩
theorem lw_p77 : lw_okq (⟨"EvenSidesModel", "done", "()I"⟩, 49) := ⟨⟨by decide +kernel, by decide +kernel⟩, List.mem_of_getElem? (i := 1145) (by decide +kernel), List.mem_of_getElem? (i := 1550) (by decide +kernel), List.mem_of_getElem? (i := 1551) (by decide +kernel)⟩
theorem lw_p78 : lw_okq (⟨"EvenSidesModel", "isSome", "(I)Z"⟩, 49) := ⟨⟨by decide +kernel, by decide +kernel⟩, List.mem_of_getElem? (i := 1145) (by decide +kernel), List.mem_of_getElem? (i := 1567) (by decide +kernel), List.mem_of_getElem? (i := 1568) (by decide +kernel)⟩
theorem lw_p79 : lw_okq (⟨"EvenSidesModel", "apart", "(II)I"⟩, 49) := ⟨⟨by decide +kernel, by decide +kernel⟩, List.mem_of_getElem? (i := 1145) (by decide +kernel), List.mem_of_getElem? (i := 1573) (by decide +kernel), List.mem_of_getElem? (i := 1574) (by decide +kernel)⟩
def lw_privs_5 : List (MethodName × Nat) := [(⟨"EvenSidesModel", "bearsMore", "(III)Z"⟩, 49), (⟨"EvenSidesModel", "sideWeight", "(I)I"⟩, 49), (⟨"EvenSidesModel", "bears", "(II)I"⟩, 49), (⟨"EvenSidesModel", "most", "(I)I"⟩, 49), (⟨"EvenSidesModel", "lays", "(II)V"⟩, 49), (⟨"EvenSidesModel", "takes", "(II)I"⟩, 49), (⟨"EvenSidesModel", "moves", "(IIII)I"⟩, 49), (⟨"EvenSidesModel", "adds", "(II)I"⟩, 49), (⟨"EvenSidesModel", "drops", "(II)I"⟩, 49), (⟨"EvenSidesModel", "goes", "(I)I"⟩, 49), (⟨"EvenSidesModel", "miles", "(II)I"⟩, 49), (⟨"EvenSidesModel", "muleUneven", "(I)I"⟩, 49), (⟨"EvenSidesModel", "even", "(I)I"⟩, 49), (⟨"EvenSidesModel", "done", "()I"⟩, 49), (⟨"EvenSidesModel", "isSome", "(I)Z"⟩, 49), (⟨"EvenSidesModel", "apart", "(II)I"⟩, 49)]
theorem lw_r5 : ∀ q ∈ lw_privs_5, lw_okq q := List.forall_mem_cons.mpr ⟨lw_p64, List.forall_mem_cons.mpr ⟨lw_p65, List.forall_mem_cons.mpr ⟨lw_p66, List.forall_mem_cons.mpr ⟨lw_p67, List.forall_mem_cons.mpr ⟨lw_p68, List.forall_mem_cons.mpr ⟨lw_p69, List.forall_mem_cons.mpr ⟨lw_p70, List.forall_mem_cons.mpr ⟨lw_p71, List.forall_mem_cons.mpr ⟨lw_p72, List.forall_mem_cons.mpr ⟨lw_p73, List.forall_mem_cons.mpr ⟨lw_p74, List.forall_mem_cons.mpr ⟨lw_p75, List.forall_mem_cons.mpr ⟨lw_p76, List.forall_mem_cons.mpr ⟨lw_p77, List.forall_mem_cons.mpr ⟨lw_p78, List.forall_mem_cons.mpr ⟨lw_p79, fun _ h => absurd h List.not_mem_nil⟩⟩⟩⟩⟩⟩⟩⟩⟩⟩⟩⟩⟩⟩⟩⟩
theorem lw_p80 : lw_okq (⟨"EvenSidesModel", "inLine", "(I)I"⟩, 49) := ⟨⟨by decide +kernel, by decide +kernel⟩, List.mem_of_getElem? (i := 1145) (by decide +kernel), List.mem_of_getElem? (i := 1590) (by decide +kernel), List.mem_of_getElem? (i := 1591) (by decide +kernel)⟩
theorem lw_p81 : lw_okq (⟨"EvenSidesModel", "place", "(I)I"⟩, 49) := ⟨⟨by decide +kernel, by decide +kernel⟩, List.mem_of_getElem? (i := 1145) (by decide +kernel), List.mem_of_getElem? (i := 1594) (by decide +kernel), List.mem_of_getElem? (i := 1595) (by decide +kernel)⟩
theorem lw_p82 : lw_okq (⟨"EvenSidesModel", "told", "()Z"⟩, 49) := ⟨⟨by decide +kernel, by decide +kernel⟩, List.mem_of_getElem? (i := 1145) (by decide +kernel), List.mem_of_getElem? (i := 1606) (by decide +kernel), List.mem_of_getElem? (i := 1607) (by decide +kernel)⟩
theorem lw_p83 : lw_okq (⟨"EvenSidesModel", "spans", "()V"⟩, 49) := ⟨⟨by decide +kernel, by decide +kernel⟩, List.mem_of_getElem? (i := 1145) (by decide +kernel), List.mem_of_getElem? (i := 1610) (by decide +kernel), List.mem_of_getElem? (i := 1611) (by decide +kernel)⟩
theorem lw_p84 : lw_okq (⟨"EvenSidesModel", "isBorne", "()Z"⟩, 49) := ⟨⟨by decide +kernel, by decide +kernel⟩, List.mem_of_getElem? (i := 1145) (by decide +kernel), List.mem_of_getElem? (i := 1614) (by decide +kernel), List.mem_of_getElem? (i := 1615) (by decide +kernel)⟩
theorem lw_p85 : lw_okq (⟨"EvenSidesModel", "leg", "(II)V"⟩, 49) := ⟨⟨by decide +kernel, by decide +kernel⟩, List.mem_of_getElem? (i := 1145) (by decide +kernel), List.mem_of_getElem? (i := 1618) (by decide +kernel), List.mem_of_getElem? (i := 1619) (by decide +kernel)⟩
theorem lw_p86 : lw_okq (⟨"EvenSidesModel", "worstNow", "()I"⟩, 49) := ⟨⟨by decide +kernel, by decide +kernel⟩, List.mem_of_getElem? (i := 1145) (by decide +kernel), List.mem_of_getElem? (i := 1626) (by decide +kernel), List.mem_of_getElem? (i := 1627) (by decide +kernel)⟩
theorem lw_p87 : lw_okq (⟨"EvenSidesModel", "legUneven", "(I)I"⟩, 49) := ⟨⟨by decide +kernel, by decide +kernel⟩, List.mem_of_getElem? (i := 1145) (by decide +kernel), List.mem_of_getElem? (i := 1630) (by decide +kernel), List.mem_of_getElem? (i := 1631) (by decide +kernel)⟩
theorem lw_p88 : lw_okq (⟨"EvenSidesModel", "isSore", "()Z"⟩, 49) := ⟨⟨by decide +kernel, by decide +kernel⟩, List.mem_of_getElem? (i := 1145) (by decide +kernel), List.mem_of_getElem? (i := 1638) (by decide +kernel), List.mem_of_getElem? (i := 1639) (by decide +kernel)⟩
theorem lw_p89 : lw_okq (⟨"EvenSidesModel", "legMiles", "(I)I"⟩, 49) := ⟨⟨by decide +kernel, by decide +kernel⟩, List.mem_of_getElem? (i := 1145) (by decide +kernel), List.mem_of_getElem? (i := 1642) (by decide +kernel), List.mem_of_getElem? (i := 1643) (by decide +kernel)⟩
theorem lw_p90 : lw_okq (⟨"EvenSidesModel", "hangings", "()I"⟩, 49) := ⟨⟨by decide +kernel, by decide +kernel⟩, List.mem_of_getElem? (i := 1145) (by decide +kernel), List.mem_of_getElem? (i := 1650) (by decide +kernel), List.mem_of_getElem? (i := 1651) (by decide +kernel)⟩
theorem lw_p91 : lw_okq (⟨"EvenSidesModel", "findStays", "(I)Z"⟩, 49) := ⟨⟨by decide +kernel, by decide +kernel⟩, List.mem_of_getElem? (i := 1145) (by decide +kernel), List.mem_of_getElem? (i := 1654) (by decide +kernel), List.mem_of_getElem? (i := 1655) (by decide +kernel)⟩
theorem lw_p92 : lw_okq (⟨"EvenSidesModel", "beginCodes", "()V"⟩, 49) := ⟨⟨by decide +kernel, by decide +kernel⟩, List.mem_of_getElem? (i := 1145) (by decide +kernel), List.mem_of_getElem? (i := 1658) (by decide +kernel), List.mem_of_getElem? (i := 1659) (by decide +kernel)⟩
theorem lw_p93 : lw_okq (⟨"EvenSidesModel", "nextCodes", "()V"⟩, 49) := ⟨⟨by decide +kernel, by decide +kernel⟩, List.mem_of_getElem? (i := 1145) (by decide +kernel), List.mem_of_getElem? (i := 1662) (by decide +kernel), List.mem_of_getElem? (i := 1663) (by decide +kernel)⟩
theorem lw_p94 : lw_okq (⟨"EvenSidesModel", "findBest", "(I)Z"⟩, 49) := ⟨⟨by decide +kernel, by decide +kernel⟩, List.mem_of_getElem? (i := 1145) (by decide +kernel), List.mem_of_getElem? (i := 1670) (by decide +kernel), List.mem_of_getElem? (i := 1671) (by decide +kernel)⟩
theorem lw_p95 : lw_okq (⟨"EvenSidesModel", "listDoors", "()V"⟩, 49) := ⟨⟨by decide +kernel, by decide +kernel⟩, List.mem_of_getElem? (i := 1145) (by decide +kernel), List.mem_of_getElem? (i := 1674) (by decide +kernel), List.mem_of_getElem? (i := 1675) (by decide +kernel)⟩
def lw_privs_6 : List (MethodName × Nat) := [(⟨"EvenSidesModel", "inLine", "(I)I"⟩, 49), (⟨"EvenSidesModel", "place", "(I)I"⟩, 49), (⟨"EvenSidesModel", "told", "()Z"⟩, 49), (⟨"EvenSidesModel", "spans", "()V"⟩, 49), (⟨"EvenSidesModel", "isBorne", "()Z"⟩, 49), (⟨"EvenSidesModel", "leg", "(II)V"⟩, 49), (⟨"EvenSidesModel", "worstNow", "()I"⟩, 49), (⟨"EvenSidesModel", "legUneven", "(I)I"⟩, 49), (⟨"EvenSidesModel", "isSore", "()Z"⟩, 49), (⟨"EvenSidesModel", "legMiles", "(I)I"⟩, 49), (⟨"EvenSidesModel", "hangings", "()I"⟩, 49), (⟨"EvenSidesModel", "findStays", "(I)Z"⟩, 49), (⟨"EvenSidesModel", "beginCodes", "()V"⟩, 49), (⟨"EvenSidesModel", "nextCodes", "()V"⟩, 49), (⟨"EvenSidesModel", "findBest", "(I)Z"⟩, 49), (⟨"EvenSidesModel", "listDoors", "()V"⟩, 49)]
theorem lw_r6 : ∀ q ∈ lw_privs_6, lw_okq q := List.forall_mem_cons.mpr ⟨lw_p80, List.forall_mem_cons.mpr ⟨lw_p81, List.forall_mem_cons.mpr ⟨lw_p82, List.forall_mem_cons.mpr ⟨lw_p83, List.forall_mem_cons.mpr ⟨lw_p84, List.forall_mem_cons.mpr ⟨lw_p85, List.forall_mem_cons.mpr ⟨lw_p86, List.forall_mem_cons.mpr ⟨lw_p87, List.forall_mem_cons.mpr ⟨lw_p88, List.forall_mem_cons.mpr ⟨lw_p89, List.forall_mem_cons.mpr ⟨lw_p90, List.forall_mem_cons.mpr ⟨lw_p91, List.forall_mem_cons.mpr ⟨lw_p92, List.forall_mem_cons.mpr ⟨lw_p93, List.forall_mem_cons.mpr ⟨lw_p94, List.forall_mem_cons.mpr ⟨lw_p95, fun _ h => absurd h List.not_mem_nil⟩⟩⟩⟩⟩⟩⟩⟩⟩⟩⟩⟩⟩⟩⟩⟩
theorem lw_p96 : lw_okq (⟨"EvenSidesModel", "beginRow", "(I)V"⟩, 49) := ⟨⟨by decide +kernel, by decide +kernel⟩, List.mem_of_getElem? (i := 1145) (by decide +kernel), List.mem_of_getElem? (i := 1678) (by decide +kernel), List.mem_of_getElem? (i := 1679) (by decide +kernel)⟩
theorem lw_p97 : lw_okq (⟨"EvenSidesModel", "nextRow", "()Z"⟩, 49) := ⟨⟨by decide +kernel, by decide +kernel⟩, List.mem_of_getElem? (i := 1145) (by decide +kernel), List.mem_of_getElem? (i := 1682) (by decide +kernel), List.mem_of_getElem? (i := 1683) (by decide +kernel)⟩
theorem lw_p98 : lw_okq (⟨"EvenSidesModel", "isTaken", "(I)Z"⟩, 49) := ⟨⟨by decide +kernel, by decide +kernel⟩, List.mem_of_getElem? (i := 1145) (by decide +kernel), List.mem_of_getElem? (i := 1686) (by decide +kernel), List.mem_of_getElem? (i := 1687) (by decide +kernel)⟩
theorem lw_p99 : lw_okq (⟨"EvenSidesModel", "fillsRow", "(I)Z"⟩, 49) := ⟨⟨by decide +kernel, by decide +kernel⟩, List.mem_of_getElem? (i := 1145) (by decide +kernel), List.mem_of_getElem? (i := 1690) (by decide +kernel), List.mem_of_getElem? (i := 1691) (by decide +kernel)⟩
theorem lw_p100 : lw_okq (⟨"EvenSidesModel", "layers", "(I)I"⟩, 49) := ⟨⟨by decide +kernel, by decide +kernel⟩, List.mem_of_getElem? (i := 1145) (by decide +kernel), List.mem_of_getElem? (i := 1698) (by decide +kernel), List.mem_of_getElem? (i := 1699) (by decide +kernel)⟩
theorem lw_p101 : lw_okq (⟨"EvenSidesModel", "happens", "(IZ)V"⟩, 49) := ⟨⟨by decide +kernel, by decide +kernel⟩, List.mem_of_getElem? (i := 1145) (by decide +kernel), List.mem_of_getElem? (i := 1702) (by decide +kernel), List.mem_of_getElem? (i := 1703) (by decide +kernel)⟩
theorem lw_p102 : lw_okq (⟨"EvenSidesModel", "offers", "(II)V"⟩, 49) := ⟨⟨by decide +kernel, by decide +kernel⟩, List.mem_of_getElem? (i := 1145) (by decide +kernel), List.mem_of_getElem? (i := 1715) (by decide +kernel), List.mem_of_getElem? (i := 1716) (by decide +kernel)⟩
theorem lw_p103 : lw_okq (⟨"EvenSidesModel", "isPile", "(I)Z"⟩, 49) := ⟨⟨by decide +kernel, by decide +kernel⟩, List.mem_of_getElem? (i := 1145) (by decide +kernel), List.mem_of_getElem? (i := 1719) (by decide +kernel), List.mem_of_getElem? (i := 1720) (by decide +kernel)⟩
theorem lw_p104 : lw_okq (⟨"EvenSidesModel", "stonesOf", "(I)I"⟩, 49) := ⟨⟨by decide +kernel, by decide +kernel⟩, List.mem_of_getElem? (i := 1145) (by decide +kernel), List.mem_of_getElem? (i := 1730) (by decide +kernel), List.mem_of_getElem? (i := 1731) (by decide +kernel)⟩
theorem lw_p105 : lw_okq (⟨"EvenSidesModel", "findAskers", "()Z"⟩, 49) := ⟨⟨by decide +kernel, by decide +kernel⟩, List.mem_of_getElem? (i := 1145) (by decide +kernel), List.mem_of_getElem? (i := 1738) (by decide +kernel), List.mem_of_getElem? (i := 1739) (by decide +kernel)⟩
theorem lw_p106 : lw_okq (⟨"EvenSidesModel", "chanceNow", "()J"⟩, 49) := ⟨⟨by decide +kernel, by decide +kernel⟩, List.mem_of_getElem? (i := 1145) (by decide +kernel), List.mem_of_getElem? (i := 1742) (by decide +kernel), List.mem_of_getElem? (i := 1743) (by decide +kernel)⟩
theorem lw_p107 : lw_okq (⟨"EvenSidesModel", "wholeChance", "()J"⟩, 49) := ⟨⟨by decide +kernel, by decide +kernel⟩, List.mem_of_getElem? (i := 1145) (by decide +kernel), List.mem_of_getElem? (i := 1746) (by decide +kernel), List.mem_of_getElem? (i := 1747) (by decide +kernel)⟩
theorem lw_p108 : lw_okq (⟨"EvenSidesModel", "tells", "(JJ)I"⟩, 49) := ⟨⟨by decide +kernel, by decide +kernel⟩, List.mem_of_getElem? (i := 1145) (by decide +kernel), List.mem_of_getElem? (i := 1750) (by decide +kernel), List.mem_of_getElem? (i := 1751) (by decide +kernel)⟩
theorem lw_p109 : lw_okq (⟨"EvenSidesModel", "isOrder", "(III)Z"⟩, 49) := ⟨⟨by decide +kernel, by decide +kernel⟩, List.mem_of_getElem? (i := 1145) (by decide +kernel), List.mem_of_getElem? (i := 1765) (by decide +kernel), List.mem_of_getElem? (i := 1766) (by decide +kernel)⟩
theorem lw_p110 : lw_okq (⟨"EvenSidesModel", "countOf", "(I)I"⟩, 49) := ⟨⟨by decide +kernel, by decide +kernel⟩, List.mem_of_getElem? (i := 1145) (by decide +kernel), List.mem_of_getElem? (i := 1785) (by decide +kernel), List.mem_of_getElem? (i := 1786) (by decide +kernel)⟩
theorem lw_p111 : lw_okq (⟨"EvenSidesModel", "mixed", "(JII)J"⟩, 49) := ⟨⟨by decide +kernel, by decide +kernel⟩, List.mem_of_getElem? (i := 1145) (by decide +kernel), List.mem_of_getElem? (i := 1795) (by decide +kernel), List.mem_of_getElem? (i := 1796) (by decide +kernel)⟩
def lw_privs_7 : List (MethodName × Nat) := [(⟨"EvenSidesModel", "beginRow", "(I)V"⟩, 49), (⟨"EvenSidesModel", "nextRow", "()Z"⟩, 49), (⟨"EvenSidesModel", "isTaken", "(I)Z"⟩, 49), (⟨"EvenSidesModel", "fillsRow", "(I)Z"⟩, 49), (⟨"EvenSidesModel", "layers", "(I)I"⟩, 49), (⟨"EvenSidesModel", "happens", "(IZ)V"⟩, 49), (⟨"EvenSidesModel", "offers", "(II)V"⟩, 49), (⟨"EvenSidesModel", "isPile", "(I)Z"⟩, 49), (⟨"EvenSidesModel", "stonesOf", "(I)I"⟩, 49), (⟨"EvenSidesModel", "findAskers", "()Z"⟩, 49), (⟨"EvenSidesModel", "chanceNow", "()J"⟩, 49), (⟨"EvenSidesModel", "wholeChance", "()J"⟩, 49), (⟨"EvenSidesModel", "tells", "(JJ)I"⟩, 49), (⟨"EvenSidesModel", "isOrder", "(III)Z"⟩, 49), (⟨"EvenSidesModel", "countOf", "(I)I"⟩, 49), (⟨"EvenSidesModel", "mixed", "(JII)J"⟩, 49)]
theorem lw_r7 : ∀ q ∈ lw_privs_7, lw_okq q := List.forall_mem_cons.mpr ⟨lw_p96, List.forall_mem_cons.mpr ⟨lw_p97, List.forall_mem_cons.mpr ⟨lw_p98, List.forall_mem_cons.mpr ⟨lw_p99, List.forall_mem_cons.mpr ⟨lw_p100, List.forall_mem_cons.mpr ⟨lw_p101, List.forall_mem_cons.mpr ⟨lw_p102, List.forall_mem_cons.mpr ⟨lw_p103, List.forall_mem_cons.mpr ⟨lw_p104, List.forall_mem_cons.mpr ⟨lw_p105, List.forall_mem_cons.mpr ⟨lw_p106, List.forall_mem_cons.mpr ⟨lw_p107, List.forall_mem_cons.mpr ⟨lw_p108, List.forall_mem_cons.mpr ⟨lw_p109, List.forall_mem_cons.mpr ⟨lw_p110, List.forall_mem_cons.mpr ⟨lw_p111, fun _ h => absurd h List.not_mem_nil⟩⟩⟩⟩⟩⟩⟩⟩⟩⟩⟩⟩⟩⟩⟩⟩
def lw_privs : List (MethodName × Nat) := lw_privs_1 ++ (lw_privs_2 ++ (lw_privs_3 ++ (lw_privs_4 ++ (lw_privs_5 ++ (lw_privs_6 ++ (lw_privs_7))))))
def lw_tbl : List Cond := k2_sels lw_privs ++ tables_1
theorem lw_privs_ok : ∀ q ∈ lw_privs, lw_okq q := by
  show ∀ q ∈ lw_privs_1 ++ (lw_privs_2 ++ (lw_privs_3 ++ (lw_privs_4 ++ (lw_privs_5 ++ (lw_privs_6 ++ (lw_privs_7)))))), lw_okq q
  exact List.forall_mem_append.mpr ⟨lw_r1, List.forall_mem_append.mpr ⟨lw_r2, List.forall_mem_append.mpr ⟨lw_r3, List.forall_mem_append.mpr ⟨lw_r4, List.forall_mem_append.mpr ⟨lw_r5, List.forall_mem_append.mpr ⟨lw_r6, lw_r7⟩⟩⟩⟩⟩⟩
end
section
/-! ===== THE WALKER: values that are known, or known by a term over the script's ints; a heap of known cells behind a base address ===== -/
/-- a value: known (a reference by its place behind the base; retAddr: the script), an int by its term, a long by its term -/
abbrev wk_V : Type := Value ⊕ (Term ⊕ Term)
/-- a cell: an array (its kind's number, its contents), an object (its class's number, its fields) -/
abbrev wk_C : Type := (Nat × List wk_V) ⊕ (Nat × List wk_V)
abbrev wk_L : Type := List (Nat × wk_V)
def wk_b (o : Binary) (x y : Int32 × Int64) : Int32 × Int64 := match o with
  | .iand => (x.1 &&& y.1, 0)
  | .ior => (x.1 ||| y.1, 0)
  | .ixor => (x.1 ^^^ y.1, 0)
  | .ishl => (x.1 <<< (y.1 &&& 31), 0)
  | .ishr => (x.1 >>> (y.1 &&& 31), 0)
  | .ladd => (0, x.2 + y.2)
  | .lsub => (0, x.2 - y.2)
  | .lmul => (0, x.2 * y.2)
  | .land => (0, x.2 &&& y.2)
  | .lor => (0, x.2 ||| y.2)
  | .lxor => (0, x.2 ^^^ y.2)
  | .lshl => (0, x.2 <<< (y.1.toInt64 &&& 63))
  | .lshr => (0, x.2 >>> (y.1.toInt64 &&& 63))
  | .lushr => (0, (x.2.toUInt64 >>> (y.1.toInt64.toUInt64 &&& Int64.toUInt64 63)).toInt64)
  | .lcmp => (lg_cmp x.2 y.2, 0)
  | _ => (0, 0)
def wk_u (o : Unary) (x : Int32 × Int64) : Int32 × Int64 := match o with
  | .ineg => (-x.1, 0)
  | .lneg => (0, -x.2)
  | .i2l => (0, x.1.toInt64)
  | .l2i => (x.2.toInt32, 0)
  | _ => (0, 0)
def wk_t (ρ : Nat → Int32) : Term → Int32 × Int64
  | .arg i => (ρ i, 0)
  | .int v => (v, 0)
  | .long v => (0, v)
  | .add a b => ((wk_t ρ a).1 + (wk_t ρ b).1, 0)
  | .sub a b => ((wk_t ρ a).1 - (wk_t ρ b).1, 0)
  | .mul a b => ((wk_t ρ a).1 * (wk_t ρ b).1, 0)
  | .op2 o a b => wk_b o (wk_t ρ a) (wk_t ρ b)
  | .op1 o a => wk_u o (wk_t ρ a)
  | _ => (0, 0)
/-- what a value is: B the base, z the script's address -/
def wk_v (B z : Nat) (ρ : Nat → Int32) : wk_V → Value
  | .inl (.ref k) => .ref (B + k)
  | .inl (.retAddr _) => .ref z
  | .inl v => v
  | .inr (.inl t) => .int (wk_t ρ t).1
  | .inr (.inr t) => .long (wk_t ρ t).2
/-- the term of an int, of a long -/
def wk_i : wk_V → Option Term
  | .inl (.int x) => some (.int x)
  | .inr (.inl t) => some t
  | _ => none
def wk_j : wk_V → Option Term
  | .inl (.long x) => some (.long x)
  | .inr (.inr t) => some t
  | _ => none
/-- an int, a long by its term: known, if the term is a number -/
def wk_mi : Term → wk_V
  | .int x => .inl (.int x)
  | t => .inr (.inl t)
def wk_mj : Term → wk_V
  | .long x => .inl (.long x)
  | t => .inr (.inr t)
/-- an operation: done at once on numbers -/
def wk_o2 (o : Binary) : Term → Term → Term
  | .int x, .int y => match o with
    | .iand | .ior | .ixor | .ishl | .ishr => .int (wk_b o (x, 0) (y, 0)).1
    | _ => .op2 o (.int x) (.int y)
  | .long x, .long y => match o with
    | .ladd | .lsub | .lmul | .land | .lor | .lxor => .long (wk_b o (0, x) (0, y)).2
    | .lcmp => .int (wk_b o (0, x) (0, y)).1
    | _ => .op2 o (.long x) (.long y)
  | .long x, .int y => match o with
    | .lshl | .lshr | .lushr => .long (wk_b o (0, x) (y, 0)).2
    | _ => .op2 o (.long x) (.int y)
  | a, b => .op2 o a b
def wk_o1 (o : Unary) : Term → Term
  | .int x => match o with
    | .ineg => .int (-x)
    | .i2l => .long x.toInt64
    | _ => .op1 o (.int x)
  | .long x => match o with
    | .lneg => .long (-x)
    | .l2i => .int x.toInt32
    | _ => .op1 o (.long x)
  | a => .op1 o a
def wk_add : Term → Term → Term
  | .int x, .int y => .int (x + y)
  | a, b => .add a b
def wk_sub : Term → Term → Term
  | .int x, .int y => .int (x - y)
  | a, b => .sub a b
def wk_mul : Term → Term → Term
  | .int x, .int y => .int (x * y)
  | a, b => .mul a b
/-- bounds of an int: known numbers, the script's ints by iv, what lcmp makes of such -/
def wk_bl (iv : List (Int × Int)) : Term → Option (Int × Int)
  | .long x => some (x.toInt, x.toInt)
  | .op1 .i2l (.arg i) => iv[i]?
  | _ => none
def wk_cm (p q : Int × Int) : Int × Int := if q.2 < p.1 then (1, 1) else if p.2 < q.1 then (-1, -1) else if q.2 ≤ p.1 then (if p.2 ≤ q.1 then (0, 0) else (0, 1)) else if p.2 ≤ q.1 then (-1, 0) else (-1, 1)
def wk_bi (iv : List (Int × Int)) : Term → Option (Int × Int)
  | .int x => some (x.toInt, x.toInt)
  | .arg i => iv[i]?
  | .op2 .lcmp a b => match wk_bl iv a, wk_bl iv b with
    | some p, some q => some (wk_cm p q)
    | _, _ => none
  | _ => none
def wk_lt (p q : Int × Int) : Option Bool := if p.2 < q.1 then some true else if q.2 ≤ p.1 then some false else none
def wk_eq (p q : Int × Int) : Option Bool := if p.1 = p.2 ∧ q.1 = q.2 ∧ p.1 = q.1 then some true else if p.2 < q.1 ∨ q.2 < p.1 then some false else none
def wk_cnd (c : ClassFile.Cond) (p q : Int × Int) : Option Bool := match c with
  | .eq => wk_eq p q
  | .ne => (wk_eq p q).map (fun r => !r)
  | .lt => wk_lt p q
  | .ge => (wk_lt p q).map (fun r => !r)
  | .gt => wk_lt q p
  | .le => (wk_lt q p).map (fun r => !r)
def wk_holds (c : ClassFile.Cond) (x y : Int32) : Prop := match c with
  | .eq => x = y
  | .ne => ¬ x = y
  | .lt => x < y
  | .ge => y ≤ x
  | .gt => y < x
  | .le => x ≤ y
/-- a branch: where it goes -/
def wk_to (pc : Nat) (off : Int) : Option Nat := match (pc : Int) + off with
  | .ofNat t => some t
  | _ => none
def wk_br (iv : List (Int × Int)) (c : ClassFile.Cond) (pc : Nat) (off : Int) (a b : Term) : Option Nat := match wk_bi iv a, wk_bi iv b with
  | some p, some q => match wk_cnd c p q with
    | some true => wk_to pc off
    | some false => some (pc + 3)
    | none => none
  | _, _ => none
def wk_c1 : wk_V → Bool
  | .inl (.int _) | .inl (.ref _) | .inl .null | .inl (.retAddr _) | .inr (.inl _) => true
  | _ => false
def wk_c2 : wk_V → Bool
  | .inl (.long _) | .inr (.inr _) => true
  | _ => false
/-- locals: read, store of one place, of two -/
def wk_get (AL : wk_L) (i : Nat) : Option wk_V := (AL.find? (fun q => q.1 == i)).map (fun q => q.2)
def wk_st1 (AL : wk_L) (i : Nat) (v : wk_V) : wk_L := (i, v) :: AL.filter (fun q => !(q.1 == i) && !(q.1 + 1 == i && wk_c2 q.2))
def wk_st2 (AL : wk_L) (i : Nat) (v : wk_V) : wk_L := (i, v) :: AL.filter (fun q => !(q.1 == i) && (!(q.1 == i + 1) && !(q.1 + 1 == i && wk_c2 q.2)))
def wk_ref : wk_V → Bool
  | .inl (.ref _) | .inl (.retAddr _) => true
  | _ => false
/-- lengths of the instructions that the walker takes -/
def wk_lk : Instr → Nat → Bool
  | .iconst _, n | .lconst _, n | .iload_n _, n | .lload_n _, n | .aload_n _, n | .istore_n _, n | .lstore_n _, n | .astore_n _, n => n == 1
  | .bipush _, n | .iload _, n | .lload _, n | .aload _, n | .istore _, n | .lstore _, n | .astore _, n | .newarray _, n | .ldc _, n => n == 2
  | .sipush _, n | .iinc _ _, n | .goto _, n | .ifCond _ _, n | .if_icmp _ _, n | .ldc2_w _, n | .getfield _, n | .putfield _, n | .new _, n | .anewarray _, n => n == 3
  | .invokespecial _, n | .invokestatic _, n | .invokevirtual _, n => n == 3
  | .multianewarray _ _, n => n == 4
  | .tableswitch .., _ => true
  | _, n => n == 1
/-- the instructions that leave the heap alone: the next place, locals, stack. mk: what the first of the script's ints is behind '& 63' -/
def wk_pure (iv : List (Int × Int)) (mk : Option Int32) (nL : Nat) (i : Instr) (pc : Nat) (AL : wk_L) (AS : List wk_V) : Option (Nat × wk_L × List wk_V) :=
  match i, AS with
  | .iconst n, AS => some (pc + 1, AL, .inl (.int (Int32.ofInt n)) :: AS)
  | .bipush n, AS => some (pc + 2, AL, .inl (.int (Int8.ofInt n).toInt32) :: AS)
  | .sipush n, AS => some (pc + 3, AL, .inl (.int (Int16.ofInt n).toInt32) :: AS)
  | .lconst n, AS => some (pc + 1, AL, .inl (.long (Int64.ofNat n.val)) :: AS)
  | .iload_n k, AS => match wk_get AL k.val with
    | some v => if (wk_i v).isSome then some (pc + 1, AL, v :: AS) else none
    | none => none
  | .iload k, AS => match wk_get AL k with
    | some v => if (wk_i v).isSome then some (pc + 2, AL, v :: AS) else none
    | none => none
  | .lload_n k, AS => match wk_get AL k.val with
    | some v => if (wk_j v).isSome then some (pc + 1, AL, v :: AS) else none
    | none => none
  | .lload k, AS => match wk_get AL k with
    | some v => if (wk_j v).isSome then some (pc + 2, AL, v :: AS) else none
    | none => none
  | .aload_n k, AS => match wk_get AL k.val with
    | some v => if wk_ref v then some (pc + 1, AL, v :: AS) else none
    | none => none
  | .aload k, AS => match wk_get AL k with
    | some v => if wk_ref v then some (pc + 2, AL, v :: AS) else none
    | none => none
  | .istore_n k, v :: AS => if (wk_i v).isSome ∧ k.val < nL then some (pc + 1, wk_st1 AL k.val v, AS) else none
  | .istore k, v :: AS => if (wk_i v).isSome ∧ k < nL then some (pc + 2, wk_st1 AL k v, AS) else none
  | .lstore_n k, v :: AS => if (wk_j v).isSome ∧ k.val + 1 < nL then some (pc + 1, wk_st2 AL k.val v, AS) else none
  | .lstore k, v :: AS => if (wk_j v).isSome ∧ k + 1 < nL then some (pc + 2, wk_st2 AL k v, AS) else none
  | .astore_n k, v :: AS => if wk_ref v ∧ k.val < nL then some (pc + 1, wk_st1 AL k.val v, AS) else none
  | .astore k, v :: AS => if wk_ref v ∧ k < nL then some (pc + 2, wk_st1 AL k v, AS) else none
  | .iinc k n, AS => match (wk_get AL k).bind wk_i with
    | some t => if k < nL then some (pc + 3, wk_st1 AL k (wk_mi (wk_add t (.int (Int32.ofInt n)))), AS) else none
    | none => none
  | .goto off, AS => (wk_to pc off).map fun t => (t, AL, AS)
  | .ifCond c off, v :: AS => ((wk_i v).bind fun t => wk_br iv c pc off t (.int 0)).map fun t => (t, AL, AS)
  | .if_icmp c off, v :: w :: AS => ((wk_i v).bind fun t => (wk_i w).bind fun u => wk_br iv c pc off u t).map fun t => (t, AL, AS)
  | .iadd, v :: w :: AS => ((wk_i v).bind fun t => (wk_i w).map fun u => wk_mi (wk_add u t)).map fun x => (pc + 1, AL, x :: AS)
  | .isub, v :: w :: AS => ((wk_i v).bind fun t => (wk_i w).map fun u => wk_mi (wk_sub u t)).map fun x => (pc + 1, AL, x :: AS)
  | .imul, v :: w :: AS => ((wk_i v).bind fun t => (wk_i w).map fun u => wk_mi (wk_mul u t)).map fun x => (pc + 1, AL, x :: AS)
  | .iand, v :: w :: AS => match v, w, mk with
    | .inl (.int 63), .inr (.inl (.arg 0)), some k => some (pc + 1, AL, .inl (.int k) :: AS)
    | v, w, _ => ((wk_i v).bind fun t => (wk_i w).map fun u => wk_mi (wk_o2 .iand u t)).map fun x => (pc + 1, AL, x :: AS)
  | .ior, v :: w :: AS => ((wk_i v).bind fun t => (wk_i w).map fun u => wk_mi (wk_o2 .ior u t)).map fun x => (pc + 1, AL, x :: AS)
  | .ishl, v :: w :: AS => ((wk_i v).bind fun t => (wk_i w).map fun u => wk_mi (wk_o2 .ishl u t)).map fun x => (pc + 1, AL, x :: AS)
  | .ishr, v :: w :: AS => ((wk_i v).bind fun t => (wk_i w).map fun u => wk_mi (wk_o2 .ishr u t)).map fun x => (pc + 1, AL, x :: AS)
  | .idiv, v :: w :: AS => match v, w with
    | .inl (.int y), .inl (.int x) => if y = 0 then none else some (pc + 1, AL, .inl (.int (x / y)) :: AS)
    | _, _ => none
  | .irem, v :: w :: AS => match v, w with
    | .inl (.int y), .inl (.int x) => if y = 0 then none else some (pc + 1, AL, .inl (.int (x - x / y * y)) :: AS)
    | _, _ => none
  | .ldiv, v :: w :: AS => match v, w with
    | .inl (.long y), .inl (.long x) => if y = 0 then none else some (pc + 1, AL, .inl (.long (x / y)) :: AS)
    | _, _ => none
  | .lrem, v :: w :: AS => match v, w with
    | .inl (.long y), .inl (.long x) => if y = 0 then none else some (pc + 1, AL, .inl (.long (x - x / y * y)) :: AS)
    | _, _ => none
  | .ladd, v :: w :: AS => ((wk_j v).bind fun t => (wk_j w).map fun u => wk_mj (wk_o2 .ladd u t)).map fun x => (pc + 1, AL, x :: AS)
  | .lmul, v :: w :: AS => ((wk_j v).bind fun t => (wk_j w).map fun u => wk_mj (wk_o2 .lmul u t)).map fun x => (pc + 1, AL, x :: AS)
  | .land, v :: w :: AS => ((wk_j v).bind fun t => (wk_j w).map fun u => wk_mj (wk_o2 .land u t)).map fun x => (pc + 1, AL, x :: AS)
  | .lor, v :: w :: AS => ((wk_j v).bind fun t => (wk_j w).map fun u => wk_mj (wk_o2 .lor u t)).map fun x => (pc + 1, AL, x :: AS)
  | .lshl, v :: w :: AS => ((wk_i v).bind fun t => (wk_j w).map fun u => wk_mj (wk_o2 .lshl u t)).map fun x => (pc + 1, AL, x :: AS)
  | .lshr, v :: w :: AS => ((wk_i v).bind fun t => (wk_j w).map fun u => wk_mj (wk_o2 .lshr u t)).map fun x => (pc + 1, AL, x :: AS)
  | .lushr, v :: w :: AS => ((wk_i v).bind fun t => (wk_j w).map fun u => wk_mj (wk_o2 .lushr u t)).map fun x => (pc + 1, AL, x :: AS)
  | .lcmp, v :: w :: AS => ((wk_j v).bind fun t => (wk_j w).map fun u => wk_mi (wk_o2 .lcmp u t)).map fun x => (pc + 1, AL, x :: AS)
  | .ineg, v :: AS => ((wk_i v).map fun t => wk_mi (wk_o1 .ineg t)).map fun x => (pc + 1, AL, x :: AS)
  | .i2l, v :: AS => ((wk_i v).map fun t => wk_mj (wk_o1 .i2l t)).map fun x => (pc + 1, AL, x :: AS)
  | .l2i, v :: AS => ((wk_j v).map fun t => wk_mi (wk_o1 .l2i t)).map fun x => (pc + 1, AL, x :: AS)
  | .dup, v :: AS => if wk_c1 v then some (pc + 1, AL, v :: v :: AS) else none
  | .dup_x1, v :: w :: AS => if wk_c1 v ∧ wk_c1 w then some (pc + 1, AL, v :: w :: v :: AS) else none
  | .dup2, v :: w :: AS => if wk_c1 v ∧ wk_c1 w then some (pc + 1, AL, v :: w :: v :: w :: AS) else none
  | .pop, v :: AS => if wk_c1 v then some (pc + 1, AL, AS) else none
  | .tableswitch d lo hi offs, .inl (.int x) :: AS => if x.toInt < lo ∨ hi < x.toInt then (wk_to pc d).map fun t => (t, AL, AS) else (offs[(x.toInt - lo).toNat]?.bind fun o => wk_to pc o).map fun t => (t, AL, AS)
  | _, _ => none
end
