/-! ===== the rows in numbers: the table ===== -/
def kd_xtt : List (List (Option (Nat × List (List kd_X)))) := [
  [none, none, some (2, kd_x2), some (3, kd_x3), none, none, none, none, none, none, none, none, some (12, kd_x12), some (13, kd_x13), some (14, kd_x14), some (15, kd_x15), some (16, kd_x16), some (17, kd_x17), some (18, kd_x18), some (19, kd_x19), some (20, kd_x20), some (21, kd_x21), some (22, kd_x22), some (23, kd_x23), some (24, kd_x24), some (25, kd_x25), some (26, kd_x26), some (27, kd_x27), some (28, kd_x28), some (29, kd_x29), some (30, kd_x30), some (31, kd_x31)],
  [some (32, kd_x32), some (33, kd_x33), some (34, kd_x34), some (35, kd_x35), some (36, kd_x36), some (37, kd_x37), some (38, kd_x38), some (39, kd_x39), some (40, kd_x40), some (41, kd_x41), some (42, kd_x42), some (43, kd_x43), some (44, kd_x44), some (45, kd_x45), some (46, kd_x46), some (47, kd_x47), some (48, kd_x48), some (49, kd_x49), some (50, kd_x50), some (51, kd_x51), some (52, kd_x52), some (53, kd_x53), some (54, kd_x54), some (55, kd_x55), some (56, kd_x56), some (57, kd_x57), some (58, kd_x58), some (59, kd_x59), some (60, kd_x60), some (61, kd_x61), some (62, kd_x62), some (63, kd_x63)],
  [some (64, kd_x64), some (65, kd_x65), some (66, kd_x66), some (67, kd_x67), some (68, kd_x68), some (69, kd_x69), some (70, kd_x70), some (71, kd_x71), some (72, kd_x72), some (73, kd_x73), some (74, kd_x74), some (75, kd_x75), some (76, kd_x76), some (77, kd_x77), some (78, kd_x78), some (79, kd_x79), some (80, kd_x80), some (81, kd_x81), some (82, kd_x82), some (83, kd_x83), some (84, kd_x84), some (85, kd_x85), some (86, kd_x86), some (87, kd_x87), some (88, kd_x88), some (89, kd_x89), some (90, kd_x90), some (91, kd_x91), some (92, kd_x92), some (93, kd_x93), some (94, kd_x94), some (95, kd_x95)],
  [some (96, kd_x96), some (97, kd_x97), some (98, kd_x98), some (99, kd_x99), some (100, kd_x100), some (101, kd_x101), some (102, kd_x102), some (103, kd_x103), some (104, kd_x104), some (105, kd_x105), some (106, kd_x106), some (107, kd_x107), some (108, kd_x108), some (109, kd_x109), some (110, kd_x110), some (111, kd_x111), some (112, kd_x112), some (113, kd_x113), some (114, kd_x114), some (115, kd_x115), some (116, kd_x116), some (117, kd_x117), some (118, kd_x118), some (119, kd_x119), some (120, kd_x120), some (121, kd_x121), some (122, kd_x122), some (123, kd_x123), some (124, kd_x124), some (125, kd_x125), some (126, kd_x126), some (127, kd_x127)],
  [some (128, kd_x128), some (129, kd_x129), some (130, kd_x130), some (131, kd_x131), some (132, kd_x132), some (133, kd_x133), some (134, kd_x134), some (135, kd_x135), some (136, kd_x136), some (137, kd_x137), some (138, kd_x138), some (139, kd_x139), some (140, kd_x140), some (141, kd_x141), some (142, kd_x142), some (143, kd_x143), some (144, kd_x144), some (145, kd_x145), some (146, kd_x146), some (147, kd_x147), some (148, kd_x148), some (149, kd_x149), some (150, kd_x150), some (151, kd_x151), some (152, kd_x152), some (153, kd_x153), some (154, kd_x154), some (155, kd_x155), some (156, kd_x156), some (157, kd_x157), some (158, kd_x158), some (159, kd_x159)],
  [some (160, kd_x160), some (161, kd_x161), some (162, kd_x162), some (163, kd_x163), some (164, kd_x164), some (165, kd_x165), some (166, kd_x166), some (167, kd_x167), some (168, kd_x168), some (169, kd_x169), some (170, kd_x170), some (171, kd_x171), some (172, kd_x172), some (173, kd_x173), some (174, kd_x174), some (175, kd_x175), some (176, kd_x176), some (177, kd_x177), some (178, kd_x178), some (179, kd_x179), some (180, kd_x180), some (181, kd_x181), some (182, kd_x182), some (183, kd_x183), some (184, kd_x184), some (185, kd_x185), some (186, kd_x186), some (187, kd_x187), some (188, kd_x188), some (189, kd_x189), some (190, kd_x190), some (191, kd_x191)],
  [some (192, kd_x192), some (193, kd_x193), some (194, kd_x194), some (195, kd_x195), some (196, kd_x196), some (197, kd_x197), some (198, kd_x198), some (199, kd_x199), some (200, kd_x200), some (201, kd_x201), some (202, kd_x202), some (203, kd_x203), some (204, kd_x204), some (205, kd_x205), some (206, kd_x206), some (207, kd_x207), some (208, kd_x208), some (209, kd_x209), some (210, kd_x210), some (211, kd_x211), some (212, kd_x212), some (213, kd_x213), some (214, kd_x214), some (215, kd_x215), some (216, kd_x216), some (217, kd_x217), some (218, kd_x218), some (219, kd_x219), some (220, kd_x220), some (221, kd_x221), some (222, kd_x222), some (223, kd_x223)],
  [some (224, kd_x224), some (225, kd_x225), some (226, kd_x226), some (227, kd_x227), some (228, kd_x228), some (229, kd_x229), some (230, kd_x230), some (231, kd_x231), some (232, kd_x232), some (233, kd_x233), some (234, kd_x234), some (235, kd_x235), some (236, kd_x236), some (237, kd_x237), some (238, kd_x238), some (239, kd_x239), some (240, kd_x240), some (241, kd_x241), some (242, kd_x242), some (243, kd_x243), some (244, kd_x244), some (245, kd_x245), some (246, kd_x246), some (247, kd_x247), some (248, kd_x248), some (249, kd_x249), some (250, kd_x250), some (251, kd_x251), some (252, kd_x252), some (253, kd_x253), some (254, kd_x254), some (255, kd_x255)],
  [some (256, kd_x256), some (257, kd_x257), some (258, kd_x258), some (259, kd_x259), some (260, kd_x260), some (261, kd_x261), some (262, kd_x262), some (263, kd_x263), some (264, kd_x264), some (265, kd_x265), some (266, kd_x266), some (267, kd_x267), some (268, kd_x268), some (269, kd_x269), some (270, kd_x270), some (271, kd_x271), some (272, kd_x272), some (273, kd_x273), some (274, kd_x274), some (275, kd_x275)]]
def kd_xt (id : Nat) : Option (List (List kd_X)) := match wk_at2 kd_xtt id with
  | some (some (i, X)) => bif Nat.beq i id then some X else none
  | _ => none
def kd_xal : List (Option (Nat × List (List kd_X))) → Prop
  | [] => True
  | none :: r => kd_xal r
  | some (i, X) :: r => kd_xp i X ∧ kd_xal r
theorem kd_xal_r : ∀ (l : List (Option (Nat × List (List kd_X)))), kd_xal l → ∀ i X, some (i, X) ∈ l → kd_xp i X
  | [], _, _, _, h => by cases h
  | none :: r, hl, i, X, h => by
    rcases List.mem_cons.mp h with h | h
    · cases h
    · exact kd_xal_r r hl i X h
  | some (j, Y) :: r, hl, i, X, h => by
    rcases List.mem_cons.mp h with h | h
    · cases h
      exact hl.1
    · exact kd_xal_r r hl.2 i X h
def kd_xa2 : List (List (Option (Nat × List (List kd_X)))) → Prop
  | [] => True
  | l :: r => kd_xal l ∧ kd_xa2 r
theorem kd_xa2_r : ∀ (t : List (List (Option (Nat × List (List kd_X))))), kd_xa2 t → ∀ l ∈ t, kd_xal l
  | [], _, _, h => by cases h
  | l0 :: r, ht, l, h => by
    rcases List.mem_cons.mp h with rfl | h
    · exact ht.1
    · exact kd_xa2_r r ht.2 l h
theorem kd_xtt_ok : kd_xa2 kd_xtt := ⟨⟨kd_xm2, kd_xm3, kd_xm12, kd_xm13, kd_xm14, kd_xm15, kd_xm16, kd_xm17, kd_xm18, kd_xm19, kd_xm20, kd_xm21, kd_xm22, kd_xm23, kd_xm24, kd_xm25, kd_xm26, kd_xm27, kd_xm28, kd_xm29, kd_xm30, kd_xm31, trivial⟩,
  ⟨kd_xm32, kd_xm33, kd_xm34, kd_xm35, kd_xm36, kd_xm37, kd_xm38, kd_xm39, kd_xm40, kd_xm41, kd_xm42, kd_xm43, kd_xm44, kd_xm45, kd_xm46, kd_xm47, kd_xm48, kd_xm49, kd_xm50, kd_xm51, kd_xm52, kd_xm53, kd_xm54, kd_xm55, kd_xm56, kd_xm57, kd_xm58, kd_xm59, kd_xm60, kd_xm61, kd_xm62, kd_xm63, trivial⟩,
  ⟨kd_xm64, kd_xm65, kd_xm66, kd_xm67, kd_xm68, kd_xm69, kd_xm70, kd_xm71, kd_xm72, kd_xm73, kd_xm74, kd_xm75, kd_xm76, kd_xm77, kd_xm78, kd_xm79, kd_xm80, kd_xm81, kd_xm82, kd_xm83, kd_xm84, kd_xm85, kd_xm86, kd_xm87, kd_xm88, kd_xm89, kd_xm90, kd_xm91, kd_xm92, kd_xm93, kd_xm94, kd_xm95, trivial⟩,
  ⟨kd_xm96, kd_xm97, kd_xm98, kd_xm99, kd_xm100, kd_xm101, kd_xm102, kd_xm103, kd_xm104, kd_xm105, kd_xm106, kd_xm107, kd_xm108, kd_xm109, kd_xm110, kd_xm111, kd_xm112, kd_xm113, kd_xm114, kd_xm115, kd_xm116, kd_xm117, kd_xm118, kd_xm119, kd_xm120, kd_xm121, kd_xm122, kd_xm123, kd_xm124, kd_xm125, kd_xm126, kd_xm127, trivial⟩,
  ⟨kd_xm128, kd_xm129, kd_xm130, kd_xm131, kd_xm132, kd_xm133, kd_xm134, kd_xm135, kd_xm136, kd_xm137, kd_xm138, kd_xm139, kd_xm140, kd_xm141, kd_xm142, kd_xm143, kd_xm144, kd_xm145, kd_xm146, kd_xm147, kd_xm148, kd_xm149, kd_xm150, kd_xm151, kd_xm152, kd_xm153, kd_xm154, kd_xm155, kd_xm156, kd_xm157, kd_xm158, kd_xm159, trivial⟩,
  ⟨kd_xm160, kd_xm161, kd_xm162, kd_xm163, kd_xm164, kd_xm165, kd_xm166, kd_xm167, kd_xm168, kd_xm169, kd_xm170, kd_xm171, kd_xm172, kd_xm173, kd_xm174, kd_xm175, kd_xm176, kd_xm177, kd_xm178, kd_xm179, kd_xm180, kd_xm181, kd_xm182, kd_xm183, kd_xm184, kd_xm185, kd_xm186, kd_xm187, kd_xm188, kd_xm189, kd_xm190, kd_xm191, trivial⟩,
  ⟨kd_xm192, kd_xm193, kd_xm194, kd_xm195, kd_xm196, kd_xm197, kd_xm198, kd_xm199, kd_xm200, kd_xm201, kd_xm202, kd_xm203, kd_xm204, kd_xm205, kd_xm206, kd_xm207, kd_xm208, kd_xm209, kd_xm210, kd_xm211, kd_xm212, kd_xm213, kd_xm214, kd_xm215, kd_xm216, kd_xm217, kd_xm218, kd_xm219, kd_xm220, kd_xm221, kd_xm222, kd_xm223, trivial⟩,
  ⟨kd_xm224, kd_xm225, kd_xm226, kd_xm227, kd_xm228, kd_xm229, kd_xm230, kd_xm231, kd_xm232, kd_xm233, kd_xm234, kd_xm235, kd_xm236, kd_xm237, kd_xm238, kd_xm239, kd_xm240, kd_xm241, kd_xm242, kd_xm243, kd_xm244, kd_xm245, kd_xm246, kd_xm247, kd_xm248, kd_xm249, kd_xm250, kd_xm251, kd_xm252, kd_xm253, kd_xm254, kd_xm255, trivial⟩,
  ⟨kd_xm256, kd_xm257, kd_xm258, kd_xm259, kd_xm260, kd_xm261, kd_xm262, kd_xm263, kd_xm264, kd_xm265, kd_xm266, kd_xm267, kd_xm268, kd_xm269, kd_xm270, kd_xm271, kd_xm272, kd_xm273, kd_xm274, kd_xm275, trivial⟩, trivial⟩
theorem kd_xt_ok : kd_xok kd_xt := by
  intro id X h
  unfold kd_xt at h
  cases ha : wk_at2 kd_xtt id with
  | none => rw [ha] at h; cases h
  | some e =>
    rw [ha] at h
    cases e with
    | none => cases h
    | some e =>
      obtain ⟨i, Y⟩ := e
      simp only at h
      cases hc : Nat.beq i id with
      | false => rw [hc] at h; cases h
      | true =>
        rw [hc] at h
        cases h
        obtain rfl := Nat.eq_of_beq_eq_true hc
        rw [wk_at2_eq] at ha
        cases hr : kd_xtt[i / 32]? with
        | none => rw [hr] at ha; cases ha
        | some l =>
          rw [hr] at ha
          exact kd_xal_r l (kd_xa2_r _ kd_xtt_ok l (List.mem_of_getElem? hr)) i X (List.mem_of_getElem? ha)
