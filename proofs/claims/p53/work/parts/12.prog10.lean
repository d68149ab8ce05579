section NIP
variable {xs : List Int32}
def ni_pr154 (xs : List Int32) : List (Nat × ni_S) := [(0, ni_sLd 0 1 1),
  (1, ni_sLd 3 0 2),
  (2, ni_sSln xs 3),
  (3, ni_sP (ni_gIc (fun x y => decide (y ≤ x)) 12 6)),
  (6, ni_sLd 3 0 7),
  (7, ni_sLd 0 1 8),
  (8, ni_sSld xs 9),
  (9, ni_sP (ni_gGo 18)),
  (12, ni_sP (ni_gPush (.int (790386105)) 14)),
  (14, ni_sLd 0 1 15),
  (15, ni_sP (ni_gPush (.int 3) 16)),
  (16, ni_sP (ni_gI (fun x y => x + y) 17)),
  (17, ni_sP (ni_gI (fun x y => x * y) 18)),
  (18, ni_sR (some .int))]
theorem ni_pk154 : ∀ r ∈ ni_pr154 xs, ni_Ok xs yL_cell cL_cell 2 (some .int) [] r.1 r.2 ∧ ni_MU r.2 := ni_row (ni_iloadn ni_dL_cell_0 rfl) ni_muLd <|
  ni_row (ni_aloadn ni_dL_cell_1 rfl) ni_muLd <|
  ni_row (ni_slen ni_dL_cell_2) ni_muSln <|
  ni_row (ni_okP (ni_ic_ge ni_dL_cell_3 (by decide))) (ni_muP ni_eqIc) <|
  ni_row (ni_aloadn ni_dL_cell_6 rfl) ni_muLd <|
  ni_row (ni_iloadn ni_dL_cell_7 rfl) ni_muLd <|
  ni_row (ni_sld ni_dL_cell_8) ni_muSld <|
  ni_row (ni_okP (ni_goto ni_dL_cell_9 (by decide))) (ni_muP ni_eqGo) <|
  ni_row (ni_okP (ni_ldc ni_dL_cell_12 ni_w1028)) (ni_muP (ni_eqPush fun _ => rfl)) <|
  ni_row (ni_iloadn ni_dL_cell_14 rfl) ni_muLd <|
  ni_row (ni_okP (ni_iconst ni_dL_cell_15 (by decide +kernel))) (ni_muP (ni_eqPush fun _ => rfl)) <|
  ni_row (ni_okP (ni_iadd ni_dL_cell_16)) (ni_muP ni_eqI) <|
  ni_row (ni_okP (ni_imul ni_dL_cell_17)) (ni_muP ni_eqI) <|
  ni_row (ni_ret ni_dL_cell_18) ni_muR <|
  ni_row0
def ni_pr155_0 : List (Nat × ni_S) := [(0, ni_sP (ni_gPush (.int 0) 1)),
  (1, ni_sSt 0 3 2),
  (2, ni_sP (ni_gPush (.int 0) 3)),
  (3, ni_sSt 0 4 5),
  (5, ni_sP (ni_gPush (.int 0) 6)),
  (6, ni_sSt 0 5 8),
  (8, ni_sLd 0 5 10),
  (10, ni_sLd 0 2 11),
  (11, ni_sP (ni_gIc (fun x y => decide (y ≤ x)) 177 14)),
  (14, ni_sLd 0 3 15),
  (15, ni_sLd 3 0 16),
  (16, ni_sLd 0 5 18),
  (18, ni_sV 30 1 9 21),
  (21, ni_sP (ni_gI (fun x y => x + y) 22)),
  (22, ni_sSt 0 3 23),
  (23, ni_sLd 0 4 25),
  (25, ni_sLd 3 0 26),
  (26, ni_sLd 0 5 28),
  (28, ni_sV 14 1 9 31),
  (31, ni_sLd 3 0 32),
  (32, ni_sLd 0 5 34),
  (34, ni_sV 45 1 9 37),
  (37, ni_sP (ni_gI (fun x y => x + y) 38)),
  (38, ni_sP (ni_gI (fun x y => x + y) 39)),
  (39, ni_sSt 0 4 41),
  (41, ni_sP (ni_gPush (.int 0) 42)),
  (42, ni_sSt 0 6 44),
  (44, ni_sLd 0 6 46),
  (46, ni_sP (ni_gPush (.int 7) 48)),
  (48, ni_sP (ni_gIc (fun x y => decide (y ≤ x)) 70 51)),
  (51, ni_sLd 0 4 53),
  (53, ni_sLd 3 0 54),
  (54, ni_sLd 0 5 56),
  (56, ni_sLd 0 6 58),
  (58, ni_sV 22 2 9 61),
  (61, ni_sP (ni_gI (fun x y => x + y) 62)),
  (62, ni_sSt 0 4 64),
  (64, ni_sInc 6 (1) 67),
  (67, ni_sP (ni_gGo 44)),
  (70, ni_sLd 3 0 71),
  (71, ni_sLd 0 5 73),
  (73, ni_sV 14 1 9 76),
  (76, ni_sLd 3 0 77),
  (77, ni_sLd 0 5 79),
  (79, ni_sV 30 1 9 82),
  (82, ni_sP (ni_gIc (fun x y => decide (y < x)) 169 85)),
  (85, ni_sLd 3 0 86),
  (86, ni_sLd 0 5 88),
  (88, ni_sV 32 1 9 91),
  (91, ni_sP (ni_gPush (.int 1) 92)),
  (92, ni_sLd 3 0 93),
  (93, ni_sLd 0 5 95),
  (95, ni_sV 14 1 9 98),
  (98, ni_sP (ni_gIM (fun x y => if x < y then y else x) 101)),
  (101, ni_sP (ni_gIc (fun x y => decide (y ≤ x)) 169 104)),
  (104, ni_sLd 3 0 105),
  (105, ni_sLd 0 5 107),
  (107, ni_sV 27 1 9 110),
  (110, ni_sP (ni_gIf (fun x => decide (0 ≤ x)) 117 113)),
  (113, ni_sP (ni_gPush (.int 1) 114)),
  (114, ni_sP (ni_gGo 118)),
  (117, ni_sP (ni_gPush (.int 0) 118)),
  (118, ni_sLd 3 0 119),
  (119, ni_sLd 0 5 121),
  (121, ni_sV 14 1 9 124),
  (124, ni_sP (ni_gIf (fun x => decide (¬ x = 0)) 131 127)),
  (127, ni_sP (ni_gPush (.int 1) 128)),
  (128, ni_sP (ni_gGo 132)),
  (131, ni_sP (ni_gPush (.int 0) 132)),
  (132, ni_sP (ni_gIc (fun x y => decide (¬ x = y)) 169 135)),
  (135, ni_sLd 3 0 136),
  (136, ni_sLd 0 5 138),
  (138, ni_sV 29 1 9 141),
  (141, ni_sP (ni_gPush (.int 0) 142)),
  (142, ni_sLd 3 0 143),
  (143, ni_sLd 0 5 145),
  (145, ni_sV 27 1 9 148),
  (148, ni_sP (ni_gIM (fun x y => if x < y then y else x) 151)),
  (151, ni_sP (ni_gU (fun x => .double (FP.i2d x)) 152)),
  (152, ni_sP (ni_gD (fun x y => .int (Op.cmpValue (FP.dcmp x y) .l)) 153)),
  (153, ni_sP (ni_gIf (fun x => decide (0 < x)) 169 156)),
  (156, ni_sLd 3 0 157),
  (157, ni_sLd 0 5 159),
  (159, ni_sV 35 1 9 162),
  (162, ni_sLd 3 0 163),
  (163, ni_sV 36 0 9 166),
  (166, ni_sP (ni_gIc (fun x y => decide (x ≤ y)) 171 169)),
  (169, ni_sP (ni_gPush (.int 0) 170)),
  (170, ni_sR (some .boolean)),
  (171, ni_sInc 5 (1) 174),
  (174, ni_sP (ni_gGo 8)),
  (177, ni_sP (ni_gPush (.int 0) 178)),
  (178, ni_sSt 0 5 180),
  (180, ni_sLd 0 5 182),
  (182, ni_sLd 3 1 183),
  (183, ni_sLen 184),
  (184, ni_sP (ni_gIc (fun x y => decide (y ≤ x)) 369 187)),
  (187, ni_sLd 0 4 189),
  (189, ni_sLd 3 0 190),
  (190, ni_sLd 0 5 192)]
theorem ni_pk155_0 : ∀ r ∈ ni_pr155_0, ni_Ok xs yL_isSound cL_isSound 10 (some .boolean) [] r.1 r.2 ∧ ni_MU r.2 := ni_row (ni_okP (ni_iconst ni_dL_isSound_0 (by decide +kernel))) (ni_muP (ni_eqPush fun _ => rfl)) <|
  ni_row (ni_istoren ni_dL_isSound_1 rfl (by decide)) ni_muSt <|
  ni_row (ni_okP (ni_iconst ni_dL_isSound_2 (by decide +kernel))) (ni_muP (ni_eqPush fun _ => rfl)) <|
  ni_row (ni_istore ni_dL_isSound_3 (by decide)) ni_muSt <|
  ni_row (ni_okP (ni_iconst ni_dL_isSound_5 (by decide +kernel))) (ni_muP (ni_eqPush fun _ => rfl)) <|
  ni_row (ni_istore ni_dL_isSound_6 (by decide)) ni_muSt <|
  ni_row (ni_iload ni_dL_isSound_8) ni_muLd <|
  ni_row (ni_iloadn ni_dL_isSound_10 rfl) ni_muLd <|
  ni_row (ni_okP (ni_ic_ge ni_dL_isSound_11 (by decide))) (ni_muP ni_eqIc) <|
  ni_row (ni_iloadn ni_dL_isSound_14 rfl) ni_muLd <|
  ni_row (ni_aloadn ni_dL_isSound_15 rfl) ni_muLd <|
  ni_row (ni_iload ni_dL_isSound_16) ni_muLd <|
  ni_row (ni_virt (y := 30) (T := TX11) ni_dL_isSound_18 (by decide) rfl rfl ni_w1057 ni_w1058 ni_w1059 ni_w28 ni_w1060 ⟨by decide +kernel, by decide +kernel, by decide +kernel⟩ (by decide) rfl) (ni_muV (by decide)) <|
  ni_row (ni_okP (ni_iadd ni_dL_isSound_21)) (ni_muP ni_eqI) <|
  ni_row (ni_istoren ni_dL_isSound_22 rfl (by decide)) ni_muSt <|
  ni_row (ni_iload ni_dL_isSound_23) ni_muLd <|
  ni_row (ni_aloadn ni_dL_isSound_25 rfl) ni_muLd <|
  ni_row (ni_iload ni_dL_isSound_26) ni_muLd <|
  ni_row (ni_virt (y := 14) (T := TX11) ni_dL_isSound_28 (by decide) rfl rfl ni_w902 ni_w903 ni_w904 ni_w28 ni_w905 ⟨by decide +kernel, by decide +kernel, by decide +kernel⟩ (by decide) rfl) (ni_muV (by decide)) <|
  ni_row (ni_aloadn ni_dL_isSound_31 rfl) ni_muLd <|
  ni_row (ni_iload ni_dL_isSound_32) ni_muLd <|
  ni_row (ni_virt (y := 45) (T := TX11) ni_dL_isSound_34 (by decide) rfl rfl ni_w1061 ni_w1062 ni_w1063 ni_w28 ni_w1064 ⟨by decide +kernel, by decide +kernel, by decide +kernel⟩ (by decide) rfl) (ni_muV (by decide)) <|
  ni_row (ni_okP (ni_iadd ni_dL_isSound_37)) (ni_muP ni_eqI) <|
  ni_row (ni_okP (ni_iadd ni_dL_isSound_38)) (ni_muP ni_eqI) <|
  ni_row (ni_istore ni_dL_isSound_39 (by decide)) ni_muSt <|
  ni_row (ni_okP (ni_iconst ni_dL_isSound_41 (by decide +kernel))) (ni_muP (ni_eqPush fun _ => rfl)) <|
  ni_row (ni_istore ni_dL_isSound_42 (by decide)) ni_muSt <|
  ni_row (ni_iload ni_dL_isSound_44) ni_muLd <|
  ni_row (ni_okP (ni_bipush ni_dL_isSound_46 (by decide +kernel))) (ni_muP (ni_eqPush fun _ => rfl)) <|
  ni_row (ni_okP (ni_ic_ge ni_dL_isSound_48 (by decide))) (ni_muP ni_eqIc) <|
  ni_row (ni_iload ni_dL_isSound_51) ni_muLd <|
  ni_row (ni_aloadn ni_dL_isSound_53 rfl) ni_muLd <|
  ni_row (ni_iload ni_dL_isSound_54) ni_muLd <|
  ni_row (ni_iload ni_dL_isSound_56) ni_muLd <|
  ni_row (ni_virt (y := 22) (T := TX11) ni_dL_isSound_58 (by decide) rfl rfl ni_w1065 ni_w1066 ni_w1067 ni_w28 ni_w1068 ⟨by decide +kernel, by decide +kernel, by decide +kernel⟩ (by decide) rfl) (ni_muV (by decide)) <|
  ni_row (ni_okP (ni_iadd ni_dL_isSound_61)) (ni_muP ni_eqI) <|
  ni_row (ni_istore ni_dL_isSound_62 (by decide)) ni_muSt <|
  ni_row (ni_iinc (n := 1) ni_dL_isSound_64 (by decide)) ni_muInc <|
  ni_row (ni_okP (ni_goto ni_dL_isSound_67 (by decide))) (ni_muP ni_eqGo) <|
  ni_row (ni_aloadn ni_dL_isSound_70 rfl) ni_muLd <|
  ni_row (ni_iload ni_dL_isSound_71) ni_muLd <|
  ni_row (ni_virt (y := 14) (T := TX11) ni_dL_isSound_73 (by decide) rfl rfl ni_w902 ni_w903 ni_w904 ni_w28 ni_w905 ⟨by decide +kernel, by decide +kernel, by decide +kernel⟩ (by decide) rfl) (ni_muV (by decide)) <|
  ni_row (ni_aloadn ni_dL_isSound_76 rfl) ni_muLd <|
  ni_row (ni_iload ni_dL_isSound_77) ni_muLd <|
  ni_row (ni_virt (y := 30) (T := TX11) ni_dL_isSound_79 (by decide) rfl rfl ni_w1057 ni_w1058 ni_w1059 ni_w28 ni_w1060 ⟨by decide +kernel, by decide +kernel, by decide +kernel⟩ (by decide) rfl) (ni_muV (by decide)) <|
  ni_row (ni_okP (ni_ic_gt ni_dL_isSound_82 (by decide))) (ni_muP ni_eqIc) <|
  ni_row (ni_aloadn ni_dL_isSound_85 rfl) ni_muLd <|
  ni_row (ni_iload ni_dL_isSound_86) ni_muLd <|
  ni_row (ni_virt (y := 32) (T := TX11) ni_dL_isSound_88 (by decide) rfl rfl ni_w1069 ni_w1070 ni_w1071 ni_w28 ni_w1072 ⟨by decide +kernel, by decide +kernel, by decide +kernel⟩ (by decide) rfl) (ni_muV (by decide)) <|
  ni_row (ni_okP (ni_iconst ni_dL_isSound_91 (by decide +kernel))) (ni_muP (ni_eqPush fun _ => rfl)) <|
  ni_row (ni_aloadn ni_dL_isSound_92 rfl) ni_muLd <|
  ni_row (ni_iload ni_dL_isSound_93) ni_muLd <|
  ni_row (ni_virt (y := 14) (T := TX11) ni_dL_isSound_95 (by decide) rfl rfl ni_w902 ni_w903 ni_w904 ni_w28 ni_w905 ⟨by decide +kernel, by decide +kernel, by decide +kernel⟩ (by decide) rfl) (ni_muV (by decide)) <|
  ni_row (ni_okP (ni_max ni_dL_isSound_98 ni_w1073 ni_w767 ni_w46 ni_w768)) (ni_muP ni_eqIM) <|
  ni_row (ni_okP (ni_ic_ge ni_dL_isSound_101 (by decide))) (ni_muP ni_eqIc) <|
  ni_row (ni_aloadn ni_dL_isSound_104 rfl) ni_muLd <|
  ni_row (ni_iload ni_dL_isSound_105) ni_muLd <|
  ni_row (ni_virt (y := 27) (T := TX11) ni_dL_isSound_107 (by decide) rfl rfl ni_w1074 ni_w1075 ni_w1076 ni_w28 ni_w1077 ⟨by decide +kernel, by decide +kernel, by decide +kernel⟩ (by decide) rfl) (ni_muV (by decide)) <|
  ni_row (ni_okP (ni_if_ge ni_dL_isSound_110 (by decide))) (ni_muP ni_eqIf) <|
  ni_row (ni_okP (ni_iconst ni_dL_isSound_113 (by decide +kernel))) (ni_muP (ni_eqPush fun _ => rfl)) <|
  ni_row (ni_okP (ni_goto ni_dL_isSound_114 (by decide))) (ni_muP ni_eqGo) <|
  ni_row (ni_okP (ni_iconst ni_dL_isSound_117 (by decide +kernel))) (ni_muP (ni_eqPush fun _ => rfl)) <|
  ni_row (ni_aloadn ni_dL_isSound_118 rfl) ni_muLd <|
  ni_row (ni_iload ni_dL_isSound_119) ni_muLd <|
  ni_row (ni_virt (y := 14) (T := TX11) ni_dL_isSound_121 (by decide) rfl rfl ni_w902 ni_w903 ni_w904 ni_w28 ni_w905 ⟨by decide +kernel, by decide +kernel, by decide +kernel⟩ (by decide) rfl) (ni_muV (by decide)) <|
  ni_row (ni_okP (ni_if_ne ni_dL_isSound_124 (by decide))) (ni_muP ni_eqIf) <|
  ni_row (ni_okP (ni_iconst ni_dL_isSound_127 (by decide +kernel))) (ni_muP (ni_eqPush fun _ => rfl)) <|
  ni_row (ni_okP (ni_goto ni_dL_isSound_128 (by decide))) (ni_muP ni_eqGo) <|
  ni_row (ni_okP (ni_iconst ni_dL_isSound_131 (by decide +kernel))) (ni_muP (ni_eqPush fun _ => rfl)) <|
  ni_row (ni_okP (ni_ic_ne ni_dL_isSound_132 (by decide))) (ni_muP ni_eqIc) <|
  ni_row (ni_aloadn ni_dL_isSound_135 rfl) ni_muLd <|
  ni_row (ni_iload ni_dL_isSound_136) ni_muLd <|
  ni_row (ni_virt (y := 29) (T := TX11) ni_dL_isSound_138 (by decide) rfl rfl ni_w1078 ni_w1079 ni_w1080 ni_w28 ni_w1081 ⟨by decide +kernel, by decide +kernel, by decide +kernel⟩ (by decide) rfl) (ni_muV (by decide)) <|
  ni_row (ni_okP (ni_iconst ni_dL_isSound_141 (by decide +kernel))) (ni_muP (ni_eqPush fun _ => rfl)) <|
  ni_row (ni_aloadn ni_dL_isSound_142 rfl) ni_muLd <|
  ni_row (ni_iload ni_dL_isSound_143) ni_muLd <|
  ni_row (ni_virt (y := 27) (T := TX11) ni_dL_isSound_145 (by decide) rfl rfl ni_w1074 ni_w1075 ni_w1076 ni_w28 ni_w1077 ⟨by decide +kernel, by decide +kernel, by decide +kernel⟩ (by decide) rfl) (ni_muV (by decide)) <|
  ni_row (ni_okP (ni_max ni_dL_isSound_148 ni_w1073 ni_w767 ni_w46 ni_w768)) (ni_muP ni_eqIM) <|
  ni_row (ni_okP (ni_i2d ni_dL_isSound_151)) (ni_muP (ni_eqU fun _ _ => rfl)) <|
  ni_row (ni_okP (ni_dcmp ni_dL_isSound_152)) (ni_muP (ni_eqD fun _ _ _ => rfl)) <|
  ni_row (ni_okP (ni_if_gt ni_dL_isSound_153 (by decide))) (ni_muP ni_eqIf) <|
  ni_row (ni_aloadn ni_dL_isSound_156 rfl) ni_muLd <|
  ni_row (ni_iload ni_dL_isSound_157) ni_muLd <|
  ni_row (ni_virt (y := 35) (T := TX11) ni_dL_isSound_159 (by decide) rfl rfl ni_w1082 ni_w1083 ni_w1084 ni_w28 ni_w1085 ⟨by decide +kernel, by decide +kernel, by decide +kernel⟩ (by decide) rfl) (ni_muV (by decide)) <|
  ni_row (ni_aloadn ni_dL_isSound_162 rfl) ni_muLd <|
  ni_row (ni_virt (y := 36) (T := TX11) ni_dL_isSound_163 (by decide) rfl rfl ni_w1086 ni_w1087 ni_w1088 ni_w28 ni_w1089 ⟨by decide +kernel, by decide +kernel, by decide +kernel⟩ (by decide) rfl) (ni_muV (by decide)) <|
  ni_row (ni_okP (ni_ic_le ni_dL_isSound_166 (by decide))) (ni_muP ni_eqIc) <|
  ni_row (ni_okP (ni_iconst ni_dL_isSound_169 (by decide +kernel))) (ni_muP (ni_eqPush fun _ => rfl)) <|
  ni_row (ni_ret ni_dL_isSound_170) ni_muR <|
  ni_row (ni_iinc (n := 1) ni_dL_isSound_171 (by decide)) ni_muInc <|
  ni_row (ni_okP (ni_goto ni_dL_isSound_174 (by decide))) (ni_muP ni_eqGo) <|
  ni_row (ni_okP (ni_iconst ni_dL_isSound_177 (by decide +kernel))) (ni_muP (ni_eqPush fun _ => rfl)) <|
  ni_row (ni_istore ni_dL_isSound_178 (by decide)) ni_muSt <|
  ni_row (ni_iload ni_dL_isSound_180) ni_muLd <|
  ni_row (ni_aloadn ni_dL_isSound_182 rfl) ni_muLd <|
  ni_row (ni_len ni_dL_isSound_183) ni_muLen <|
  ni_row (ni_okP (ni_ic_ge ni_dL_isSound_184 (by decide))) (ni_muP ni_eqIc) <|
  ni_row (ni_iload ni_dL_isSound_187) ni_muLd <|
  ni_row (ni_aloadn ni_dL_isSound_189 rfl) ni_muLd <|
  ni_row (ni_iload ni_dL_isSound_190) ni_muLd <|
  ni_row0
def ni_pr155_1 : List (Nat × ni_S) := [(192, ni_sV 31 1 9 195),
  (195, ni_sP (ni_gI (fun x y => x + y) 196)),
  (196, ni_sSt 0 4 198),
  (198, ni_sP (ni_gPush (.int 0) 199)),
  (199, ni_sSt 0 6 201),
  (201, ni_sLd 0 6 203),
  (203, ni_sP (ni_gPush (.int 2) 204)),
  (204, ni_sP (ni_gIc (fun x y => decide (y ≤ x)) 363 207)),
  (207, ni_sLd 0 6 209),
  (209, ni_sP (ni_gPush (.int 1) 210)),
  (210, ni_sP (ni_gIc (fun x y => decide (¬ x = y)) 217 213)),
  (213, ni_sP (ni_gPush (.int 1) 214)),
  (214, ni_sP (ni_gGo 218)),
  (217, ni_sP (ni_gPush (.int 0) 218)),
  (218, ni_sSt 0 7 220),
  (220, ni_sP (ni_gPush (.int 0) 221)),
  (221, ni_sSt 0 8 223),
  (223, ni_sP (ni_gPush (.int 0) 224)),
  (224, ni_sSt 0 9 226),
  (226, ni_sLd 0 9 228),
  (228, ni_sP (ni_gPush (.int 4) 229)),
  (229, ni_sP (ni_gIc (fun x y => decide (y ≤ x)) 268 232)),
  (232, ni_sLd 0 8 234),
  (234, ni_sLd 3 0 235),
  (235, ni_sLd 0 5 237),
  (237, ni_sLd 0 7 239),
  (239, ni_sLd 0 9 241),
  (241, ni_sV 34 3 9 244),
  (244, ni_sP (ni_gI (fun x y => x + y) 245)),
  (245, ni_sSt 0 8 247),
  (247, ni_sLd 3 0 248),
  (248, ni_sLd 0 5 250),
  (250, ni_sLd 0 7 252),
  (252, ni_sLd 0 9 254),
  (254, ni_sV 13 3 9 257),
  (257, ni_sP (ni_gIf (fun x => decide (0 ≤ x)) 262 260)),
  (260, ni_sP (ni_gPush (.int 0) 261)),
  (261, ni_sR (some .boolean)),
  (262, ni_sInc 9 (1) 265),
  (265, ni_sP (ni_gGo 226)),
  (268, ni_sLd 0 4 270),
  (270, ni_sLd 0 8 272),
  (272, ni_sLd 3 0 273),
  (273, ni_sLd 0 5 275),
  (275, ni_sLd 0 7 277),
  (277, ni_sV 38 2 9 280),
  (280, ni_sP (ni_gIf (fun x => decide (x ≤ 0)) 287 283)),
  (283, ni_sP (ni_gPush (.int 1) 284)),
  (284, ni_sP (ni_gGo 288)),
  (287, ni_sP (ni_gPush (.int 0) 288)),
  (288, ni_sP (ni_gI (fun x y => x + y) 289)),
  (289, ni_sP (ni_gI (fun x y => x + y) 290)),
  (290, ni_sSt 0 4 292),
  (292, ni_sLd 3 0 293),
  (293, ni_sLd 0 5 295),
  (295, ni_sLd 0 7 297),
  (297, ni_sV 50 2 9 300),
  (300, ni_sP (ni_gIf (fun x => decide (¬ x = 0)) 307 303)),
  (303, ni_sP (ni_gPush (.int 1) 304)),
  (304, ni_sP (ni_gGo 308)),
  (307, ni_sP (ni_gPush (.int 0) 308)),
  (308, ni_sLd 0 8 310),
  (310, ni_sP (ni_gIf (fun x => decide (¬ x = 0)) 317 313)),
  (313, ni_sP (ni_gPush (.int 1) 314)),
  (314, ni_sP (ni_gGo 318)),
  (317, ni_sP (ni_gPush (.int 0) 318)),
  (318, ni_sP (ni_gIc (fun x y => decide (¬ x = y)) 355 321)),
  (321, ni_sLd 3 0 322),
  (322, ni_sLd 0 5 324),
  (324, ni_sV 26 1 9 327),
  (327, ni_sP (ni_gIf (fun x => decide (¬ x = 0)) 357 330)),
  (330, ni_sLd 0 8 332),
  (332, ni_sP (ni_gIf (fun x => decide (0 < x)) 355 335)),
  (335, ni_sLd 3 0 336),
  (336, ni_sLd 0 5 338),
  (338, ni_sLd 0 7 340),
  (340, ni_sV 38 2 9 343),
  (343, ni_sP (ni_gIf (fun x => decide (0 < x)) 355 346)),
  (346, ni_sLd 3 0 347),
  (347, ni_sLd 0 5 349),
  (349, ni_sV 31 1 9 352),
  (352, ni_sP (ni_gIf (fun x => decide (x ≤ 0)) 357 355)),
  (355, ni_sP (ni_gPush (.int 0) 356)),
  (356, ni_sR (some .boolean)),
  (357, ni_sInc 6 (1) 360),
  (360, ni_sP (ni_gGo 201)),
  (363, ni_sInc 5 (1) 366),
  (366, ni_sP (ni_gGo 180)),
  (369, ni_sP (ni_gPush (.int 0) 370)),
  (370, ni_sSt 0 5 372),
  (372, ni_sLd 0 5 374),
  (374, ni_sLd 3 0 375),
  (375, ni_sV 36 0 9 378),
  (378, ni_sP (ni_gIc (fun x y => decide (y ≤ x)) 529 381)),
  (381, ni_sLd 3 0 382),
  (382, ni_sLd 0 5 384),
  (384, ni_sLd 0 5 386),
  (386, ni_sV 21 2 9 389),
  (389, ni_sP (ni_gIf (fun x => decide (¬ x = 0)) 447 392)),
  (392, ni_sLd 3 0 393)]
theorem ni_pk155_1 : ∀ r ∈ ni_pr155_1, ni_Ok xs yL_isSound cL_isSound 10 (some .boolean) [] r.1 r.2 ∧ ni_MU r.2 := ni_row (ni_virt (y := 31) (T := TX11) ni_dL_isSound_192 (by decide) rfl rfl ni_w1090 ni_w1091 ni_w1092 ni_w28 ni_w1093 ⟨by decide +kernel, by decide +kernel, by decide +kernel⟩ (by decide) rfl) (ni_muV (by decide)) <|
  ni_row (ni_okP (ni_iadd ni_dL_isSound_195)) (ni_muP ni_eqI) <|
  ni_row (ni_istore ni_dL_isSound_196 (by decide)) ni_muSt <|
  ni_row (ni_okP (ni_iconst ni_dL_isSound_198 (by decide +kernel))) (ni_muP (ni_eqPush fun _ => rfl)) <|
  ni_row (ni_istore ni_dL_isSound_199 (by decide)) ni_muSt <|
  ni_row (ni_iload ni_dL_isSound_201) ni_muLd <|
  ni_row (ni_okP (ni_iconst ni_dL_isSound_203 (by decide +kernel))) (ni_muP (ni_eqPush fun _ => rfl)) <|
  ni_row (ni_okP (ni_ic_ge ni_dL_isSound_204 (by decide))) (ni_muP ni_eqIc) <|
  ni_row (ni_iload ni_dL_isSound_207) ni_muLd <|
  ni_row (ni_okP (ni_iconst ni_dL_isSound_209 (by decide +kernel))) (ni_muP (ni_eqPush fun _ => rfl)) <|
  ni_row (ni_okP (ni_ic_ne ni_dL_isSound_210 (by decide))) (ni_muP ni_eqIc) <|
  ni_row (ni_okP (ni_iconst ni_dL_isSound_213 (by decide +kernel))) (ni_muP (ni_eqPush fun _ => rfl)) <|
  ni_row (ni_okP (ni_goto ni_dL_isSound_214 (by decide))) (ni_muP ni_eqGo) <|
  ni_row (ni_okP (ni_iconst ni_dL_isSound_217 (by decide +kernel))) (ni_muP (ni_eqPush fun _ => rfl)) <|
  ni_row (ni_istore ni_dL_isSound_218 (by decide)) ni_muSt <|
  ni_row (ni_okP (ni_iconst ni_dL_isSound_220 (by decide +kernel))) (ni_muP (ni_eqPush fun _ => rfl)) <|
  ni_row (ni_istore ni_dL_isSound_221 (by decide)) ni_muSt <|
  ni_row (ni_okP (ni_iconst ni_dL_isSound_223 (by decide +kernel))) (ni_muP (ni_eqPush fun _ => rfl)) <|
  ni_row (ni_istore ni_dL_isSound_224 (by decide)) ni_muSt <|
  ni_row (ni_iload ni_dL_isSound_226) ni_muLd <|
  ni_row (ni_okP (ni_iconst ni_dL_isSound_228 (by decide +kernel))) (ni_muP (ni_eqPush fun _ => rfl)) <|
  ni_row (ni_okP (ni_ic_ge ni_dL_isSound_229 (by decide))) (ni_muP ni_eqIc) <|
  ni_row (ni_iload ni_dL_isSound_232) ni_muLd <|
  ni_row (ni_aloadn ni_dL_isSound_234 rfl) ni_muLd <|
  ni_row (ni_iload ni_dL_isSound_235) ni_muLd <|
  ni_row (ni_iload ni_dL_isSound_237) ni_muLd <|
  ni_row (ni_iload ni_dL_isSound_239) ni_muLd <|
  ni_row (ni_virt (y := 34) (T := TX11) ni_dL_isSound_241 (by decide) rfl rfl ni_w1094 ni_w1095 ni_w1096 ni_w28 ni_w1097 ⟨by decide +kernel, by decide +kernel, by decide +kernel⟩ (by decide) rfl) (ni_muV (by decide)) <|
  ni_row (ni_okP (ni_iadd ni_dL_isSound_244)) (ni_muP ni_eqI) <|
  ni_row (ni_istore ni_dL_isSound_245 (by decide)) ni_muSt <|
  ni_row (ni_aloadn ni_dL_isSound_247 rfl) ni_muLd <|
  ni_row (ni_iload ni_dL_isSound_248) ni_muLd <|
  ni_row (ni_iload ni_dL_isSound_250) ni_muLd <|
  ni_row (ni_iload ni_dL_isSound_252) ni_muLd <|
  ni_row (ni_virt (y := 13) (T := TX11) ni_dL_isSound_254 (by decide) rfl rfl ni_w1098 ni_w1099 ni_w1100 ni_w28 ni_w1101 ⟨by decide +kernel, by decide +kernel, by decide +kernel⟩ (by decide) rfl) (ni_muV (by decide)) <|
  ni_row (ni_okP (ni_if_ge ni_dL_isSound_257 (by decide))) (ni_muP ni_eqIf) <|
  ni_row (ni_okP (ni_iconst ni_dL_isSound_260 (by decide +kernel))) (ni_muP (ni_eqPush fun _ => rfl)) <|
  ni_row (ni_ret ni_dL_isSound_261) ni_muR <|
  ni_row (ni_iinc (n := 1) ni_dL_isSound_262 (by decide)) ni_muInc <|
  ni_row (ni_okP (ni_goto ni_dL_isSound_265 (by decide))) (ni_muP ni_eqGo) <|
  ni_row (ni_iload ni_dL_isSound_268) ni_muLd <|
  ni_row (ni_iload ni_dL_isSound_270) ni_muLd <|
  ni_row (ni_aloadn ni_dL_isSound_272 rfl) ni_muLd <|
  ni_row (ni_iload ni_dL_isSound_273) ni_muLd <|
  ni_row (ni_iload ni_dL_isSound_275) ni_muLd <|
  ni_row (ni_virt (y := 38) (T := TX11) ni_dL_isSound_277 (by decide) rfl rfl ni_w1102 ni_w1103 ni_w1104 ni_w28 ni_w1105 ⟨by decide +kernel, by decide +kernel, by decide +kernel⟩ (by decide) rfl) (ni_muV (by decide)) <|
  ni_row (ni_okP (ni_if_le ni_dL_isSound_280 (by decide))) (ni_muP ni_eqIf) <|
  ni_row (ni_okP (ni_iconst ni_dL_isSound_283 (by decide +kernel))) (ni_muP (ni_eqPush fun _ => rfl)) <|
  ni_row (ni_okP (ni_goto ni_dL_isSound_284 (by decide))) (ni_muP ni_eqGo) <|
  ni_row (ni_okP (ni_iconst ni_dL_isSound_287 (by decide +kernel))) (ni_muP (ni_eqPush fun _ => rfl)) <|
  ni_row (ni_okP (ni_iadd ni_dL_isSound_288)) (ni_muP ni_eqI) <|
  ni_row (ni_okP (ni_iadd ni_dL_isSound_289)) (ni_muP ni_eqI) <|
  ni_row (ni_istore ni_dL_isSound_290 (by decide)) ni_muSt <|
  ni_row (ni_aloadn ni_dL_isSound_292 rfl) ni_muLd <|
  ni_row (ni_iload ni_dL_isSound_293) ni_muLd <|
  ni_row (ni_iload ni_dL_isSound_295) ni_muLd <|
  ni_row (ni_virt (y := 50) (T := TX11) ni_dL_isSound_297 (by decide) rfl rfl ni_w1106 ni_w1107 ni_w1108 ni_w28 ni_w1109 ⟨by decide +kernel, by decide +kernel, by decide +kernel⟩ (by decide) rfl) (ni_muV (by decide)) <|
  ni_row (ni_okP (ni_if_ne ni_dL_isSound_300 (by decide))) (ni_muP ni_eqIf) <|
  ni_row (ni_okP (ni_iconst ni_dL_isSound_303 (by decide +kernel))) (ni_muP (ni_eqPush fun _ => rfl)) <|
  ni_row (ni_okP (ni_goto ni_dL_isSound_304 (by decide))) (ni_muP ni_eqGo) <|
  ni_row (ni_okP (ni_iconst ni_dL_isSound_307 (by decide +kernel))) (ni_muP (ni_eqPush fun _ => rfl)) <|
  ni_row (ni_iload ni_dL_isSound_308) ni_muLd <|
  ni_row (ni_okP (ni_if_ne ni_dL_isSound_310 (by decide))) (ni_muP ni_eqIf) <|
  ni_row (ni_okP (ni_iconst ni_dL_isSound_313 (by decide +kernel))) (ni_muP (ni_eqPush fun _ => rfl)) <|
  ni_row (ni_okP (ni_goto ni_dL_isSound_314 (by decide))) (ni_muP ni_eqGo) <|
  ni_row (ni_okP (ni_iconst ni_dL_isSound_317 (by decide +kernel))) (ni_muP (ni_eqPush fun _ => rfl)) <|
  ni_row (ni_okP (ni_ic_ne ni_dL_isSound_318 (by decide))) (ni_muP ni_eqIc) <|
  ni_row (ni_aloadn ni_dL_isSound_321 rfl) ni_muLd <|
  ni_row (ni_iload ni_dL_isSound_322) ni_muLd <|
  ni_row (ni_virt (y := 26) (T := TX11) ni_dL_isSound_324 (by decide) rfl rfl ni_w1110 ni_w1111 ni_w1112 ni_w28 ni_w1113 ⟨by decide +kernel, by decide +kernel, by decide +kernel⟩ (by decide) rfl) (ni_muV (by decide)) <|
  ni_row (ni_okP (ni_if_ne ni_dL_isSound_327 (by decide))) (ni_muP ni_eqIf) <|
  ni_row (ni_iload ni_dL_isSound_330) ni_muLd <|
  ni_row (ni_okP (ni_if_gt ni_dL_isSound_332 (by decide))) (ni_muP ni_eqIf) <|
  ni_row (ni_aloadn ni_dL_isSound_335 rfl) ni_muLd <|
  ni_row (ni_iload ni_dL_isSound_336) ni_muLd <|
  ni_row (ni_iload ni_dL_isSound_338) ni_muLd <|
  ni_row (ni_virt (y := 38) (T := TX11) ni_dL_isSound_340 (by decide) rfl rfl ni_w1102 ni_w1103 ni_w1104 ni_w28 ni_w1105 ⟨by decide +kernel, by decide +kernel, by decide +kernel⟩ (by decide) rfl) (ni_muV (by decide)) <|
  ni_row (ni_okP (ni_if_gt ni_dL_isSound_343 (by decide))) (ni_muP ni_eqIf) <|
  ni_row (ni_aloadn ni_dL_isSound_346 rfl) ni_muLd <|
  ni_row (ni_iload ni_dL_isSound_347) ni_muLd <|
  ni_row (ni_virt (y := 31) (T := TX11) ni_dL_isSound_349 (by decide) rfl rfl ni_w1090 ni_w1091 ni_w1092 ni_w28 ni_w1093 ⟨by decide +kernel, by decide +kernel, by decide +kernel⟩ (by decide) rfl) (ni_muV (by decide)) <|
  ni_row (ni_okP (ni_if_le ni_dL_isSound_352 (by decide))) (ni_muP ni_eqIf) <|
  ni_row (ni_okP (ni_iconst ni_dL_isSound_355 (by decide +kernel))) (ni_muP (ni_eqPush fun _ => rfl)) <|
  ni_row (ni_ret ni_dL_isSound_356) ni_muR <|
  ni_row (ni_iinc (n := 1) ni_dL_isSound_357 (by decide)) ni_muInc <|
  ni_row (ni_okP (ni_goto ni_dL_isSound_360 (by decide))) (ni_muP ni_eqGo) <|
  ni_row (ni_iinc (n := 1) ni_dL_isSound_363 (by decide)) ni_muInc <|
  ni_row (ni_okP (ni_goto ni_dL_isSound_366 (by decide))) (ni_muP ni_eqGo) <|
  ni_row (ni_okP (ni_iconst ni_dL_isSound_369 (by decide +kernel))) (ni_muP (ni_eqPush fun _ => rfl)) <|
  ni_row (ni_istore ni_dL_isSound_370 (by decide)) ni_muSt <|
  ni_row (ni_iload ni_dL_isSound_372) ni_muLd <|
  ni_row (ni_aloadn ni_dL_isSound_374 rfl) ni_muLd <|
  ni_row (ni_virt (y := 36) (T := TX11) ni_dL_isSound_375 (by decide) rfl rfl ni_w1086 ni_w1087 ni_w1088 ni_w28 ni_w1089 ⟨by decide +kernel, by decide +kernel, by decide +kernel⟩ (by decide) rfl) (ni_muV (by decide)) <|
  ni_row (ni_okP (ni_ic_ge ni_dL_isSound_378 (by decide))) (ni_muP ni_eqIc) <|
  ni_row (ni_aloadn ni_dL_isSound_381 rfl) ni_muLd <|
  ni_row (ni_iload ni_dL_isSound_382) ni_muLd <|
  ni_row (ni_iload ni_dL_isSound_384) ni_muLd <|
  ni_row (ni_virt (y := 21) (T := TX11) ni_dL_isSound_386 (by decide) rfl rfl ni_w1114 ni_w1115 ni_w1116 ni_w28 ni_w1117 ⟨by decide +kernel, by decide +kernel, by decide +kernel⟩ (by decide) rfl) (ni_muV (by decide)) <|
  ni_row (ni_okP (ni_if_ne ni_dL_isSound_389 (by decide))) (ni_muP ni_eqIf) <|
  ni_row (ni_aloadn ni_dL_isSound_392 rfl) ni_muLd <|
  ni_row0
def ni_pr155_2 : List (Nat × ni_S) := [(393, ni_sLd 0 5 395),
  (395, ni_sLd 0 5 397),
  (397, ni_sV 24 2 9 400),
  (400, ni_sP (ni_gIf (fun x => decide (¬ x = 0)) 447 403)),
  (403, ni_sLd 3 0 404),
  (404, ni_sLd 0 5 406),
  (406, ni_sV 49 1 9 409),
  (409, ni_sP (ni_gPush (.int 1) 410)),
  (410, ni_sP (ni_gIc (fun x y => decide (x < y)) 447 413)),
  (413, ni_sLd 3 0 414),
  (414, ni_sLd 0 5 416),
  (416, ni_sV 49 1 9 419),
  (419, ni_sP (ni_gPush (.int 2) 420)),
  (420, ni_sLd 3 0 421),
  (421, ni_sLd 0 5 423),
  (423, ni_sV 23 1 9 426),
  (426, ni_sP (ni_gI (fun x y => x * y) 427)),
  (427, ni_sP (ni_gPush (.int 1) 428)),
  (428, ni_sP (ni_gI (fun x y => x + y) 429)),
  (429, ni_sP (ni_gIc (fun x y => decide (y < x)) 447 432)),
  (432, ni_sLd 3 0 433),
  (433, ni_sLd 0 5 435),
  (435, ni_sV 48 1 9 438),
  (438, ni_sLd 3 0 439),
  (439, ni_sLd 0 5 441),
  (441, ni_sV 49 1 9 444),
  (444, ni_sP (ni_gIc (fun x y => decide (x ≤ y)) 449 447)),
  (447, ni_sP (ni_gPush (.int 0) 448)),
  (448, ni_sR (some .boolean)),
  (449, ni_sP (ni_gPush (.int 0) 450)),
  (450, ni_sSt 0 6 452),
  (452, ni_sLd 0 6 454),
  (454, ni_sLd 3 0 455),
  (455, ni_sV 36 0 9 458),
  (458, ni_sP (ni_gIc (fun x y => decide (y ≤ x)) 523 461)),
  (461, ni_sLd 3 0 462),
  (462, ni_sLd 0 5 464),
  (464, ni_sLd 0 6 466),
  (466, ni_sV 28 2 9 469),
  (469, ni_sLd 3 0 470),
  (470, ni_sLd 0 6 472),
  (472, ni_sLd 0 6 474),
  (474, ni_sV 28 2 9 477),
  (477, ni_sP (ni_gIc (fun x y => decide (y < x)) 515 480)),
  (480, ni_sLd 3 0 481),
  (481, ni_sLd 0 5 483),
  (483, ni_sLd 0 6 485),
  (485, ni_sV 21 2 9 488),
  (488, ni_sP (ni_gIf (fun x => decide (x ≤ 0)) 495 491)),
  (491, ni_sP (ni_gPush (.int 1) 492)),
  (492, ni_sP (ni_gGo 496)),
  (495, ni_sP (ni_gPush (.int 0) 496)),
  (496, ni_sLd 3 0 497),
  (497, ni_sLd 0 5 499),
  (499, ni_sLd 0 6 501),
  (501, ni_sV 24 2 9 504),
  (504, ni_sP (ni_gIf (fun x => decide (x ≤ 0)) 511 507)),
  (507, ni_sP (ni_gPush (.int 1) 508)),
  (508, ni_sP (ni_gGo 512)),
  (511, ni_sP (ni_gPush (.int 0) 512)),
  (512, ni_sP (ni_gIc (fun x y => decide (x = y)) 517 515)),
  (515, ni_sP (ni_gPush (.int 0) 516)),
  (516, ni_sR (some .boolean)),
  (517, ni_sInc 6 (1) 520),
  (520, ni_sP (ni_gGo 452)),
  (523, ni_sInc 5 (1) 526),
  (526, ni_sP (ni_gGo 372)),
  (529, ni_sLd 0 3 530),
  (530, ni_sLd 0 4 532),
  (532, ni_sP (ni_gIc (fun x y => decide (¬ x = y)) 539 535)),
  (535, ni_sP (ni_gPush (.int 1) 536)),
  (536, ni_sP (ni_gGo 540)),
  (539, ni_sP (ni_gPush (.int 0) 540)),
  (540, ni_sR (some .boolean))]
theorem ni_pk155_2 : ∀ r ∈ ni_pr155_2, ni_Ok xs yL_isSound cL_isSound 10 (some .boolean) [] r.1 r.2 ∧ ni_MU r.2 := ni_row (ni_iload ni_dL_isSound_393) ni_muLd <|
  ni_row (ni_iload ni_dL_isSound_395) ni_muLd <|
  ni_row (ni_virt (y := 24) (T := TX11) ni_dL_isSound_397 (by decide) rfl rfl ni_w1118 ni_w1119 ni_w1120 ni_w28 ni_w1121 ⟨by decide +kernel, by decide +kernel, by decide +kernel⟩ (by decide) rfl) (ni_muV (by decide)) <|
  ni_row (ni_okP (ni_if_ne ni_dL_isSound_400 (by decide))) (ni_muP ni_eqIf) <|
  ni_row (ni_aloadn ni_dL_isSound_403 rfl) ni_muLd <|
  ni_row (ni_iload ni_dL_isSound_404) ni_muLd <|
  ni_row (ni_virt (y := 49) (T := TX11) ni_dL_isSound_406 (by decide) rfl rfl ni_w1122 ni_w1123 ni_w1124 ni_w28 ni_w1125 ⟨by decide +kernel, by decide +kernel, by decide +kernel⟩ (by decide) rfl) (ni_muV (by decide)) <|
  ni_row (ni_okP (ni_iconst ni_dL_isSound_409 (by decide +kernel))) (ni_muP (ni_eqPush fun _ => rfl)) <|
  ni_row (ni_okP (ni_ic_lt ni_dL_isSound_410 (by decide))) (ni_muP ni_eqIc) <|
  ni_row (ni_aloadn ni_dL_isSound_413 rfl) ni_muLd <|
  ni_row (ni_iload ni_dL_isSound_414) ni_muLd <|
  ni_row (ni_virt (y := 49) (T := TX11) ni_dL_isSound_416 (by decide) rfl rfl ni_w1122 ni_w1123 ni_w1124 ni_w28 ni_w1125 ⟨by decide +kernel, by decide +kernel, by decide +kernel⟩ (by decide) rfl) (ni_muV (by decide)) <|
  ni_row (ni_okP (ni_iconst ni_dL_isSound_419 (by decide +kernel))) (ni_muP (ni_eqPush fun _ => rfl)) <|
  ni_row (ni_aloadn ni_dL_isSound_420 rfl) ni_muLd <|
  ni_row (ni_iload ni_dL_isSound_421) ni_muLd <|
  ni_row (ni_virt (y := 23) (T := TX11) ni_dL_isSound_423 (by decide) rfl rfl ni_w1126 ni_w1127 ni_w1128 ni_w28 ni_w1129 ⟨by decide +kernel, by decide +kernel, by decide +kernel⟩ (by decide) rfl) (ni_muV (by decide)) <|
  ni_row (ni_okP (ni_imul ni_dL_isSound_426)) (ni_muP ni_eqI) <|
  ni_row (ni_okP (ni_iconst ni_dL_isSound_427 (by decide +kernel))) (ni_muP (ni_eqPush fun _ => rfl)) <|
  ni_row (ni_okP (ni_iadd ni_dL_isSound_428)) (ni_muP ni_eqI) <|
  ni_row (ni_okP (ni_ic_gt ni_dL_isSound_429 (by decide))) (ni_muP ni_eqIc) <|
  ni_row (ni_aloadn ni_dL_isSound_432 rfl) ni_muLd <|
  ni_row (ni_iload ni_dL_isSound_433) ni_muLd <|
  ni_row (ni_virt (y := 48) (T := TX11) ni_dL_isSound_435 (by decide) rfl rfl ni_w1130 ni_w1131 ni_w1132 ni_w28 ni_w1133 ⟨by decide +kernel, by decide +kernel, by decide +kernel⟩ (by decide) rfl) (ni_muV (by decide)) <|
  ni_row (ni_aloadn ni_dL_isSound_438 rfl) ni_muLd <|
  ni_row (ni_iload ni_dL_isSound_439) ni_muLd <|
  ni_row (ni_virt (y := 49) (T := TX11) ni_dL_isSound_441 (by decide) rfl rfl ni_w1122 ni_w1123 ni_w1124 ni_w28 ni_w1125 ⟨by decide +kernel, by decide +kernel, by decide +kernel⟩ (by decide) rfl) (ni_muV (by decide)) <|
  ni_row (ni_okP (ni_ic_le ni_dL_isSound_444 (by decide))) (ni_muP ni_eqIc) <|
  ni_row (ni_okP (ni_iconst ni_dL_isSound_447 (by decide +kernel))) (ni_muP (ni_eqPush fun _ => rfl)) <|
  ni_row (ni_ret ni_dL_isSound_448) ni_muR <|
  ni_row (ni_okP (ni_iconst ni_dL_isSound_449 (by decide +kernel))) (ni_muP (ni_eqPush fun _ => rfl)) <|
  ni_row (ni_istore ni_dL_isSound_450 (by decide)) ni_muSt <|
  ni_row (ni_iload ni_dL_isSound_452) ni_muLd <|
  ni_row (ni_aloadn ni_dL_isSound_454 rfl) ni_muLd <|
  ni_row (ni_virt (y := 36) (T := TX11) ni_dL_isSound_455 (by decide) rfl rfl ni_w1086 ni_w1087 ni_w1088 ni_w28 ni_w1089 ⟨by decide +kernel, by decide +kernel, by decide +kernel⟩ (by decide) rfl) (ni_muV (by decide)) <|
  ni_row (ni_okP (ni_ic_ge ni_dL_isSound_458 (by decide))) (ni_muP ni_eqIc) <|
  ni_row (ni_aloadn ni_dL_isSound_461 rfl) ni_muLd <|
  ni_row (ni_iload ni_dL_isSound_462) ni_muLd <|
  ni_row (ni_iload ni_dL_isSound_464) ni_muLd <|
  ni_row (ni_virt (y := 28) (T := TX11) ni_dL_isSound_466 (by decide) rfl rfl ni_w1134 ni_w1135 ni_w1136 ni_w28 ni_w1137 ⟨by decide +kernel, by decide +kernel, by decide +kernel⟩ (by decide) rfl) (ni_muV (by decide)) <|
  ni_row (ni_aloadn ni_dL_isSound_469 rfl) ni_muLd <|
  ni_row (ni_iload ni_dL_isSound_470) ni_muLd <|
  ni_row (ni_iload ni_dL_isSound_472) ni_muLd <|
  ni_row (ni_virt (y := 28) (T := TX11) ni_dL_isSound_474 (by decide) rfl rfl ni_w1134 ni_w1135 ni_w1136 ni_w28 ni_w1137 ⟨by decide +kernel, by decide +kernel, by decide +kernel⟩ (by decide) rfl) (ni_muV (by decide)) <|
  ni_row (ni_okP (ni_ic_gt ni_dL_isSound_477 (by decide))) (ni_muP ni_eqIc) <|
  ni_row (ni_aloadn ni_dL_isSound_480 rfl) ni_muLd <|
  ni_row (ni_iload ni_dL_isSound_481) ni_muLd <|
  ni_row (ni_iload ni_dL_isSound_483) ni_muLd <|
  ni_row (ni_virt (y := 21) (T := TX11) ni_dL_isSound_485 (by decide) rfl rfl ni_w1114 ni_w1115 ni_w1116 ni_w28 ni_w1117 ⟨by decide +kernel, by decide +kernel, by decide +kernel⟩ (by decide) rfl) (ni_muV (by decide)) <|
  ni_row (ni_okP (ni_if_le ni_dL_isSound_488 (by decide))) (ni_muP ni_eqIf) <|
  ni_row (ni_okP (ni_iconst ni_dL_isSound_491 (by decide +kernel))) (ni_muP (ni_eqPush fun _ => rfl)) <|
  ni_row (ni_okP (ni_goto ni_dL_isSound_492 (by decide))) (ni_muP ni_eqGo) <|
  ni_row (ni_okP (ni_iconst ni_dL_isSound_495 (by decide +kernel))) (ni_muP (ni_eqPush fun _ => rfl)) <|
  ni_row (ni_aloadn ni_dL_isSound_496 rfl) ni_muLd <|
  ni_row (ni_iload ni_dL_isSound_497) ni_muLd <|
  ni_row (ni_iload ni_dL_isSound_499) ni_muLd <|
  ni_row (ni_virt (y := 24) (T := TX11) ni_dL_isSound_501 (by decide) rfl rfl ni_w1118 ni_w1119 ni_w1120 ni_w28 ni_w1121 ⟨by decide +kernel, by decide +kernel, by decide +kernel⟩ (by decide) rfl) (ni_muV (by decide)) <|
  ni_row (ni_okP (ni_if_le ni_dL_isSound_504 (by decide))) (ni_muP ni_eqIf) <|
  ni_row (ni_okP (ni_iconst ni_dL_isSound_507 (by decide +kernel))) (ni_muP (ni_eqPush fun _ => rfl)) <|
  ni_row (ni_okP (ni_goto ni_dL_isSound_508 (by decide))) (ni_muP ni_eqGo) <|
  ni_row (ni_okP (ni_iconst ni_dL_isSound_511 (by decide +kernel))) (ni_muP (ni_eqPush fun _ => rfl)) <|
  ni_row (ni_okP (ni_ic_eq ni_dL_isSound_512 (by decide))) (ni_muP ni_eqIc) <|
  ni_row (ni_okP (ni_iconst ni_dL_isSound_515 (by decide +kernel))) (ni_muP (ni_eqPush fun _ => rfl)) <|
  ni_row (ni_ret ni_dL_isSound_516) ni_muR <|
  ni_row (ni_iinc (n := 1) ni_dL_isSound_517 (by decide)) ni_muInc <|
  ni_row (ni_okP (ni_goto ni_dL_isSound_520 (by decide))) (ni_muP ni_eqGo) <|
  ni_row (ni_iinc (n := 1) ni_dL_isSound_523 (by decide)) ni_muInc <|
  ni_row (ni_okP (ni_goto ni_dL_isSound_526 (by decide))) (ni_muP ni_eqGo) <|
  ni_row (ni_iloadn ni_dL_isSound_529 rfl) ni_muLd <|
  ni_row (ni_iload ni_dL_isSound_530) ni_muLd <|
  ni_row (ni_okP (ni_ic_ne ni_dL_isSound_532 (by decide))) (ni_muP ni_eqIc) <|
  ni_row (ni_okP (ni_iconst ni_dL_isSound_535 (by decide +kernel))) (ni_muP (ni_eqPush fun _ => rfl)) <|
  ni_row (ni_okP (ni_goto ni_dL_isSound_536 (by decide))) (ni_muP ni_eqGo) <|
  ni_row (ni_okP (ni_iconst ni_dL_isSound_539 (by decide +kernel))) (ni_muP (ni_eqPush fun _ => rfl)) <|
  ni_row (ni_ret ni_dL_isSound_540) ni_muR <|
  ni_row0
def ni_pr155 : List (Nat × ni_S) := ni_pr155_0 ++ (ni_pr155_1 ++ (ni_pr155_2))
theorem ni_pk155 : ∀ r ∈ ni_pr155, ni_Ok xs yL_isSound cL_isSound 10 (some .boolean) [] r.1 r.2 ∧ ni_MU r.2 := List.forall_mem_append.mpr ⟨ni_pk155_0, List.forall_mem_append.mpr ⟨ni_pk155_1, ni_pk155_2⟩⟩
def ni_pr157 : List (Nat × ni_S) := [(0, ni_sLd 0 0 1),
  (1, ni_sLd 0 0 2),
  (2, ni_sP (ni_gPush (.int 1) 3)),
  (3, ni_sP (ni_gI (fun x y => (x.toUInt32 >>> (y.toUInt32 &&& Int32.toUInt32 31)).toInt32) 4)),
  (4, ni_sP (ni_gPush (.int (1431655765)) 7)),
  (7, ni_sP (ni_gI (fun x y => x &&& y) 8)),
  (8, ni_sP (ni_gI (fun x y => x - y) 9)),
  (9, ni_sSt 0 0 10),
  (10, ni_sLd 0 0 11),
  (11, ni_sP (ni_gPush (.int (858993459)) 14)),
  (14, ni_sP (ni_gI (fun x y => x &&& y) 15)),
  (15, ni_sLd 0 0 16),
  (16, ni_sP (ni_gPush (.int 2) 17)),
  (17, ni_sP (ni_gI (fun x y => (x.toUInt32 >>> (y.toUInt32 &&& Int32.toUInt32 31)).toInt32) 18)),
  (18, ni_sP (ni_gPush (.int (858993459)) 21)),
  (21, ni_sP (ni_gI (fun x y => x &&& y) 22)),
  (22, ni_sP (ni_gI (fun x y => x + y) 23)),
  (23, ni_sSt 0 0 24),
  (24, ni_sLd 0 0 25),
  (25, ni_sLd 0 0 26),
  (26, ni_sP (ni_gPush (.int 4) 27)),
  (27, ni_sP (ni_gI (fun x y => (x.toUInt32 >>> (y.toUInt32 &&& Int32.toUInt32 31)).toInt32) 28)),
  (28, ni_sP (ni_gI (fun x y => x + y) 29)),
  (29, ni_sP (ni_gPush (.int (252645135)) 32)),
  (32, ni_sP (ni_gI (fun x y => x &&& y) 33)),
  (33, ni_sSt 0 0 34),
  (34, ni_sLd 0 0 35),
  (35, ni_sLd 0 0 36),
  (36, ni_sP (ni_gPush (.int 8) 38)),
  (38, ni_sP (ni_gI (fun x y => (x.toUInt32 >>> (y.toUInt32 &&& Int32.toUInt32 31)).toInt32) 39)),
  (39, ni_sP (ni_gI (fun x y => x + y) 40)),
  (40, ni_sSt 0 0 41),
  (41, ni_sLd 0 0 42),
  (42, ni_sLd 0 0 43),
  (43, ni_sP (ni_gPush (.int 16) 45)),
  (45, ni_sP (ni_gI (fun x y => (x.toUInt32 >>> (y.toUInt32 &&& Int32.toUInt32 31)).toInt32) 46)),
  (46, ni_sP (ni_gI (fun x y => x + y) 47)),
  (47, ni_sSt 0 0 48),
  (48, ni_sLd 0 0 49),
  (49, ni_sP (ni_gPush (.int 63) 51)),
  (51, ni_sP (ni_gI (fun x y => x &&& y) 52)),
  (52, ni_sR (some .int))]
theorem ni_pk157 : ∀ r ∈ ni_pr157, ni_Ok xs yJ6_bitCount_0f7a4 cJ6_bitCount_0f7a4 1 (some .int) [] r.1 r.2 ∧ ni_MU r.2 := ni_row (ni_iloadn ni_dJ6_bitCount_0f7a4_0 rfl) ni_muLd <|
  ni_row (ni_iloadn ni_dJ6_bitCount_0f7a4_1 rfl) ni_muLd <|
  ni_row (ni_okP (ni_iconst ni_dJ6_bitCount_0f7a4_2 (by decide +kernel))) (ni_muP (ni_eqPush fun _ => rfl)) <|
  ni_row (ni_okP (ni_iushr ni_dJ6_bitCount_0f7a4_3)) (ni_muP ni_eqI) <|
  ni_row (ni_okP (ni_ldcw ni_dJ6_bitCount_0f7a4_4 ni_w753)) (ni_muP (ni_eqPush fun _ => rfl)) <|
  ni_row (ni_okP (ni_iand ni_dJ6_bitCount_0f7a4_7)) (ni_muP ni_eqI) <|
  ni_row (ni_okP (ni_isub ni_dJ6_bitCount_0f7a4_8)) (ni_muP ni_eqI) <|
  ni_row (ni_istoren ni_dJ6_bitCount_0f7a4_9 rfl (by decide)) ni_muSt <|
  ni_row (ni_iloadn ni_dJ6_bitCount_0f7a4_10 rfl) ni_muLd <|
  ni_row (ni_okP (ni_ldcw ni_dJ6_bitCount_0f7a4_11 ni_w754)) (ni_muP (ni_eqPush fun _ => rfl)) <|
  ni_row (ni_okP (ni_iand ni_dJ6_bitCount_0f7a4_14)) (ni_muP ni_eqI) <|
  ni_row (ni_iloadn ni_dJ6_bitCount_0f7a4_15 rfl) ni_muLd <|
  ni_row (ni_okP (ni_iconst ni_dJ6_bitCount_0f7a4_16 (by decide +kernel))) (ni_muP (ni_eqPush fun _ => rfl)) <|
  ni_row (ni_okP (ni_iushr ni_dJ6_bitCount_0f7a4_17)) (ni_muP ni_eqI) <|
  ni_row (ni_okP (ni_ldcw ni_dJ6_bitCount_0f7a4_18 ni_w754)) (ni_muP (ni_eqPush fun _ => rfl)) <|
  ni_row (ni_okP (ni_iand ni_dJ6_bitCount_0f7a4_21)) (ni_muP ni_eqI) <|
  ni_row (ni_okP (ni_iadd ni_dJ6_bitCount_0f7a4_22)) (ni_muP ni_eqI) <|
  ni_row (ni_istoren ni_dJ6_bitCount_0f7a4_23 rfl (by decide)) ni_muSt <|
  ni_row (ni_iloadn ni_dJ6_bitCount_0f7a4_24 rfl) ni_muLd <|
  ni_row (ni_iloadn ni_dJ6_bitCount_0f7a4_25 rfl) ni_muLd <|
  ni_row (ni_okP (ni_iconst ni_dJ6_bitCount_0f7a4_26 (by decide +kernel))) (ni_muP (ni_eqPush fun _ => rfl)) <|
  ni_row (ni_okP (ni_iushr ni_dJ6_bitCount_0f7a4_27)) (ni_muP ni_eqI) <|
  ni_row (ni_okP (ni_iadd ni_dJ6_bitCount_0f7a4_28)) (ni_muP ni_eqI) <|
  ni_row (ni_okP (ni_ldcw ni_dJ6_bitCount_0f7a4_29 ni_w755)) (ni_muP (ni_eqPush fun _ => rfl)) <|
  ni_row (ni_okP (ni_iand ni_dJ6_bitCount_0f7a4_32)) (ni_muP ni_eqI) <|
  ni_row (ni_istoren ni_dJ6_bitCount_0f7a4_33 rfl (by decide)) ni_muSt <|
  ni_row (ni_iloadn ni_dJ6_bitCount_0f7a4_34 rfl) ni_muLd <|
  ni_row (ni_iloadn ni_dJ6_bitCount_0f7a4_35 rfl) ni_muLd <|
  ni_row (ni_okP (ni_bipush ni_dJ6_bitCount_0f7a4_36 (by decide +kernel))) (ni_muP (ni_eqPush fun _ => rfl)) <|
  ni_row (ni_okP (ni_iushr ni_dJ6_bitCount_0f7a4_38)) (ni_muP ni_eqI) <|
  ni_row (ni_okP (ni_iadd ni_dJ6_bitCount_0f7a4_39)) (ni_muP ni_eqI) <|
  ni_row (ni_istoren ni_dJ6_bitCount_0f7a4_40 rfl (by decide)) ni_muSt <|
  ni_row (ni_iloadn ni_dJ6_bitCount_0f7a4_41 rfl) ni_muLd <|
  ni_row (ni_iloadn ni_dJ6_bitCount_0f7a4_42 rfl) ni_muLd <|
  ni_row (ni_okP (ni_bipush ni_dJ6_bitCount_0f7a4_43 (by decide +kernel))) (ni_muP (ni_eqPush fun _ => rfl)) <|
  ni_row (ni_okP (ni_iushr ni_dJ6_bitCount_0f7a4_45)) (ni_muP ni_eqI) <|
  ni_row (ni_okP (ni_iadd ni_dJ6_bitCount_0f7a4_46)) (ni_muP ni_eqI) <|
  ni_row (ni_istoren ni_dJ6_bitCount_0f7a4_47 rfl (by decide)) ni_muSt <|
  ni_row (ni_iloadn ni_dJ6_bitCount_0f7a4_48 rfl) ni_muLd <|
  ni_row (ni_okP (ni_bipush ni_dJ6_bitCount_0f7a4_49 (by decide +kernel))) (ni_muP (ni_eqPush fun _ => rfl)) <|
  ni_row (ni_okP (ni_iand ni_dJ6_bitCount_0f7a4_51)) (ni_muP ni_eqI) <|
  ni_row (ni_ret ni_dJ6_bitCount_0f7a4_52) ni_muR <|
  ni_row0
def ni_pr158 : List (Nat × ni_S) := [(0, ni_sLd 0 0 1),
  (1, ni_sLd 0 1 2),
  (2, ni_sP (ni_gI0 (fun x y => x - x / y * y) 3)),
  (3, ni_sSt 0 2 4),
  (4, ni_sLd 0 0 5),
  (5, ni_sLd 0 1 6),
  (6, ni_sP (ni_gI (fun x y => x ^^^ y) 7)),
  (7, ni_sP (ni_gIf (fun x => decide (0 ≤ x)) 18 10)),
  (10, ni_sLd 0 2 11),
  (11, ni_sP (ni_gIf (fun x => decide (x = 0)) 18 14)),
  (14, ni_sLd 0 2 15),
  (15, ni_sLd 0 1 16),
  (16, ni_sP (ni_gI (fun x y => x + y) 17)),
  (17, ni_sR (some .int)),
  (18, ni_sLd 0 2 19),
  (19, ni_sR (some .int))]
theorem ni_pk158 : ∀ r ∈ ni_pr158, ni_Ok xs yJ9_floorMod_7cf53 cJ9_floorMod_7cf53 3 (some .int) [] r.1 r.2 ∧ ni_MU r.2 := ni_row (ni_iloadn ni_dJ9_floorMod_7cf53_0 rfl) ni_muLd <|
  ni_row (ni_iloadn ni_dJ9_floorMod_7cf53_1 rfl) ni_muLd <|
  ni_row (ni_okP (ni_irem ni_dJ9_floorMod_7cf53_2)) (ni_muP ni_eqI0) <|
  ni_row (ni_istoren ni_dJ9_floorMod_7cf53_3 rfl (by decide)) ni_muSt <|
  ni_row (ni_iloadn ni_dJ9_floorMod_7cf53_4 rfl) ni_muLd <|
  ni_row (ni_iloadn ni_dJ9_floorMod_7cf53_5 rfl) ni_muLd <|
  ni_row (ni_okP (ni_ixor ni_dJ9_floorMod_7cf53_6)) (ni_muP ni_eqI) <|
  ni_row (ni_okP (ni_if_ge ni_dJ9_floorMod_7cf53_7 (by decide))) (ni_muP ni_eqIf) <|
  ni_row (ni_iloadn ni_dJ9_floorMod_7cf53_10 rfl) ni_muLd <|
  ni_row (ni_okP (ni_if_eq ni_dJ9_floorMod_7cf53_11 (by decide))) (ni_muP ni_eqIf) <|
  ni_row (ni_iloadn ni_dJ9_floorMod_7cf53_14 rfl) ni_muLd <|
  ni_row (ni_iloadn ni_dJ9_floorMod_7cf53_15 rfl) ni_muLd <|
  ni_row (ni_okP (ni_iadd ni_dJ9_floorMod_7cf53_16)) (ni_muP ni_eqI) <|
  ni_row (ni_ret ni_dJ9_floorMod_7cf53_17) ni_muR <|
  ni_row (ni_iloadn ni_dJ9_floorMod_7cf53_18 rfl) ni_muLd <|
  ni_row (ni_ret ni_dJ9_floorMod_7cf53_19) ni_muR <|
  ni_row0
end NIP
