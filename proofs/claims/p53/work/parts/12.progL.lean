section NIP
variable {xs : List Int32}
def ni_pr156_0 : List (Nat × ni_S) := [(0, ni_sNew 9 [.null, .null] 3),
  (3, ni_sP (ni_gDup 4)),
  (4, ni_sI 0 0 7),
  (7, ni_sSt 3 1 8),
  (8, ni_sP (ni_gPush (.int 2) 9)),
  (9, ni_sLd 3 0 10),
  (10, ni_sP (ni_gPush (.int 0) 11)),
  (11, ni_sC 154 2 14),
  (14, ni_sP (ni_gPush (.int 5) 15)),
  (15, ni_sC 152 2 18),
  (18, ni_sP (ni_gI (fun x y => x + y) 19)),
  (19, ni_sSt 0 2 20),
  (20, ni_sLd 3 1 21),
  (21, ni_sLd 3 0 22),
  (22, ni_sLd 0 2 23),
  (23, ni_sC 153 3 26),
  (26, ni_sSt 3 3 27),
  (27, ni_sP (ni_gPush (.int 1) 28)),
  (28, ni_sLd 3 0 29),
  (29, ni_sP (ni_gPush (.int 0) 30)),
  (30, ni_sC 154 2 33),
  (33, ni_sP (ni_gPush (.int 4) 34)),
  (34, ni_sP (ni_gI (fun x y => x >>> (y &&& 31)) 35)),
  (35, ni_sP (ni_gPush (.int 4) 36)),
  (36, ni_sC 152 2 39),
  (39, ni_sP (ni_gI (fun x y => x + y) 40)),
  (40, ni_sSt 0 4 42),
  (42, ni_sP (ni_gPush (.int 0) 43)),
  (43, ni_sSt 0 5 45),
  (45, ni_sLd 0 5 47),
  (47, ni_sLd 0 4 49),
  (49, ni_sP (ni_gIc (fun x y => decide (y ≤ x)) 214 52)),
  (52, ni_sLd 3 0 53),
  (53, ni_sP (ni_gPush (.int 10) 55)),
  (55, ni_sLd 0 5 57),
  (57, ni_sP (ni_gI (fun x y => x + y) 58)),
  (58, ni_sC 154 2 61),
  (61, ni_sSt 0 6 63),
  (63, ni_sLd 3 1 64),
  (64, ni_sLd 0 6 66),
  (66, ni_sLd 0 2 67),
  (67, ni_sC 152 2 70),
  (70, ni_sLd 0 5 72),
  (72, ni_sP (ni_gPush (.int 12) 74)),
  (74, ni_sP (ni_gI (fun x y => x <<< (y &&& 31)) 75)),
  (75, ni_sP (ni_gPush (.int 4) 76)),
  (76, ni_sLd 0 6 78),
  (78, ni_sP (ni_gPush (.int 3) 79)),
  (79, ni_sP (ni_gI (fun x y => x >>> (y &&& 31)) 80)),
  (80, ni_sP (ni_gPush (.int 5) 81)),
  (81, ni_sC 152 2 84),
  (84, ni_sP (ni_gI (fun x y => x + y) 85)),
  (85, ni_sV 3 3 9 88),
  (88, ni_sP (ni_gPop 89)),
  (89, ni_sLd 3 1 90),
  (90, ni_sLd 0 6 92),
  (92, ni_sP (ni_gPush (.int 5) 93)),
  (93, ni_sP (ni_gI (fun x y => x >>> (y &&& 31)) 94)),
  (94, ni_sLd 0 2 95),
  (95, ni_sC 152 2 98),
  (98, ni_sLd 0 5 100),
  (100, ni_sP (ni_gPush (.int 12) 102)),
  (102, ni_sP (ni_gI (fun x y => x <<< (y &&& 31)) 103)),
  (103, ni_sLd 0 6 105),
  (105, ni_sP (ni_gPush (.int 2) 106)),
  (106, ni_sP (ni_gI (fun x y => x >>> (y &&& 31)) 107)),
  (107, ni_sP (ni_gPush (.int 500) 110)),
  (110, ni_sC 152 2 113),
  (113, ni_sP (ni_gI (fun x y => x + y) 114)),
  (114, ni_sP (ni_gPush (.int 20) 116)),
  (116, ni_sLd 0 6 118),
  (118, ni_sP (ni_gPush (.int 4) 119)),
  (119, ni_sP (ni_gI (fun x y => x >>> (y &&& 31)) 120)),
  (120, ni_sP (ni_gPush (.int 200) 123)),
  (123, ni_sC 152 2 126),
  (126, ni_sP (ni_gI (fun x y => x + y) 127)),
  (127, ni_sLd 0 6 129),
  (129, ni_sP (ni_gPush (.int 4) 130)),
  (130, ni_sC 152 2 133),
  (133, ni_sV 1 4 9 136),
  (136, ni_sP (ni_gPop 137)),
  (137, ni_sLd 3 1 138),
  (138, ni_sLd 0 5 140),
  (140, ni_sLd 0 6 142),
  (142, ni_sP (ni_gPush (.int 3) 143)),
  (143, ni_sP (ni_gI (fun x y => x >>> (y &&& 31)) 144)),
  (144, ni_sP (ni_gPush (.int 20) 146)),
  (146, ni_sC 152 2 149),
  (149, ni_sP (ni_gPush (.int 1) 150)),
  (150, ni_sLd 0 6 152),
  (152, ni_sP (ni_gPush (.int 6) 154)),
  (154, ni_sP (ni_gI (fun x y => x >>> (y &&& 31)) 155)),
  (155, ni_sP (ni_gPush (.int 3) 156)),
  (156, ni_sC 152 2 159),
  (159, ni_sP (ni_gI (fun x y => x + y) 160)),
  (160, ni_sP (ni_gPush (.int 1) 161)),
  (161, ni_sLd 0 6 163),
  (163, ni_sP (ni_gPush (.int 2) 164)),
  (164, ni_sP (ni_gI (fun x y => x >>> (y &&& 31)) 165)),
  (165, ni_sP (ni_gPush (.int 30) 167))]
theorem ni_pk156_0 : ∀ r ∈ ni_pr156_0, ni_Ok xs ⟨"SwitchyardLaw", "law", "([I)Z"⟩ cL_law 15 (some .boolean) [] r.1 r.2 ∧ ni_MU r.2 := ni_row (ni_new (T := TX11) (ty0 := tyX11) ni_dL_law_0 (by decide) rfl ni_uX11 tyX11_ok rfl (by decide +kernel) ni_w49 ni_w50 ni_w28) (ni_muNew fun _ => rfl) <|
  ni_row (ni_okP (ni_dup ni_dL_law_3)) (ni_muP ni_eqDup) <|
  ni_row (ni_init (y := 0) ni_dL_law_4 rfl rfl ni_w51 ni_w52 ni_w28 ni_w53 ⟨by decide +kernel, by decide +kernel, by decide +kernel⟩ (by decide) rfl) ni_muI <|
  ni_row (ni_astoren ni_dL_law_7 rfl (by decide)) ni_muSt <|
  ni_row (ni_okP (ni_iconst ni_dL_law_8 (by decide +kernel))) (ni_muP (ni_eqPush fun _ => rfl)) <|
  ni_row (ni_aloadn ni_dL_law_9 rfl) ni_muLd <|
  ni_row (ni_okP (ni_iconst ni_dL_law_10 (by decide +kernel))) (ni_muP (ni_eqPush fun _ => rfl)) <|
  ni_row (ni_stat (y := 154) ni_dL_law_11 ni_w1025 ni_w1026 ni_w27 ni_w1027 ⟨by decide +kernel, by decide +kernel, by decide +kernel⟩ (by decide) rfl) ni_muC <|
  ni_row (ni_okP (ni_iconst ni_dL_law_14 (by decide +kernel))) (ni_muP (ni_eqPush fun _ => rfl)) <|
  ni_row (ni_stat (y := 152) ni_dL_law_15 ni_w1021 ni_w1022 ni_w27 ni_w1023 ⟨by decide +kernel, by decide +kernel, by decide +kernel⟩ (by decide) rfl) ni_muC <|
  ni_row (ni_okP (ni_iadd ni_dL_law_18)) (ni_muP ni_eqI) <|
  ni_row (ni_istoren ni_dL_law_19 rfl (by decide)) ni_muSt <|
  ni_row (ni_aloadn ni_dL_law_20 rfl) ni_muLd <|
  ni_row (ni_aloadn ni_dL_law_21 rfl) ni_muLd <|
  ni_row (ni_iloadn ni_dL_law_22 rfl) ni_muLd <|
  ni_row (ni_stat (y := 153) ni_dL_law_23 ni_w1029 ni_w1030 ni_w27 ni_w1031 ⟨by decide +kernel, by decide +kernel, by decide +kernel⟩ (by decide) rfl) ni_muC <|
  ni_row (ni_astoren ni_dL_law_26 rfl (by decide)) ni_muSt <|
  ni_row (ni_okP (ni_iconst ni_dL_law_27 (by decide +kernel))) (ni_muP (ni_eqPush fun _ => rfl)) <|
  ni_row (ni_aloadn ni_dL_law_28 rfl) ni_muLd <|
  ni_row (ni_okP (ni_iconst ni_dL_law_29 (by decide +kernel))) (ni_muP (ni_eqPush fun _ => rfl)) <|
  ni_row (ni_stat (y := 154) ni_dL_law_30 ni_w1025 ni_w1026 ni_w27 ni_w1027 ⟨by decide +kernel, by decide +kernel, by decide +kernel⟩ (by decide) rfl) ni_muC <|
  ni_row (ni_okP (ni_iconst ni_dL_law_33 (by decide +kernel))) (ni_muP (ni_eqPush fun _ => rfl)) <|
  ni_row (ni_okP (ni_ishr ni_dL_law_34)) (ni_muP ni_eqI) <|
  ni_row (ni_okP (ni_iconst ni_dL_law_35 (by decide +kernel))) (ni_muP (ni_eqPush fun _ => rfl)) <|
  ni_row (ni_stat (y := 152) ni_dL_law_36 ni_w1021 ni_w1022 ni_w27 ni_w1023 ⟨by decide +kernel, by decide +kernel, by decide +kernel⟩ (by decide) rfl) ni_muC <|
  ni_row (ni_okP (ni_iadd ni_dL_law_39)) (ni_muP ni_eqI) <|
  ni_row (ni_istore ni_dL_law_40 (by decide)) ni_muSt <|
  ni_row (ni_okP (ni_iconst ni_dL_law_42 (by decide +kernel))) (ni_muP (ni_eqPush fun _ => rfl)) <|
  ni_row (ni_istore ni_dL_law_43 (by decide)) ni_muSt <|
  ni_row (ni_iload ni_dL_law_45) ni_muLd <|
  ni_row (ni_iload ni_dL_law_47) ni_muLd <|
  ni_row (ni_okP (ni_ic_ge ni_dL_law_49 (by decide))) (ni_muP ni_eqIc) <|
  ni_row (ni_aloadn ni_dL_law_52 rfl) ni_muLd <|
  ni_row (ni_okP (ni_bipush ni_dL_law_53 (by decide +kernel))) (ni_muP (ni_eqPush fun _ => rfl)) <|
  ni_row (ni_iload ni_dL_law_55) ni_muLd <|
  ni_row (ni_okP (ni_iadd ni_dL_law_57)) (ni_muP ni_eqI) <|
  ni_row (ni_stat (y := 154) ni_dL_law_58 ni_w1025 ni_w1026 ni_w27 ni_w1027 ⟨by decide +kernel, by decide +kernel, by decide +kernel⟩ (by decide) rfl) ni_muC <|
  ni_row (ni_istore ni_dL_law_61 (by decide)) ni_muSt <|
  ni_row (ni_aloadn ni_dL_law_63 rfl) ni_muLd <|
  ni_row (ni_iload ni_dL_law_64) ni_muLd <|
  ni_row (ni_iloadn ni_dL_law_66 rfl) ni_muLd <|
  ni_row (ni_stat (y := 152) ni_dL_law_67 ni_w1021 ni_w1022 ni_w27 ni_w1023 ⟨by decide +kernel, by decide +kernel, by decide +kernel⟩ (by decide) rfl) ni_muC <|
  ni_row (ni_iload ni_dL_law_70) ni_muLd <|
  ni_row (ni_okP (ni_bipush ni_dL_law_72 (by decide +kernel))) (ni_muP (ni_eqPush fun _ => rfl)) <|
  ni_row (ni_okP (ni_ishl ni_dL_law_74)) (ni_muP ni_eqI) <|
  ni_row (ni_okP (ni_iconst ni_dL_law_75 (by decide +kernel))) (ni_muP (ni_eqPush fun _ => rfl)) <|
  ni_row (ni_iload ni_dL_law_76) ni_muLd <|
  ni_row (ni_okP (ni_iconst ni_dL_law_78 (by decide +kernel))) (ni_muP (ni_eqPush fun _ => rfl)) <|
  ni_row (ni_okP (ni_ishr ni_dL_law_79)) (ni_muP ni_eqI) <|
  ni_row (ni_okP (ni_iconst ni_dL_law_80 (by decide +kernel))) (ni_muP (ni_eqPush fun _ => rfl)) <|
  ni_row (ni_stat (y := 152) ni_dL_law_81 ni_w1021 ni_w1022 ni_w27 ni_w1023 ⟨by decide +kernel, by decide +kernel, by decide +kernel⟩ (by decide) rfl) ni_muC <|
  ni_row (ni_okP (ni_iadd ni_dL_law_84)) (ni_muP ni_eqI) <|
  ni_row (ni_virt (y := 3) (T := TX11) ni_dL_law_85 (by decide) rfl rfl ni_w606 ni_w607 ni_w608 ni_w28 ni_w609 ⟨by decide +kernel, by decide +kernel, by decide +kernel⟩ (by decide) rfl) (ni_muV (by decide)) <|
  ni_row (ni_okP (ni_pop ni_dL_law_88)) (ni_muP ni_eqPop) <|
  ni_row (ni_aloadn ni_dL_law_89 rfl) ni_muLd <|
  ni_row (ni_iload ni_dL_law_90) ni_muLd <|
  ni_row (ni_okP (ni_iconst ni_dL_law_92 (by decide +kernel))) (ni_muP (ni_eqPush fun _ => rfl)) <|
  ni_row (ni_okP (ni_ishr ni_dL_law_93)) (ni_muP ni_eqI) <|
  ni_row (ni_iloadn ni_dL_law_94 rfl) ni_muLd <|
  ni_row (ni_stat (y := 152) ni_dL_law_95 ni_w1021 ni_w1022 ni_w27 ni_w1023 ⟨by decide +kernel, by decide +kernel, by decide +kernel⟩ (by decide) rfl) ni_muC <|
  ni_row (ni_iload ni_dL_law_98) ni_muLd <|
  ni_row (ni_okP (ni_bipush ni_dL_law_100 (by decide +kernel))) (ni_muP (ni_eqPush fun _ => rfl)) <|
  ni_row (ni_okP (ni_ishl ni_dL_law_102)) (ni_muP ni_eqI) <|
  ni_row (ni_iload ni_dL_law_103) ni_muLd <|
  ni_row (ni_okP (ni_iconst ni_dL_law_105 (by decide +kernel))) (ni_muP (ni_eqPush fun _ => rfl)) <|
  ni_row (ni_okP (ni_ishr ni_dL_law_106)) (ni_muP ni_eqI) <|
  ni_row (ni_okP (ni_sipush ni_dL_law_107 (by decide +kernel))) (ni_muP (ni_eqPush fun _ => rfl)) <|
  ni_row (ni_stat (y := 152) ni_dL_law_110 ni_w1021 ni_w1022 ni_w27 ni_w1023 ⟨by decide +kernel, by decide +kernel, by decide +kernel⟩ (by decide) rfl) ni_muC <|
  ni_row (ni_okP (ni_iadd ni_dL_law_113)) (ni_muP ni_eqI) <|
  ni_row (ni_okP (ni_bipush ni_dL_law_114 (by decide +kernel))) (ni_muP (ni_eqPush fun _ => rfl)) <|
  ni_row (ni_iload ni_dL_law_116) ni_muLd <|
  ni_row (ni_okP (ni_iconst ni_dL_law_118 (by decide +kernel))) (ni_muP (ni_eqPush fun _ => rfl)) <|
  ni_row (ni_okP (ni_ishr ni_dL_law_119)) (ni_muP ni_eqI) <|
  ni_row (ni_okP (ni_sipush ni_dL_law_120 (by decide +kernel))) (ni_muP (ni_eqPush fun _ => rfl)) <|
  ni_row (ni_stat (y := 152) ni_dL_law_123 ni_w1021 ni_w1022 ni_w27 ni_w1023 ⟨by decide +kernel, by decide +kernel, by decide +kernel⟩ (by decide) rfl) ni_muC <|
  ni_row (ni_okP (ni_iadd ni_dL_law_126)) (ni_muP ni_eqI) <|
  ni_row (ni_iload ni_dL_law_127) ni_muLd <|
  ni_row (ni_okP (ni_iconst ni_dL_law_129 (by decide +kernel))) (ni_muP (ni_eqPush fun _ => rfl)) <|
  ni_row (ni_stat (y := 152) ni_dL_law_130 ni_w1021 ni_w1022 ni_w27 ni_w1023 ⟨by decide +kernel, by decide +kernel, by decide +kernel⟩ (by decide) rfl) ni_muC <|
  ni_row (ni_virt (y := 1) (T := TX11) ni_dL_law_133 (by decide) rfl rfl ni_w684 ni_w685 ni_w686 ni_w28 ni_w687 ⟨by decide +kernel, by decide +kernel, by decide +kernel⟩ (by decide) rfl) (ni_muV (by decide)) <|
  ni_row (ni_okP (ni_pop ni_dL_law_136)) (ni_muP ni_eqPop) <|
  ni_row (ni_aloadn ni_dL_law_137 rfl) ni_muLd <|
  ni_row (ni_iload ni_dL_law_138) ni_muLd <|
  ni_row (ni_iload ni_dL_law_140) ni_muLd <|
  ni_row (ni_okP (ni_iconst ni_dL_law_142 (by decide +kernel))) (ni_muP (ni_eqPush fun _ => rfl)) <|
  ni_row (ni_okP (ni_ishr ni_dL_law_143)) (ni_muP ni_eqI) <|
  ni_row (ni_okP (ni_bipush ni_dL_law_144 (by decide +kernel))) (ni_muP (ni_eqPush fun _ => rfl)) <|
  ni_row (ni_stat (y := 152) ni_dL_law_146 ni_w1021 ni_w1022 ni_w27 ni_w1023 ⟨by decide +kernel, by decide +kernel, by decide +kernel⟩ (by decide) rfl) ni_muC <|
  ni_row (ni_okP (ni_iconst ni_dL_law_149 (by decide +kernel))) (ni_muP (ni_eqPush fun _ => rfl)) <|
  ni_row (ni_iload ni_dL_law_150) ni_muLd <|
  ni_row (ni_okP (ni_bipush ni_dL_law_152 (by decide +kernel))) (ni_muP (ni_eqPush fun _ => rfl)) <|
  ni_row (ni_okP (ni_ishr ni_dL_law_154)) (ni_muP ni_eqI) <|
  ni_row (ni_okP (ni_iconst ni_dL_law_155 (by decide +kernel))) (ni_muP (ni_eqPush fun _ => rfl)) <|
  ni_row (ni_stat (y := 152) ni_dL_law_156 ni_w1021 ni_w1022 ni_w27 ni_w1023 ⟨by decide +kernel, by decide +kernel, by decide +kernel⟩ (by decide) rfl) ni_muC <|
  ni_row (ni_okP (ni_iadd ni_dL_law_159)) (ni_muP ni_eqI) <|
  ni_row (ni_okP (ni_iconst ni_dL_law_160 (by decide +kernel))) (ni_muP (ni_eqPush fun _ => rfl)) <|
  ni_row (ni_iload ni_dL_law_161) ni_muLd <|
  ni_row (ni_okP (ni_iconst ni_dL_law_163 (by decide +kernel))) (ni_muP (ni_eqPush fun _ => rfl)) <|
  ni_row (ni_okP (ni_ishr ni_dL_law_164)) (ni_muP ni_eqI) <|
  ni_row (ni_okP (ni_bipush ni_dL_law_165 (by decide +kernel))) (ni_muP (ni_eqPush fun _ => rfl)) <|
  ni_row0
def ni_pr156_1 : List (Nat × ni_S) := [(167, ni_sC 152 2 170),
  (170, ni_sP (ni_gI (fun x y => x + y) 171)),
  (171, ni_sV 37 4 9 174),
  (174, ni_sP (ni_gPop 175)),
  (175, ni_sLd 0 6 177),
  (177, ni_sP (ni_gPush (.int 7) 179)),
  (179, ni_sP (ni_gI (fun x y => x >>> (y &&& 31)) 180)),
  (180, ni_sP (ni_gPush (.int 3) 181)),
  (181, ni_sC 152 2 184),
  (184, ni_sP (ni_gIf (fun x => decide (¬ x = 0)) 208 187)),
  (187, ni_sLd 3 1 188),
  (188, ni_sLd 0 5 190),
  (190, ni_sP (ni_gPush (.int 1) 191)),
  (191, ni_sLd 0 6 193),
  (193, ni_sP (ni_gPush (.int 4) 194)),
  (194, ni_sP (ni_gI (fun x y => x >>> (y &&& 31)) 195)),
  (195, ni_sP (ni_gPush (.int 90) 197)),
  (197, ni_sC 152 2 200),
  (200, ni_sP (ni_gI (fun x y => x + y) 201)),
  (201, ni_sP (ni_gPush (.int 300) 204)),
  (204, ni_sV 44 3 9 207),
  (207, ni_sP (ni_gPop 208)),
  (208, ni_sInc 5 (1) 211),
  (211, ni_sP (ni_gGo 45)),
  (214, ni_sP (ni_gPush (.int 0) 215)),
  (215, ni_sSt 0 5 217),
  (217, ni_sLd 0 5 219),
  (219, ni_sP (ni_gPush (.int 12) 221)),
  (221, ni_sP (ni_gIc (fun x y => decide (y ≤ x)) 618 224)),
  (224, ni_sLd 3 0 225),
  (225, ni_sP (ni_gPush (.int 2) 226)),
  (226, ni_sLd 0 5 228),
  (228, ni_sP (ni_gI (fun x y => x + y) 229)),
  (229, ni_sC 154 2 232),
  (232, ni_sP (ni_gPush (.int 3) 233)),
  (233, ni_sP (ni_gI (fun x y => x >>> (y &&& 31)) 234)),
  (234, ni_sSt 0 6 236),
  (236, ni_sLd 0 6 238),
  (238, ni_sLd 3 3 239),
  (239, ni_sLen 240),
  (240, ni_sC 152 2 243),
  (243, ni_sSt 0 7 245),
  (245, ni_sLd 0 6 247),
  (247, ni_sP (ni_gPush (.int 3) 248)),
  (248, ni_sP (ni_gI (fun x y => x >>> (y &&& 31)) 249)),
  (249, ni_sP (ni_gPush (.int 7) 251)),
  (251, ni_sC 152 2 254),
  (254, ni_sP (ni_gSw (ni_tsf 0 427 [292, 303, 303, 314, 335, 398]))),
  (292, ni_sLd 3 1 293),
  (293, ni_sLd 0 7 295),
  (295, ni_sP (ni_gPush (.int 0) 296)),
  (296, ni_sV 41 2 9 299),
  (299, ni_sP (ni_gPop 300)),
  (300, ni_sP (ni_gGo 467)),
  (303, ni_sLd 3 1 304),
  (304, ni_sLd 0 7 306),
  (306, ni_sP (ni_gPush (.int 1) 307)),
  (307, ni_sV 41 2 9 310),
  (310, ni_sP (ni_gPop 311)),
  (311, ni_sP (ni_gGo 467)),
  (314, ni_sLd 3 1 315),
  (315, ni_sLd 0 7 317),
  (317, ni_sP (ni_gPush (.int 1) 318)),
  (318, ni_sLd 0 6 320),
  (320, ni_sP (ni_gPush (.int 5) 321)),
  (321, ni_sP (ni_gI (fun x y => x >>> (y &&& 31)) 322)),
  (322, ni_sP (ni_gPush (.int 9) 324)),
  (324, ni_sC 152 2 327),
  (327, ni_sP (ni_gI (fun x y => x + y) 328)),
  (328, ni_sV 39 2 9 331),
  (331, ni_sP (ni_gPop 332)),
  (332, ni_sP (ni_gGo 467)),
  (335, ni_sLd 3 1 336),
  (336, ni_sLd 0 7 338),
  (338, ni_sLd 0 6 340),
  (340, ni_sP (ni_gPush (.int 2) 341)),
  (341, ni_sC 152 2 344),
  (344, ni_sP (ni_gIf (fun x => decide (¬ x = 0)) 351 347)),
  (347, ni_sP (ni_gPush (.int 1) 348)),
  (348, ni_sP (ni_gGo 352)),
  (351, ni_sP (ni_gPush (.int 0) 352)),
  (352, ni_sLd 0 6 354),
  (354, ni_sP (ni_gPush (.int 4) 355)),
  (355, ni_sP (ni_gI (fun x y => x >>> (y &&& 31)) 356)),
  (356, ni_sP (ni_gPush (.int 3) 357)),
  (357, ni_sC 152 2 360),
  (360, ni_sP (ni_gPush (.int 200) 363)),
  (363, ni_sLd 0 6 365),
  (365, ni_sP (ni_gPush (.int 5) 366)),
  (366, ni_sP (ni_gI (fun x y => x >>> (y &&& 31)) 367)),
  (367, ni_sP (ni_gPush (.int 900) 370)),
  (370, ni_sC 152 2 373),
  (373, ni_sP (ni_gI (fun x y => x + y) 374)),
  (374, ni_sLd 0 6 376),
  (376, ni_sP (ni_gPush (.int 6) 378)),
  (378, ni_sP (ni_gI (fun x y => x >>> (y &&& 31)) 379)),
  (379, ni_sP (ni_gPush (.int 2) 380)),
  (380, ni_sC 152 2 383),
  (383, ni_sP (ni_gIf (fun x => decide (¬ x = 0)) 390 386)),
  (386, ni_sP (ni_gPush (.int 1) 387))]
theorem ni_pk156_1 : ∀ r ∈ ni_pr156_1, ni_Ok xs ⟨"SwitchyardLaw", "law", "([I)Z"⟩ cL_law 15 (some .boolean) [] r.1 r.2 ∧ ni_MU r.2 := ni_row (ni_stat (y := 152) ni_dL_law_167 ni_w1021 ni_w1022 ni_w27 ni_w1023 ⟨by decide +kernel, by decide +kernel, by decide +kernel⟩ (by decide) rfl) ni_muC <|
  ni_row (ni_okP (ni_iadd ni_dL_law_170)) (ni_muP ni_eqI) <|
  ni_row (ni_virt (y := 37) (T := TX11) ni_dL_law_171 (by decide) rfl rfl ni_w693 ni_w694 ni_w695 ni_w28 ni_w696 ⟨by decide +kernel, by decide +kernel, by decide +kernel⟩ (by decide) rfl) (ni_muV (by decide)) <|
  ni_row (ni_okP (ni_pop ni_dL_law_174)) (ni_muP ni_eqPop) <|
  ni_row (ni_iload ni_dL_law_175) ni_muLd <|
  ni_row (ni_okP (ni_bipush ni_dL_law_177 (by decide +kernel))) (ni_muP (ni_eqPush fun _ => rfl)) <|
  ni_row (ni_okP (ni_ishr ni_dL_law_179)) (ni_muP ni_eqI) <|
  ni_row (ni_okP (ni_iconst ni_dL_law_180 (by decide +kernel))) (ni_muP (ni_eqPush fun _ => rfl)) <|
  ni_row (ni_stat (y := 152) ni_dL_law_181 ni_w1021 ni_w1022 ni_w27 ni_w1023 ⟨by decide +kernel, by decide +kernel, by decide +kernel⟩ (by decide) rfl) ni_muC <|
  ni_row (ni_okP (ni_if_ne ni_dL_law_184 (by decide))) (ni_muP ni_eqIf) <|
  ni_row (ni_aloadn ni_dL_law_187 rfl) ni_muLd <|
  ni_row (ni_iload ni_dL_law_188) ni_muLd <|
  ni_row (ni_okP (ni_iconst ni_dL_law_190 (by decide +kernel))) (ni_muP (ni_eqPush fun _ => rfl)) <|
  ni_row (ni_iload ni_dL_law_191) ni_muLd <|
  ni_row (ni_okP (ni_iconst ni_dL_law_193 (by decide +kernel))) (ni_muP (ni_eqPush fun _ => rfl)) <|
  ni_row (ni_okP (ni_ishr ni_dL_law_194)) (ni_muP ni_eqI) <|
  ni_row (ni_okP (ni_bipush ni_dL_law_195 (by decide +kernel))) (ni_muP (ni_eqPush fun _ => rfl)) <|
  ni_row (ni_stat (y := 152) ni_dL_law_197 ni_w1021 ni_w1022 ni_w27 ni_w1023 ⟨by decide +kernel, by decide +kernel, by decide +kernel⟩ (by decide) rfl) ni_muC <|
  ni_row (ni_okP (ni_iadd ni_dL_law_200)) (ni_muP ni_eqI) <|
  ni_row (ni_okP (ni_sipush ni_dL_law_201 (by decide +kernel))) (ni_muP (ni_eqPush fun _ => rfl)) <|
  ni_row (ni_virt (y := 44) (T := TX11) ni_dL_law_204 (by decide) rfl rfl ni_w702 ni_w703 ni_w704 ni_w28 ni_w705 ⟨by decide +kernel, by decide +kernel, by decide +kernel⟩ (by decide) rfl) (ni_muV (by decide)) <|
  ni_row (ni_okP (ni_pop ni_dL_law_207)) (ni_muP ni_eqPop) <|
  ni_row (ni_iinc (n := 1) ni_dL_law_208 (by decide)) ni_muInc <|
  ni_row (ni_okP (ni_goto ni_dL_law_211 (by decide))) (ni_muP ni_eqGo) <|
  ni_row (ni_okP (ni_iconst ni_dL_law_214 (by decide +kernel))) (ni_muP (ni_eqPush fun _ => rfl)) <|
  ni_row (ni_istore ni_dL_law_215 (by decide)) ni_muSt <|
  ni_row (ni_iload ni_dL_law_217) ni_muLd <|
  ni_row (ni_okP (ni_bipush ni_dL_law_219 (by decide +kernel))) (ni_muP (ni_eqPush fun _ => rfl)) <|
  ni_row (ni_okP (ni_ic_ge ni_dL_law_221 (by decide))) (ni_muP ni_eqIc) <|
  ni_row (ni_aloadn ni_dL_law_224 rfl) ni_muLd <|
  ni_row (ni_okP (ni_iconst ni_dL_law_225 (by decide +kernel))) (ni_muP (ni_eqPush fun _ => rfl)) <|
  ni_row (ni_iload ni_dL_law_226) ni_muLd <|
  ni_row (ni_okP (ni_iadd ni_dL_law_228)) (ni_muP ni_eqI) <|
  ni_row (ni_stat (y := 154) ni_dL_law_229 ni_w1025 ni_w1026 ni_w27 ni_w1027 ⟨by decide +kernel, by decide +kernel, by decide +kernel⟩ (by decide) rfl) ni_muC <|
  ni_row (ni_okP (ni_iconst ni_dL_law_232 (by decide +kernel))) (ni_muP (ni_eqPush fun _ => rfl)) <|
  ni_row (ni_okP (ni_ishr ni_dL_law_233)) (ni_muP ni_eqI) <|
  ni_row (ni_istore ni_dL_law_234 (by decide)) ni_muSt <|
  ni_row (ni_iload ni_dL_law_236) ni_muLd <|
  ni_row (ni_aloadn ni_dL_law_238 rfl) ni_muLd <|
  ni_row (ni_len ni_dL_law_239) ni_muLen <|
  ni_row (ni_stat (y := 152) ni_dL_law_240 ni_w1021 ni_w1022 ni_w27 ni_w1023 ⟨by decide +kernel, by decide +kernel, by decide +kernel⟩ (by decide) rfl) ni_muC <|
  ni_row (ni_istore ni_dL_law_243 (by decide)) ni_muSt <|
  ni_row (ni_iload ni_dL_law_245) ni_muLd <|
  ni_row (ni_okP (ni_iconst ni_dL_law_247 (by decide +kernel))) (ni_muP (ni_eqPush fun _ => rfl)) <|
  ni_row (ni_okP (ni_ishr ni_dL_law_248)) (ni_muP ni_eqI) <|
  ni_row (ni_okP (ni_bipush ni_dL_law_249 (by decide +kernel))) (ni_muP (ni_eqPush fun _ => rfl)) <|
  ni_row (ni_stat (y := 152) ni_dL_law_251 ni_w1021 ni_w1022 ni_w27 ni_w1023 ⟨by decide +kernel, by decide +kernel, by decide +kernel⟩ (by decide) rfl) ni_muC <|
  ni_row (ni_okP (ni_tsOk ni_dL_law_254 (by decide) (by decide) (by decide))) (ni_muP ni_eqSw) <|
  ni_row (ni_aloadn ni_dL_law_292 rfl) ni_muLd <|
  ni_row (ni_iload ni_dL_law_293) ni_muLd <|
  ni_row (ni_okP (ni_iconst ni_dL_law_295 (by decide +kernel))) (ni_muP (ni_eqPush fun _ => rfl)) <|
  ni_row (ni_virt (y := 41) (T := TX11) ni_dL_law_296 (by decide) rfl rfl ni_w569 ni_w570 ni_w571 ni_w28 ni_w572 ⟨by decide +kernel, by decide +kernel, by decide +kernel⟩ (by decide) rfl) (ni_muV (by decide)) <|
  ni_row (ni_okP (ni_pop ni_dL_law_299)) (ni_muP ni_eqPop) <|
  ni_row (ni_okP (ni_goto ni_dL_law_300 (by decide))) (ni_muP ni_eqGo) <|
  ni_row (ni_aloadn ni_dL_law_303 rfl) ni_muLd <|
  ni_row (ni_iload ni_dL_law_304) ni_muLd <|
  ni_row (ni_okP (ni_iconst ni_dL_law_306 (by decide +kernel))) (ni_muP (ni_eqPush fun _ => rfl)) <|
  ni_row (ni_virt (y := 41) (T := TX11) ni_dL_law_307 (by decide) rfl rfl ni_w569 ni_w570 ni_w571 ni_w28 ni_w572 ⟨by decide +kernel, by decide +kernel, by decide +kernel⟩ (by decide) rfl) (ni_muV (by decide)) <|
  ni_row (ni_okP (ni_pop ni_dL_law_310)) (ni_muP ni_eqPop) <|
  ni_row (ni_okP (ni_goto ni_dL_law_311 (by decide))) (ni_muP ni_eqGo) <|
  ni_row (ni_aloadn ni_dL_law_314 rfl) ni_muLd <|
  ni_row (ni_iload ni_dL_law_315) ni_muLd <|
  ni_row (ni_okP (ni_iconst ni_dL_law_317 (by decide +kernel))) (ni_muP (ni_eqPush fun _ => rfl)) <|
  ni_row (ni_iload ni_dL_law_318) ni_muLd <|
  ni_row (ni_okP (ni_iconst ni_dL_law_320 (by decide +kernel))) (ni_muP (ni_eqPush fun _ => rfl)) <|
  ni_row (ni_okP (ni_ishr ni_dL_law_321)) (ni_muP ni_eqI) <|
  ni_row (ni_okP (ni_bipush ni_dL_law_322 (by decide +kernel))) (ni_muP (ni_eqPush fun _ => rfl)) <|
  ni_row (ni_stat (y := 152) ni_dL_law_324 ni_w1021 ni_w1022 ni_w27 ni_w1023 ⟨by decide +kernel, by decide +kernel, by decide +kernel⟩ (by decide) rfl) ni_muC <|
  ni_row (ni_okP (ni_iadd ni_dL_law_327)) (ni_muP ni_eqI) <|
  ni_row (ni_virt (y := 39) (T := TX11) ni_dL_law_328 (by decide) rfl rfl ni_w431 ni_w432 ni_w433 ni_w28 ni_w434 ⟨by decide +kernel, by decide +kernel, by decide +kernel⟩ (by decide) rfl) (ni_muV (by decide)) <|
  ni_row (ni_okP (ni_pop ni_dL_law_331)) (ni_muP ni_eqPop) <|
  ni_row (ni_okP (ni_goto ni_dL_law_332 (by decide))) (ni_muP ni_eqGo) <|
  ni_row (ni_aloadn ni_dL_law_335 rfl) ni_muLd <|
  ni_row (ni_iload ni_dL_law_336) ni_muLd <|
  ni_row (ni_iload ni_dL_law_338) ni_muLd <|
  ni_row (ni_okP (ni_iconst ni_dL_law_340 (by decide +kernel))) (ni_muP (ni_eqPush fun _ => rfl)) <|
  ni_row (ni_stat (y := 152) ni_dL_law_341 ni_w1021 ni_w1022 ni_w27 ni_w1023 ⟨by decide +kernel, by decide +kernel, by decide +kernel⟩ (by decide) rfl) ni_muC <|
  ni_row (ni_okP (ni_if_ne ni_dL_law_344 (by decide))) (ni_muP ni_eqIf) <|
  ni_row (ni_okP (ni_iconst ni_dL_law_347 (by decide +kernel))) (ni_muP (ni_eqPush fun _ => rfl)) <|
  ni_row (ni_okP (ni_goto ni_dL_law_348 (by decide))) (ni_muP ni_eqGo) <|
  ni_row (ni_okP (ni_iconst ni_dL_law_351 (by decide +kernel))) (ni_muP (ni_eqPush fun _ => rfl)) <|
  ni_row (ni_iload ni_dL_law_352) ni_muLd <|
  ni_row (ni_okP (ni_iconst ni_dL_law_354 (by decide +kernel))) (ni_muP (ni_eqPush fun _ => rfl)) <|
  ni_row (ni_okP (ni_ishr ni_dL_law_355)) (ni_muP ni_eqI) <|
  ni_row (ni_okP (ni_iconst ni_dL_law_356 (by decide +kernel))) (ni_muP (ni_eqPush fun _ => rfl)) <|
  ni_row (ni_stat (y := 152) ni_dL_law_357 ni_w1021 ni_w1022 ni_w27 ni_w1023 ⟨by decide +kernel, by decide +kernel, by decide +kernel⟩ (by decide) rfl) ni_muC <|
  ni_row (ni_okP (ni_sipush ni_dL_law_360 (by decide +kernel))) (ni_muP (ni_eqPush fun _ => rfl)) <|
  ni_row (ni_iload ni_dL_law_363) ni_muLd <|
  ni_row (ni_okP (ni_iconst ni_dL_law_365 (by decide +kernel))) (ni_muP (ni_eqPush fun _ => rfl)) <|
  ni_row (ni_okP (ni_ishr ni_dL_law_366)) (ni_muP ni_eqI) <|
  ni_row (ni_okP (ni_sipush ni_dL_law_367 (by decide +kernel))) (ni_muP (ni_eqPush fun _ => rfl)) <|
  ni_row (ni_stat (y := 152) ni_dL_law_370 ni_w1021 ni_w1022 ni_w27 ni_w1023 ⟨by decide +kernel, by decide +kernel, by decide +kernel⟩ (by decide) rfl) ni_muC <|
  ni_row (ni_okP (ni_iadd ni_dL_law_373)) (ni_muP ni_eqI) <|
  ni_row (ni_iload ni_dL_law_374) ni_muLd <|
  ni_row (ni_okP (ni_bipush ni_dL_law_376 (by decide +kernel))) (ni_muP (ni_eqPush fun _ => rfl)) <|
  ni_row (ni_okP (ni_ishr ni_dL_law_378)) (ni_muP ni_eqI) <|
  ni_row (ni_okP (ni_iconst ni_dL_law_379 (by decide +kernel))) (ni_muP (ni_eqPush fun _ => rfl)) <|
  ni_row (ni_stat (y := 152) ni_dL_law_380 ni_w1021 ni_w1022 ni_w27 ni_w1023 ⟨by decide +kernel, by decide +kernel, by decide +kernel⟩ (by decide) rfl) ni_muC <|
  ni_row (ni_okP (ni_if_ne ni_dL_law_383 (by decide))) (ni_muP ni_eqIf) <|
  ni_row (ni_okP (ni_iconst ni_dL_law_386 (by decide +kernel))) (ni_muP (ni_eqPush fun _ => rfl)) <|
  ni_row0
def ni_pr156_2 : List (Nat × ni_S) := [(387, ni_sP (ni_gGo 391)),
  (390, ni_sP (ni_gPush (.int 0) 391)),
  (391, ni_sV 40 5 9 394),
  (394, ni_sP (ni_gPop 395)),
  (395, ni_sP (ni_gGo 467)),
  (398, ni_sLd 3 1 399),
  (399, ni_sLd 3 3 400),
  (400, ni_sLd 0 7 402),
  (402, ni_sQlA 403),
  (403, ni_sP (ni_gPush (.int 0) 404)),
  (404, ni_sAld .int 0 405),
  (405, ni_sLd 0 6 407),
  (407, ni_sP (ni_gPush (.int 5) 408)),
  (408, ni_sP (ni_gI (fun x y => x >>> (y &&& 31)) 409)),
  (409, ni_sLd 0 4 411),
  (411, ni_sC 152 2 414),
  (414, ni_sP (ni_gPush (.int 12) 416)),
  (416, ni_sP (ni_gI (fun x y => x <<< (y &&& 31)) 417)),
  (417, ni_sP (ni_gPush (.int 4) 418)),
  (418, ni_sLd 0 7 420),
  (420, ni_sV 5 4 9 423),
  (423, ni_sP (ni_gPop 424)),
  (424, ni_sP (ni_gGo 467)),
  (427, ni_sLd 3 1 428),
  (428, ni_sLd 0 7 430),
  (430, ni_sLd 0 6 432),
  (432, ni_sP (ni_gPush (.int 2) 433)),
  (433, ni_sC 152 2 436),
  (436, ni_sP (ni_gIf (fun x => decide (¬ x = 0)) 443 439)),
  (439, ni_sP (ni_gPush (.int 1) 440)),
  (440, ni_sP (ni_gGo 444)),
  (443, ni_sP (ni_gPush (.int 0) 444)),
  (444, ni_sLd 0 6 446),
  (446, ni_sP (ni_gPush (.int 4) 447)),
  (447, ni_sP (ni_gI (fun x y => x >>> (y &&& 31)) 448)),
  (448, ni_sP (ni_gPush (.int 4) 449)),
  (449, ni_sC 152 2 452),
  (452, ni_sP (ni_gPush (.int 1) 453)),
  (453, ni_sLd 0 6 455),
  (455, ni_sP (ni_gPush (.int 6) 457)),
  (457, ni_sP (ni_gI (fun x y => x >>> (y &&& 31)) 458)),
  (458, ni_sP (ni_gPush (.int 4) 459)),
  (459, ni_sC 152 2 462),
  (462, ni_sP (ni_gI (fun x y => x + y) 463)),
  (463, ni_sV 42 4 9 466),
  (466, ni_sP (ni_gPop 467)),
  (467, ni_sLd 3 1 468),
  (468, ni_sV 16 0 9 471),
  (471, ni_sSt 1 8 473),
  (473, ni_sLd 0 6 475),
  (475, ni_sP (ni_gPush (.int 4) 476)),
  (476, ni_sP (ni_gI (fun x y => x >>> (y &&& 31)) 477)),
  (477, ni_sLd 0 4 479),
  (479, ni_sC 152 2 482),
  (482, ni_sSt 0 10 484),
  (484, ni_sP (ni_gPush (.int 1) 485)),
  (485, ni_sLd 0 6 487),
  (487, ni_sP (ni_gPush (.int 7) 489)),
  (489, ni_sP (ni_gI (fun x y => x >>> (y &&& 31)) 490)),
  (490, ni_sP (ni_gPush (.int 6) 492)),
  (492, ni_sC 152 2 495),
  (495, ni_sP (ni_gI (fun x y => x + y) 496)),
  (496, ni_sSt 0 11 498),
  (498, ni_sLd 3 1 499),
  (499, ni_sLd 0 10 501),
  (501, ni_sLd 0 11 503),
  (503, ni_sV 15 2 9 506),
  (506, ni_sSt 0 12 508),
  (508, ni_sLd 3 1 509),
  (509, ni_sLd 0 11 511),
  (511, ni_sV 43 1 9 514),
  (514, ni_sSt 0 13 516),
  (516, ni_sLd 3 1 517),
  (517, ni_sV 16 0 9 520),
  (520, ni_sLd 1 8 522),
  (522, ni_sP (ni_gJ (fun x y => .int (lg_cmp x y)) 523)),
  (523, ni_sP (ni_gIf (fun x => decide (¬ x = 0)) 553 526)),
  (526, ni_sLd 3 1 527),
  (527, ni_sLd 3 3 528),
  (528, ni_sLd 0 4 530),
  (530, ni_sC 155 3 533),
  (533, ni_sP (ni_gIf (fun x => decide (x = 0)) 553 536)),
  (536, ni_sLd 3 1 537),
  (537, ni_sV 25 0 9 540),
  (540, ni_sLd 0 13 542),
  (542, ni_sP (ni_gIf (fun x => decide (¬ x = 0)) 549 545)),
  (545, ni_sP (ni_gPush (.int 1) 546)),
  (546, ni_sP (ni_gGo 550)),
  (549, ni_sP (ni_gPush (.int 0) 550)),
  (550, ni_sP (ni_gIc (fun x y => decide (x = y)) 555 553)),
  (553, ni_sP (ni_gPush (.int 0) 554)),
  (554, ni_sR (some .boolean)),
  (555, ni_sLd 3 1 556),
  (556, ni_sV 47 0 9 559),
  (559, ni_sSt 0 14 561),
  (561, ni_sLd 3 1 562),
  (562, ni_sLd 0 11 564),
  (564, ni_sV 46 1 9 567),
  (567, ni_sLd 0 14 569),
  (569, ni_sLd 0 11 571)]
theorem ni_pk156_2 : ∀ r ∈ ni_pr156_2, ni_Ok xs ⟨"SwitchyardLaw", "law", "([I)Z"⟩ cL_law 15 (some .boolean) [] r.1 r.2 ∧ ni_MU r.2 := ni_row (ni_okP (ni_goto ni_dL_law_387 (by decide))) (ni_muP ni_eqGo) <|
  ni_row (ni_okP (ni_iconst ni_dL_law_390 (by decide +kernel))) (ni_muP (ni_eqPush fun _ => rfl)) <|
  ni_row (ni_virt (y := 40) (T := TX11) ni_dL_law_391 (by decide) rfl rfl ni_w668 ni_w669 ni_w670 ni_w28 ni_w671 ⟨by decide +kernel, by decide +kernel, by decide +kernel⟩ (by decide) rfl) (ni_muV (by decide)) <|
  ni_row (ni_okP (ni_pop ni_dL_law_394)) (ni_muP ni_eqPop) <|
  ni_row (ni_okP (ni_goto ni_dL_law_395 (by decide))) (ni_muP ni_eqGo) <|
  ni_row (ni_aloadn ni_dL_law_398 rfl) ni_muLd <|
  ni_row (ni_aloadn ni_dL_law_399 rfl) ni_muLd <|
  ni_row (ni_iload ni_dL_law_400) ni_muLd <|
  ni_row (ni_aaldA ni_dL_law_402) ni_muQlA <|
  ni_row (ni_okP (ni_iconst ni_dL_law_403 (by decide +kernel))) (ni_muP (ni_eqPush fun _ => rfl)) <|
  ni_row (ni_iald ni_dL_law_404) ni_muAld <|
  ni_row (ni_iload ni_dL_law_405) ni_muLd <|
  ni_row (ni_okP (ni_iconst ni_dL_law_407 (by decide +kernel))) (ni_muP (ni_eqPush fun _ => rfl)) <|
  ni_row (ni_okP (ni_ishr ni_dL_law_408)) (ni_muP ni_eqI) <|
  ni_row (ni_iload ni_dL_law_409) ni_muLd <|
  ni_row (ni_stat (y := 152) ni_dL_law_411 ni_w1021 ni_w1022 ni_w27 ni_w1023 ⟨by decide +kernel, by decide +kernel, by decide +kernel⟩ (by decide) rfl) ni_muC <|
  ni_row (ni_okP (ni_bipush ni_dL_law_414 (by decide +kernel))) (ni_muP (ni_eqPush fun _ => rfl)) <|
  ni_row (ni_okP (ni_ishl ni_dL_law_416)) (ni_muP ni_eqI) <|
  ni_row (ni_okP (ni_iconst ni_dL_law_417 (by decide +kernel))) (ni_muP (ni_eqPush fun _ => rfl)) <|
  ni_row (ni_iload ni_dL_law_418) ni_muLd <|
  ni_row (ni_virt (y := 5) (T := TX11) ni_dL_law_420 (by decide) rfl rfl ni_w657 ni_w658 ni_w659 ni_w28 ni_w660 ⟨by decide +kernel, by decide +kernel, by decide +kernel⟩ (by decide) rfl) (ni_muV (by decide)) <|
  ni_row (ni_okP (ni_pop ni_dL_law_423)) (ni_muP ni_eqPop) <|
  ni_row (ni_okP (ni_goto ni_dL_law_424 (by decide))) (ni_muP ni_eqGo) <|
  ni_row (ni_aloadn ni_dL_law_427 rfl) ni_muLd <|
  ni_row (ni_iload ni_dL_law_428) ni_muLd <|
  ni_row (ni_iload ni_dL_law_430) ni_muLd <|
  ni_row (ni_okP (ni_iconst ni_dL_law_432 (by decide +kernel))) (ni_muP (ni_eqPush fun _ => rfl)) <|
  ni_row (ni_stat (y := 152) ni_dL_law_433 ni_w1021 ni_w1022 ni_w27 ni_w1023 ⟨by decide +kernel, by decide +kernel, by decide +kernel⟩ (by decide) rfl) ni_muC <|
  ni_row (ni_okP (ni_if_ne ni_dL_law_436 (by decide))) (ni_muP ni_eqIf) <|
  ni_row (ni_okP (ni_iconst ni_dL_law_439 (by decide +kernel))) (ni_muP (ni_eqPush fun _ => rfl)) <|
  ni_row (ni_okP (ni_goto ni_dL_law_440 (by decide))) (ni_muP ni_eqGo) <|
  ni_row (ni_okP (ni_iconst ni_dL_law_443 (by decide +kernel))) (ni_muP (ni_eqPush fun _ => rfl)) <|
  ni_row (ni_iload ni_dL_law_444) ni_muLd <|
  ni_row (ni_okP (ni_iconst ni_dL_law_446 (by decide +kernel))) (ni_muP (ni_eqPush fun _ => rfl)) <|
  ni_row (ni_okP (ni_ishr ni_dL_law_447)) (ni_muP ni_eqI) <|
  ni_row (ni_okP (ni_iconst ni_dL_law_448 (by decide +kernel))) (ni_muP (ni_eqPush fun _ => rfl)) <|
  ni_row (ni_stat (y := 152) ni_dL_law_449 ni_w1021 ni_w1022 ni_w27 ni_w1023 ⟨by decide +kernel, by decide +kernel, by decide +kernel⟩ (by decide) rfl) ni_muC <|
  ni_row (ni_okP (ni_iconst ni_dL_law_452 (by decide +kernel))) (ni_muP (ni_eqPush fun _ => rfl)) <|
  ni_row (ni_iload ni_dL_law_453) ni_muLd <|
  ni_row (ni_okP (ni_bipush ni_dL_law_455 (by decide +kernel))) (ni_muP (ni_eqPush fun _ => rfl)) <|
  ni_row (ni_okP (ni_ishr ni_dL_law_457)) (ni_muP ni_eqI) <|
  ni_row (ni_okP (ni_iconst ni_dL_law_458 (by decide +kernel))) (ni_muP (ni_eqPush fun _ => rfl)) <|
  ni_row (ni_stat (y := 152) ni_dL_law_459 ni_w1021 ni_w1022 ni_w27 ni_w1023 ⟨by decide +kernel, by decide +kernel, by decide +kernel⟩ (by decide) rfl) ni_muC <|
  ni_row (ni_okP (ni_iadd ni_dL_law_462)) (ni_muP ni_eqI) <|
  ni_row (ni_virt (y := 42) (T := TX11) ni_dL_law_463 (by decide) rfl rfl ni_w680 ni_w681 ni_w682 ni_w28 ni_w683 ⟨by decide +kernel, by decide +kernel, by decide +kernel⟩ (by decide) rfl) (ni_muV (by decide)) <|
  ni_row (ni_okP (ni_pop ni_dL_law_466)) (ni_muP ni_eqPop) <|
  ni_row (ni_aloadn ni_dL_law_467 rfl) ni_muLd <|
  ni_row (ni_virt (y := 16) (T := TX11) ni_dL_law_468 (by decide) rfl rfl ni_w954 ni_w955 ni_w956 ni_w28 ni_w957 ⟨by decide +kernel, by decide +kernel, by decide +kernel⟩ (by decide) rfl) (ni_muV (by decide)) <|
  ni_row (ni_lstore ni_dL_law_471 (by decide)) ni_muSt <|
  ni_row (ni_iload ni_dL_law_473) ni_muLd <|
  ni_row (ni_okP (ni_iconst ni_dL_law_475 (by decide +kernel))) (ni_muP (ni_eqPush fun _ => rfl)) <|
  ni_row (ni_okP (ni_ishr ni_dL_law_476)) (ni_muP ni_eqI) <|
  ni_row (ni_iload ni_dL_law_477) ni_muLd <|
  ni_row (ni_stat (y := 152) ni_dL_law_479 ni_w1021 ni_w1022 ni_w27 ni_w1023 ⟨by decide +kernel, by decide +kernel, by decide +kernel⟩ (by decide) rfl) ni_muC <|
  ni_row (ni_istore ni_dL_law_482 (by decide)) ni_muSt <|
  ni_row (ni_okP (ni_iconst ni_dL_law_484 (by decide +kernel))) (ni_muP (ni_eqPush fun _ => rfl)) <|
  ni_row (ni_iload ni_dL_law_485) ni_muLd <|
  ni_row (ni_okP (ni_bipush ni_dL_law_487 (by decide +kernel))) (ni_muP (ni_eqPush fun _ => rfl)) <|
  ni_row (ni_okP (ni_ishr ni_dL_law_489)) (ni_muP ni_eqI) <|
  ni_row (ni_okP (ni_bipush ni_dL_law_490 (by decide +kernel))) (ni_muP (ni_eqPush fun _ => rfl)) <|
  ni_row (ni_stat (y := 152) ni_dL_law_492 ni_w1021 ni_w1022 ni_w27 ni_w1023 ⟨by decide +kernel, by decide +kernel, by decide +kernel⟩ (by decide) rfl) ni_muC <|
  ni_row (ni_okP (ni_iadd ni_dL_law_495)) (ni_muP ni_eqI) <|
  ni_row (ni_istore ni_dL_law_496 (by decide)) ni_muSt <|
  ni_row (ni_aloadn ni_dL_law_498 rfl) ni_muLd <|
  ni_row (ni_iload ni_dL_law_499) ni_muLd <|
  ni_row (ni_iload ni_dL_law_501) ni_muLd <|
  ni_row (ni_virt (y := 15) (T := TX11) ni_dL_law_503 (by decide) rfl rfl ni_w906 ni_w907 ni_w908 ni_w28 ni_w909 ⟨by decide +kernel, by decide +kernel, by decide +kernel⟩ (by decide) rfl) (ni_muV (by decide)) <|
  ni_row (ni_istore ni_dL_law_506 (by decide)) ni_muSt <|
  ni_row (ni_aloadn ni_dL_law_508 rfl) ni_muLd <|
  ni_row (ni_iload ni_dL_law_509) ni_muLd <|
  ni_row (ni_virt (y := 43) (T := TX11) ni_dL_law_511 (by decide) rfl rfl ni_w950 ni_w951 ni_w952 ni_w28 ni_w953 ⟨by decide +kernel, by decide +kernel, by decide +kernel⟩ (by decide) rfl) (ni_muV (by decide)) <|
  ni_row (ni_istore ni_dL_law_514 (by decide)) ni_muSt <|
  ni_row (ni_aloadn ni_dL_law_516 rfl) ni_muLd <|
  ni_row (ni_virt (y := 16) (T := TX11) ni_dL_law_517 (by decide) rfl rfl ni_w954 ni_w955 ni_w956 ni_w28 ni_w957 ⟨by decide +kernel, by decide +kernel, by decide +kernel⟩ (by decide) rfl) (ni_muV (by decide)) <|
  ni_row (ni_lload ni_dL_law_520) ni_muLd <|
  ni_row (ni_okP (ni_lcmp ni_dL_law_522)) (ni_muP (ni_eqJ fun _ _ _ => rfl)) <|
  ni_row (ni_okP (ni_if_ne ni_dL_law_523 (by decide))) (ni_muP ni_eqIf) <|
  ni_row (ni_aloadn ni_dL_law_526 rfl) ni_muLd <|
  ni_row (ni_aloadn ni_dL_law_527 rfl) ni_muLd <|
  ni_row (ni_iload ni_dL_law_528) ni_muLd <|
  ni_row (ni_stat (y := 155) ni_dL_law_530 ni_w1054 ni_w1055 ni_w27 ni_w1056 ⟨by decide +kernel, by decide +kernel, by decide +kernel⟩ (by decide) rfl) ni_muC <|
  ni_row (ni_okP (ni_if_eq ni_dL_law_533 (by decide))) (ni_muP ni_eqIf) <|
  ni_row (ni_aloadn ni_dL_law_536 rfl) ni_muLd <|
  ni_row (ni_virt (y := 25) (T := TX11) ni_dL_law_537 (by decide) rfl rfl ni_w894 ni_w895 ni_w896 ni_w28 ni_w897 ⟨by decide +kernel, by decide +kernel, by decide +kernel⟩ (by decide) rfl) (ni_muV (by decide)) <|
  ni_row (ni_iload ni_dL_law_540) ni_muLd <|
  ni_row (ni_okP (ni_if_ne ni_dL_law_542 (by decide))) (ni_muP ni_eqIf) <|
  ni_row (ni_okP (ni_iconst ni_dL_law_545 (by decide +kernel))) (ni_muP (ni_eqPush fun _ => rfl)) <|
  ni_row (ni_okP (ni_goto ni_dL_law_546 (by decide))) (ni_muP ni_eqGo) <|
  ni_row (ni_okP (ni_iconst ni_dL_law_549 (by decide +kernel))) (ni_muP (ni_eqPush fun _ => rfl)) <|
  ni_row (ni_okP (ni_ic_eq ni_dL_law_550 (by decide))) (ni_muP ni_eqIc) <|
  ni_row (ni_okP (ni_iconst ni_dL_law_553 (by decide +kernel))) (ni_muP (ni_eqPush fun _ => rfl)) <|
  ni_row (ni_ret ni_dL_law_554) ni_muR <|
  ni_row (ni_aloadn ni_dL_law_555 rfl) ni_muLd <|
  ni_row (ni_virt (y := 47) (T := TX11) ni_dL_law_556 (by decide) rfl rfl ni_w890 ni_w891 ni_w892 ni_w28 ni_w893 ⟨by decide +kernel, by decide +kernel, by decide +kernel⟩ (by decide) rfl) (ni_muV (by decide)) <|
  ni_row (ni_istore ni_dL_law_559 (by decide)) ni_muSt <|
  ni_row (ni_aloadn ni_dL_law_561 rfl) ni_muLd <|
  ni_row (ni_iload ni_dL_law_562) ni_muLd <|
  ni_row (ni_virt (y := 46) (T := TX11) ni_dL_law_564 (by decide) rfl rfl ni_w706 ni_w707 ni_w708 ni_w28 ni_w709 ⟨by decide +kernel, by decide +kernel, by decide +kernel⟩ (by decide) rfl) (ni_muV (by decide)) <|
  ni_row (ni_iload ni_dL_law_567) ni_muLd <|
  ni_row (ni_iload ni_dL_law_569) ni_muLd <|
  ni_row0
def ni_pr156_3 : List (Nat × ni_S) := [(571, ni_sP (ni_gI (fun x y => x + y) 572)),
  (572, ni_sP (ni_gIc (fun x y => decide (¬ x = y)) 610 575)),
  (575, ni_sLd 3 1 576),
  (576, ni_sLd 0 10 578),
  (578, ni_sV 14 1 9 581),
  (581, ni_sLd 0 12 583),
  (583, ni_sP (ni_gIc (fun x y => decide (¬ x = y)) 610 586)),
  (586, ni_sLd 0 13 588),
  (588, ni_sP (ni_gIf (fun x => decide (x < 0)) 598 591)),
  (591, ni_sLd 3 1 592),
  (592, ni_sV 25 0 9 595),
  (595, ni_sP (ni_gIf (fun x => decide (x = 0)) 610 598)),
  (598, ni_sLd 0 13 600),
  (600, ni_sP (ni_gIf (fun x => decide (0 ≤ x)) 612 603)),
  (603, ni_sLd 3 1 604),
  (604, ni_sV 25 0 9 607),
  (607, ni_sP (ni_gIf (fun x => decide (x = 0)) 612 610)),
  (610, ni_sP (ni_gPush (.int 0) 611)),
  (611, ni_sR (some .boolean)),
  (612, ni_sInc 5 (1) 615),
  (615, ni_sP (ni_gGo 217)),
  (618, ni_sLd 3 1 619),
  (619, ni_sLd 3 3 620),
  (620, ni_sLd 0 4 622),
  (622, ni_sC 155 3 625),
  (625, ni_sR (some .boolean))]
theorem ni_pk156_3 : ∀ r ∈ ni_pr156_3, ni_Ok xs ⟨"SwitchyardLaw", "law", "([I)Z"⟩ cL_law 15 (some .boolean) [] r.1 r.2 ∧ ni_MU r.2 := ni_row (ni_okP (ni_iadd ni_dL_law_571)) (ni_muP ni_eqI) <|
  ni_row (ni_okP (ni_ic_ne ni_dL_law_572 (by decide))) (ni_muP ni_eqIc) <|
  ni_row (ni_aloadn ni_dL_law_575 rfl) ni_muLd <|
  ni_row (ni_iload ni_dL_law_576) ni_muLd <|
  ni_row (ni_virt (y := 14) (T := TX11) ni_dL_law_578 (by decide) rfl rfl ni_w902 ni_w903 ni_w904 ni_w28 ni_w905 ⟨by decide +kernel, by decide +kernel, by decide +kernel⟩ (by decide) rfl) (ni_muV (by decide)) <|
  ni_row (ni_iload ni_dL_law_581) ni_muLd <|
  ni_row (ni_okP (ni_ic_ne ni_dL_law_583 (by decide))) (ni_muP ni_eqIc) <|
  ni_row (ni_iload ni_dL_law_586) ni_muLd <|
  ni_row (ni_okP (ni_if_lt ni_dL_law_588 (by decide))) (ni_muP ni_eqIf) <|
  ni_row (ni_aloadn ni_dL_law_591 rfl) ni_muLd <|
  ni_row (ni_virt (y := 25) (T := TX11) ni_dL_law_592 (by decide) rfl rfl ni_w894 ni_w895 ni_w896 ni_w28 ni_w897 ⟨by decide +kernel, by decide +kernel, by decide +kernel⟩ (by decide) rfl) (ni_muV (by decide)) <|
  ni_row (ni_okP (ni_if_eq ni_dL_law_595 (by decide))) (ni_muP ni_eqIf) <|
  ni_row (ni_iload ni_dL_law_598) ni_muLd <|
  ni_row (ni_okP (ni_if_ge ni_dL_law_600 (by decide))) (ni_muP ni_eqIf) <|
  ni_row (ni_aloadn ni_dL_law_603 rfl) ni_muLd <|
  ni_row (ni_virt (y := 25) (T := TX11) ni_dL_law_604 (by decide) rfl rfl ni_w894 ni_w895 ni_w896 ni_w28 ni_w897 ⟨by decide +kernel, by decide +kernel, by decide +kernel⟩ (by decide) rfl) (ni_muV (by decide)) <|
  ni_row (ni_okP (ni_if_eq ni_dL_law_607 (by decide))) (ni_muP ni_eqIf) <|
  ni_row (ni_okP (ni_iconst ni_dL_law_610 (by decide +kernel))) (ni_muP (ni_eqPush fun _ => rfl)) <|
  ni_row (ni_ret ni_dL_law_611) ni_muR <|
  ni_row (ni_iinc (n := 1) ni_dL_law_612 (by decide)) ni_muInc <|
  ni_row (ni_okP (ni_goto ni_dL_law_615 (by decide))) (ni_muP ni_eqGo) <|
  ni_row (ni_aloadn ni_dL_law_618 rfl) ni_muLd <|
  ni_row (ni_aloadn ni_dL_law_619 rfl) ni_muLd <|
  ni_row (ni_iload ni_dL_law_620) ni_muLd <|
  ni_row (ni_stat (y := 155) ni_dL_law_622 ni_w1054 ni_w1055 ni_w27 ni_w1056 ⟨by decide +kernel, by decide +kernel, by decide +kernel⟩ (by decide) rfl) ni_muC <|
  ni_row (ni_ret ni_dL_law_625) ni_muR <|
  ni_row0
def ni_pr156 : List (Nat × ni_S) := ni_pr156_0 ++ (ni_pr156_1 ++ (ni_pr156_2 ++ (ni_pr156_3)))
theorem ni_pk156 : ∀ r ∈ ni_pr156, ni_Ok xs ⟨"SwitchyardLaw", "law", "([I)Z"⟩ cL_law 15 (some .boolean) [] r.1 r.2 ∧ ni_MU r.2 := List.forall_mem_append.mpr ⟨ni_pk156_0, List.forall_mem_append.mpr ⟨ni_pk156_1, List.forall_mem_append.mpr ⟨ni_pk156_2, ni_pk156_3⟩⟩⟩
end NIP
