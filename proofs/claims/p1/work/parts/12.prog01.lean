section NIP
variable {xs : List Int32}
def ni_pr60 : List (Nat × ni_S) := [(0, ni_sLd 3 0 1),
  (1, ni_sP (ni_gObj 4)),
  (4, ni_sLd 3 0 5),
  (5, ni_sP (ni_gPush (.int 8) 7)),
  (7, ni_sANew 4 10),
  (10, ni_sPut 5 4 (.array (.object "Switchyard$Router")) 13),
  (13, ni_sLd 3 0 14),
  (14, ni_sP (ni_gPush (.int 14) 16)),
  (16, ni_sANew 5 19),
  (19, ni_sPut 5 5 (.array (.object "Switchyard$Link")) 22),
  (22, ni_sLd 3 0 23),
  (23, ni_sP (ni_gPush (.int 12) 25)),
  (25, ni_sANew 6 28),
  (28, ni_sPut 5 6 (.array (.object "Switchyard$Flow")) 31),
  (31, ni_sLd 3 0 32),
  (32, ni_sNew 7 [.null, .null, .null, .int 0] 35),
  (35, ni_sP (ni_gDup 36)),
  (36, ni_sP (ni_gPush (.int 24) 38)),
  (38, ni_sI 65 1 41),
  (41, ni_sPut 5 7 (.object "Switchyard$PrefixList") 44),
  (44, ni_sLd 3 0 45),
  (45, ni_sNew 7 [.null, .null, .null, .int 0] 48),
  (48, ni_sP (ni_gDup 49)),
  (49, ni_sP (ni_gPush (.int 24) 51)),
  (51, ni_sI 65 1 54),
  (54, ni_sPut 5 8 (.object "Switchyard$PrefixList") 57),
  (57, ni_sP (ni_gPush (.int 0) 58)),
  (58, ni_sSt 0 1 59),
  (59, ni_sLd 0 1 60),
  (60, ni_sP (ni_gPush (.int 12) 62)),
  (62, ni_sP (ni_gIc (fun x y => decide (y ≤ x)) 84 65)),
  (65, ni_sLd 3 0 66),
  (66, ni_sGet 5 6 69),
  (69, ni_sLd 0 1 70),
  (70, ni_sNew 1 [.int 0, .int 0, .int 0, .int 0, .int 0, .int 0, .int 0, .int 0, .int 0, .int 0, .null, .int 0, .int 0, .int 0, .null, .int 0, .int 0, .int 0, .int 0] 73),
  (73, ni_sP (ni_gDup 74)),
  (74, ni_sI 56 0 77),
  (77, ni_sQst 78),
  (78, ni_sInc 1 (1) 81),
  (81, ni_sP (ni_gGo 59)),
  (84, ni_sP (ni_gPush (.int 0) 85)),
  (85, ni_sSt 0 1 86),
  (86, ni_sLd 0 1 87),
  (87, ni_sP (ni_gPush (.int 14) 89)),
  (89, ni_sP (ni_gIc (fun x y => decide (y ≤ x)) 111 92)),
  (92, ni_sLd 3 0 93),
  (93, ni_sGet 5 5 96),
  (96, ni_sLd 0 1 97),
  (97, ni_sNew 4 [.int 0, .int 0, .int 0, .int 0, .int 0, .int 0, .null, .null] 100),
  (100, ni_sP (ni_gDup 101)),
  (101, ni_sI 59 0 104),
  (104, ni_sQst 105),
  (105, ni_sInc 1 (1) 108),
  (108, ni_sP (ni_gGo 86)),
  (111, ni_sP (ni_gPush (.int 0) 112)),
  (112, ni_sSt 0 1 113),
  (113, ni_sLd 0 1 114),
  (114, ni_sP (ni_gPush (.int 8) 116)),
  (116, ni_sP (ni_gIc (fun x y => decide (y ≤ x)) 156 119)),
  (119, ni_sLd 3 0 120),
  (120, ni_sGet 5 4 123),
  (123, ni_sLd 0 1 124),
  (124, ni_sNew 8 [.int 0, .null, .null, .null, .null, .int 0] 127),
  (127, ni_sP (ni_gDup 128)),
  (128, ni_sLd 0 1 129),
  (129, ni_sNew 2 [.int 0, .int 0, .int 0, .null, .null] 132),
  (132, ni_sP (ni_gDup 133)),
  (133, ni_sLd 0 1 134),
  (134, ni_sP (ni_gPush (.int 0) 135)),
  (135, ni_sP (ni_gPush (.int 0) 136)),
  (136, ni_sP (ni_gPush (.int 14) 138)),
  (138, ni_sNewa 0 .int 140),
  (140, ni_sP (ni_gPush (.int 0) 141)),
  (141, ni_sNewa 0 .int 143),
  (143, ni_sI 57 5 146),
  (146, ni_sI 66 2 149),
  (149, ni_sQst 150),
  (150, ni_sInc 1 (1) 153),
  (153, ni_sP (ni_gGo 113)),
  (156, ni_sR (none))]
theorem ni_pk60 : ∀ r ∈ ni_pr60, ni_Ok xs yX4_init cX4_init 2 (none) [] r.1 r.2 ∧ ni_MU r.2 := ni_row (ni_aloadn ni_dX4_init_0 rfl) ni_muLd <|
  ni_row (ni_okP (ni_objInit ni_dX4_init_1 ni_w110 ni_w103 ni_w104)) (ni_muP ni_eqObj) <|
  ni_row (ni_aloadn ni_dX4_init_4 rfl) ni_muLd <|
  ni_row (ni_okP (ni_bipush ni_dX4_init_5 (by decide +kernel))) (ni_muP (ni_eqPush fun _ => rfl)) <|
  ni_row (ni_anew ni_dX4_init_7 rfl ni_w111 (by decide)) ni_muANew <|
  ni_row (ni_putA (T := TX4) (ty0 := tyX4) (b := true) (Or.inr ⟨rfl, rfl, rfl⟩) rfl ni_dX4_init_10 (by decide) rfl (by decide) ni_uX4 tyX4_ok nmX4 ni_w447) ni_muPut <|
  ni_row (ni_aloadn ni_dX4_init_13 rfl) ni_muLd <|
  ni_row (ni_okP (ni_bipush ni_dX4_init_14 (by decide +kernel))) (ni_muP (ni_eqPush fun _ => rfl)) <|
  ni_row (ni_anew ni_dX4_init_16 rfl ni_w113 (by decide)) ni_muANew <|
  ni_row (ni_putA (T := TX4) (ty0 := tyX4) (b := true) (Or.inr ⟨rfl, rfl, rfl⟩) rfl ni_dX4_init_19 (by decide) rfl (by decide) ni_uX4 tyX4_ok nmX4 ni_w449) ni_muPut <|
  ni_row (ni_aloadn ni_dX4_init_22 rfl) ni_muLd <|
  ni_row (ni_okP (ni_bipush ni_dX4_init_23 (by decide +kernel))) (ni_muP (ni_eqPush fun _ => rfl)) <|
  ni_row (ni_anew ni_dX4_init_25 rfl ni_w115 (by decide)) ni_muANew <|
  ni_row (ni_putA (T := TX4) (ty0 := tyX4) (b := true) (Or.inr ⟨rfl, rfl, rfl⟩) rfl ni_dX4_init_28 (by decide) rfl (by decide) ni_uX4 tyX4_ok nmX4 ni_w451) ni_muPut <|
  ni_row (ni_aloadn ni_dX4_init_31 rfl) ni_muLd <|
  ni_row (ni_new (T := TX8) (ty0 := tyX8) ni_dX4_init_32 (by decide) rfl ni_uX8 tyX8_ok rfl (by decide +kernel) ni_w117 ni_w118 ni_w63) (ni_muNew fun _ => rfl) <|
  ni_row (ni_okP (ni_dup ni_dX4_init_35)) (ni_muP ni_eqDup) <|
  ni_row (ni_okP (ni_bipush ni_dX4_init_36 (by decide +kernel))) (ni_muP (ni_eqPush fun _ => rfl)) <|
  ni_row (ni_init (y := 65) ni_dX4_init_38 rfl rfl ni_w119 ni_w120 ni_w63 ni_w121 ⟨by decide +kernel, by decide +kernel, by decide +kernel⟩ (by decide) rfl) ni_muI <|
  ni_row (ni_putA (T := TX4) (ty0 := tyX4) (b := true) (Or.inr ⟨rfl, rfl, rfl⟩) rfl ni_dX4_init_41 (by decide) rfl (by decide) ni_uX4 tyX4_ok nmX4 ni_w453) ni_muPut <|
  ni_row (ni_aloadn ni_dX4_init_44 rfl) ni_muLd <|
  ni_row (ni_new (T := TX8) (ty0 := tyX8) ni_dX4_init_45 (by decide) rfl ni_uX8 tyX8_ok rfl (by decide +kernel) ni_w117 ni_w118 ni_w63) (ni_muNew fun _ => rfl) <|
  ni_row (ni_okP (ni_dup ni_dX4_init_48)) (ni_muP ni_eqDup) <|
  ni_row (ni_okP (ni_bipush ni_dX4_init_49 (by decide +kernel))) (ni_muP (ni_eqPush fun _ => rfl)) <|
  ni_row (ni_init (y := 65) ni_dX4_init_51 rfl rfl ni_w119 ni_w120 ni_w63 ni_w121 ⟨by decide +kernel, by decide +kernel, by decide +kernel⟩ (by decide) rfl) ni_muI <|
  ni_row (ni_putA (T := TX4) (ty0 := tyX4) (b := true) (Or.inr ⟨rfl, rfl, rfl⟩) rfl ni_dX4_init_54 (by decide) rfl (by decide) ni_uX4 tyX4_ok nmX4 ni_w455) ni_muPut <|
  ni_row (ni_okP (ni_iconst ni_dX4_init_57 (by decide +kernel))) (ni_muP (ni_eqPush fun _ => rfl)) <|
  ni_row (ni_istoren ni_dX4_init_58 rfl (by decide)) ni_muSt <|
  ni_row (ni_iloadn ni_dX4_init_59 rfl) ni_muLd <|
  ni_row (ni_okP (ni_bipush ni_dX4_init_60 (by decide +kernel))) (ni_muP (ni_eqPush fun _ => rfl)) <|
  ni_row (ni_okP (ni_ic_ge ni_dX4_init_62 (by decide))) (ni_muP ni_eqIc) <|
  ni_row (ni_aloadn ni_dX4_init_65 rfl) ni_muLd <|
  ni_row (ni_get (T := TX4) ni_dX4_init_66 (by decide) rfl (by decide) ni_uX4 ni_w451) ni_muGet <|
  ni_row (ni_iloadn ni_dX4_init_69 rfl) ni_muLd <|
  ni_row (ni_new (T := TX0) (ty0 := tyX0) ni_dX4_init_70 (by decide) rfl ni_uX0 tyX0_ok rfl (by decide +kernel) ni_w115 ni_w144 ni_w64) (ni_muNew fun _ => rfl) <|
  ni_row (ni_okP (ni_dup ni_dX4_init_73)) (ni_muP ni_eqDup) <|
  ni_row (ni_initN (y := 56) (host := "Switchyard") ni_dX4_init_74 rfl rfl (by decide) ni_w146 ni_w64 ni_w147 ⟨by decide +kernel, by decide +kernel, by decide +kernel⟩ (by decide) rfl) ni_muI <|
  ni_row (ni_aast ni_dX4_init_77) ni_muQst <|
  ni_row (ni_iinc (n := 1) ni_dX4_init_78 (by decide)) ni_muInc <|
  ni_row (ni_okP (ni_goto ni_dX4_init_81 (by decide))) (ni_muP ni_eqGo) <|
  ni_row (ni_okP (ni_iconst ni_dX4_init_84 (by decide +kernel))) (ni_muP (ni_eqPush fun _ => rfl)) <|
  ni_row (ni_istoren ni_dX4_init_85 rfl (by decide)) ni_muSt <|
  ni_row (ni_iloadn ni_dX4_init_86 rfl) ni_muLd <|
  ni_row (ni_okP (ni_bipush ni_dX4_init_87 (by decide +kernel))) (ni_muP (ni_eqPush fun _ => rfl)) <|
  ni_row (ni_okP (ni_ic_ge ni_dX4_init_89 (by decide))) (ni_muP ni_eqIc) <|
  ni_row (ni_aloadn ni_dX4_init_92 rfl) ni_muLd <|
  ni_row (ni_get (T := TX4) ni_dX4_init_93 (by decide) rfl (by decide) ni_uX4 ni_w449) ni_muGet <|
  ni_row (ni_iloadn ni_dX4_init_96 rfl) ni_muLd <|
  ni_row (ni_new (T := TX3) (ty0 := tyX3) ni_dX4_init_97 (by decide) rfl ni_uX3 tyX3_ok rfl (by decide +kernel) ni_w113 ni_w228 ni_w65) (ni_muNew fun _ => rfl) <|
  ni_row (ni_okP (ni_dup ni_dX4_init_100)) (ni_muP ni_eqDup) <|
  ni_row (ni_initN (y := 59) (host := "Switchyard") ni_dX4_init_101 rfl rfl (by decide) ni_w230 ni_w65 ni_w231 ⟨by decide +kernel, by decide +kernel, by decide +kernel⟩ (by decide) rfl) ni_muI <|
  ni_row (ni_aast ni_dX4_init_104) ni_muQst <|
  ni_row (ni_iinc (n := 1) ni_dX4_init_105 (by decide)) ni_muInc <|
  ni_row (ni_okP (ni_goto ni_dX4_init_108 (by decide))) (ni_muP ni_eqGo) <|
  ni_row (ni_okP (ni_iconst ni_dX4_init_111 (by decide +kernel))) (ni_muP (ni_eqPush fun _ => rfl)) <|
  ni_row (ni_istoren ni_dX4_init_112 rfl (by decide)) ni_muSt <|
  ni_row (ni_iloadn ni_dX4_init_113 rfl) ni_muLd <|
  ni_row (ni_okP (ni_bipush ni_dX4_init_114 (by decide +kernel))) (ni_muP (ni_eqPush fun _ => rfl)) <|
  ni_row (ni_okP (ni_ic_ge ni_dX4_init_116 (by decide))) (ni_muP ni_eqIc) <|
  ni_row (ni_aloadn ni_dX4_init_119 rfl) ni_muLd <|
  ni_row (ni_get (T := TX4) ni_dX4_init_120 (by decide) rfl (by decide) ni_uX4 ni_w447) ni_muGet <|
  ni_row (ni_iloadn ni_dX4_init_123 rfl) ni_muLd <|
  ni_row (ni_new (T := TX9) (ty0 := tyX9) ni_dX4_init_124 (by decide) rfl ni_uX9 tyX9_ok rfl (by decide +kernel) ni_w111 ni_w354 ni_w68) (ni_muNew fun _ => rfl) <|
  ni_row (ni_okP (ni_dup ni_dX4_init_127)) (ni_muP ni_eqDup) <|
  ni_row (ni_iloadn ni_dX4_init_128 rfl) ni_muLd <|
  ni_row (ni_new (T := TX1) (ty0 := tyX1) ni_dX4_init_129 (by decide) rfl ni_uX1 tyX1_ok rfl (by decide +kernel) ni_w355 ni_w356 ni_w69) (ni_muNew fun _ => rfl) <|
  ni_row (ni_okP (ni_dup ni_dX4_init_132)) (ni_muP ni_eqDup) <|
  ni_row (ni_iloadn ni_dX4_init_133 rfl) ni_muLd <|
  ni_row (ni_okP (ni_iconst ni_dX4_init_134 (by decide +kernel))) (ni_muP (ni_eqPush fun _ => rfl)) <|
  ni_row (ni_okP (ni_iconst ni_dX4_init_135 (by decide +kernel))) (ni_muP (ni_eqPush fun _ => rfl)) <|
  ni_row (ni_okP (ni_bipush ni_dX4_init_136 (by decide +kernel))) (ni_muP (ni_eqPush fun _ => rfl)) <|
  ni_row (ni_newa ni_dX4_init_138 rfl rfl (by decide) ni_w143) ni_muNewa <|
  ni_row (ni_okP (ni_iconst ni_dX4_init_140 (by decide +kernel))) (ni_muP (ni_eqPush fun _ => rfl)) <|
  ni_row (ni_newa ni_dX4_init_141 rfl rfl (by decide) ni_w143) ni_muNewa <|
  ni_row (ni_init (y := 57) ni_dX4_init_143 rfl rfl ni_w357 ni_w358 ni_w69 ni_w359 ⟨by decide +kernel, by decide +kernel, by decide +kernel⟩ (by decide) rfl) ni_muI <|
  ni_row (ni_init (y := 66) ni_dX4_init_146 rfl rfl ni_w383 ni_w384 ni_w68 ni_w385 ⟨by decide +kernel, by decide +kernel, by decide +kernel⟩ (by decide) rfl) ni_muI <|
  ni_row (ni_aast ni_dX4_init_149) ni_muQst <|
  ni_row (ni_iinc (n := 1) ni_dX4_init_150 (by decide)) ni_muInc <|
  ni_row (ni_okP (ni_goto ni_dX4_init_153 (by decide))) (ni_muP ni_eqGo) <|
  ni_row (ni_ret ni_dX4_init_156) ni_muR <|
  ni_row0
def ni_pr61 : List (Nat × ni_S) := [(0, ni_sP (ni_gPush (.int 0) 1)),
  (1, ni_sSt 0 1 2),
  (2, ni_sP (ni_gPush (.int 0) 3)),
  (3, ni_sSt 0 2 4),
  (4, ni_sLd 0 2 5),
  (5, ni_sLd 3 0 6),
  (6, ni_sGet 5 2 9),
  (9, ni_sP (ni_gIc (fun x y => decide (y ≤ x)) 52 12)),
  (52, ni_sLd 0 1 53),
  (53, ni_sR (some .int))]
theorem ni_pk61 : ∀ r ∈ ni_pr61, ni_Ok xs yX4_lettersOnTheirWay cX4_lettersOnTheirWay 3 (some .int) [] r.1 r.2 ∧ ni_MU r.2 := ni_row (ni_okP (ni_iconst ni_dX4_lettersOnTheirWay_0 (by decide +kernel))) (ni_muP (ni_eqPush fun _ => rfl)) <|
  ni_row (ni_istoren ni_dX4_lettersOnTheirWay_1 rfl (by decide)) ni_muSt <|
  ni_row (ni_okP (ni_iconst ni_dX4_lettersOnTheirWay_2 (by decide +kernel))) (ni_muP (ni_eqPush fun _ => rfl)) <|
  ni_row (ni_istoren ni_dX4_lettersOnTheirWay_3 rfl (by decide)) ni_muSt <|
  ni_row (ni_iloadn ni_dX4_lettersOnTheirWay_4 rfl) ni_muLd <|
  ni_row (ni_aloadn ni_dX4_lettersOnTheirWay_5 rfl) ni_muLd <|
  ni_row (ni_get (T := TX4) ni_dX4_lettersOnTheirWay_6 (by decide) rfl (by decide) ni_uX4 ni_w443) ni_muGet <|
  ni_row (ni_okP (ni_ic_ge ni_dX4_lettersOnTheirWay_9 (by decide))) (ni_muP ni_eqIc) <|
  ni_row (ni_iloadn ni_dX4_lettersOnTheirWay_52 rfl) ni_muLd <|
  ni_row (ni_ret ni_dX4_lettersOnTheirWay_53) ni_muR <|
  ni_row0
def ni_pr62 : List (Nat × ni_S) := [(0, ni_sLd 3 0 1),
  (1, ni_sP (ni_gDup 2)),
  (2, ni_sGet 5 1 5),
  (5, ni_sP (ni_gPush (.int 1) 6)),
  (6, ni_sP (ni_gI (fun x y => x + y) 7)),
  (7, ni_sPut 5 1 (.int) 10),
  (10, ni_sLd 3 0 11),
  (11, ni_sGet 5 1 14),
  (14, ni_sP (ni_gPush (.int 1) 15)),
  (15, ni_sP (ni_gI (fun x y => x - y) 16)),
  (16, ni_sR (some .int))]
theorem ni_pk62 : ∀ r ∈ ni_pr62, ni_Ok xs yX4_newRouter cX4_newRouter 1 (some .int) [] r.1 r.2 ∧ ni_MU r.2 := ni_row (ni_aloadn ni_dX4_newRouter_0 rfl) ni_muLd <|
  ni_row (ni_okP (ni_dup ni_dX4_newRouter_1)) (ni_muP ni_eqDup) <|
  ni_row (ni_get (T := TX4) ni_dX4_newRouter_2 (by decide) rfl (by decide) ni_uX4 ni_w441) ni_muGet <|
  ni_row (ni_okP (ni_iconst ni_dX4_newRouter_5 (by decide +kernel))) (ni_muP (ni_eqPush fun _ => rfl)) <|
  ni_row (ni_okP (ni_iadd ni_dX4_newRouter_6)) (ni_muP ni_eqI) <|
  ni_row (ni_putA (T := TX4) (ty0 := tyX4) (b := false) (Or.inl rfl) rfl ni_dX4_newRouter_7 (by decide) rfl (by decide) ni_uX4 tyX4_ok nmX4 ni_w441) ni_muPut <|
  ni_row (ni_aloadn ni_dX4_newRouter_10 rfl) ni_muLd <|
  ni_row (ni_get (T := TX4) ni_dX4_newRouter_11 (by decide) rfl (by decide) ni_uX4 ni_w441) ni_muGet <|
  ni_row (ni_okP (ni_iconst ni_dX4_newRouter_14 (by decide +kernel))) (ni_muP (ni_eqPush fun _ => rfl)) <|
  ni_row (ni_okP (ni_isub ni_dX4_newRouter_15)) (ni_muP ni_eqI) <|
  ni_row (ni_ret ni_dX4_newRouter_16) ni_muR <|
  ni_row0
def ni_pr63 : List (Nat × ni_S) := [(0, ni_sP (ni_gPush (.int 0) 1)),
  (1, ni_sSt 0 1 2),
  (2, ni_sLd 0 1 3),
  (3, ni_sLd 3 0 4),
  (4, ni_sGet 5 2 7),
  (7, ni_sP (ni_gIc (fun x y => decide (y ≤ x)) 68 10)),
  (68, ni_sP (ni_gPush (.int 0) 69)),
  (69, ni_sSt 0 1 70),
  (70, ni_sLd 0 1 71),
  (71, ni_sLd 3 0 72),
  (72, ni_sGet 5 2 75),
  (75, ni_sP (ni_gIc (fun x y => decide (y ≤ x)) 148 78)),
  (148, ni_sP (ni_gPush (.int 0) 149)),
  (149, ni_sSt 0 1 150),
  (150, ni_sLd 0 1 151),
  (151, ni_sLd 3 0 152),
  (152, ni_sGet 5 3 155),
  (155, ni_sP (ni_gIc (fun x y => decide (y ≤ x)) 169 158)),
  (169, ni_sP (ni_gPush (.int 0) 170)),
  (170, ni_sSt 0 1 171),
  (171, ni_sLd 0 1 172),
  (172, ni_sLd 3 0 173),
  (173, ni_sGet 5 1 176),
  (176, ni_sP (ni_gIc (fun x y => decide (y ≤ x)) 206 179)),
  (206, ni_sP (ni_gPush (.int 0) 207)),
  (207, ni_sSt 0 1 208),
  (208, ni_sLd 0 1 209),
  (209, ni_sLd 3 0 210),
  (210, ni_sGet 5 2 213),
  (213, ni_sP (ni_gIc (fun x y => decide (y ≤ x)) 292 216)),
  (292, ni_sLd 3 0 293),
  (293, ni_sP (ni_gDup 294)),
  (294, ni_sGet 5 0 297),
  (297, ni_sP (ni_gPush (.int 1) 298)),
  (298, ni_sP (ni_gI (fun x y => x + y) 299)),
  (299, ni_sPut 5 0 (.int) 302),
  (302, ni_sR (none))]
theorem ni_pk63 : ∀ r ∈ ni_pr63, ni_Ok xs yX4_tick cX4_tick 2 (none) [] r.1 r.2 ∧ ni_MU r.2 := ni_row (ni_okP (ni_iconst ni_dX4_tick_0 (by decide +kernel))) (ni_muP (ni_eqPush fun _ => rfl)) <|
  ni_row (ni_istoren ni_dX4_tick_1 rfl (by decide)) ni_muSt <|
  ni_row (ni_iloadn ni_dX4_tick_2 rfl) ni_muLd <|
  ni_row (ni_aloadn ni_dX4_tick_3 rfl) ni_muLd <|
  ni_row (ni_get (T := TX4) ni_dX4_tick_4 (by decide) rfl (by decide) ni_uX4 ni_w443) ni_muGet <|
  ni_row (ni_okP (ni_ic_ge ni_dX4_tick_7 (by decide))) (ni_muP ni_eqIc) <|
  ni_row (ni_okP (ni_iconst ni_dX4_tick_68 (by decide +kernel))) (ni_muP (ni_eqPush fun _ => rfl)) <|
  ni_row (ni_istoren ni_dX4_tick_69 rfl (by decide)) ni_muSt <|
  ni_row (ni_iloadn ni_dX4_tick_70 rfl) ni_muLd <|
  ni_row (ni_aloadn ni_dX4_tick_71 rfl) ni_muLd <|
  ni_row (ni_get (T := TX4) ni_dX4_tick_72 (by decide) rfl (by decide) ni_uX4 ni_w443) ni_muGet <|
  ni_row (ni_okP (ni_ic_ge ni_dX4_tick_75 (by decide))) (ni_muP ni_eqIc) <|
  ni_row (ni_okP (ni_iconst ni_dX4_tick_148 (by decide +kernel))) (ni_muP (ni_eqPush fun _ => rfl)) <|
  ni_row (ni_istoren ni_dX4_tick_149 rfl (by decide)) ni_muSt <|
  ni_row (ni_iloadn ni_dX4_tick_150 rfl) ni_muLd <|
  ni_row (ni_aloadn ni_dX4_tick_151 rfl) ni_muLd <|
  ni_row (ni_get (T := TX4) ni_dX4_tick_152 (by decide) rfl (by decide) ni_uX4 ni_w445) ni_muGet <|
  ni_row (ni_okP (ni_ic_ge ni_dX4_tick_155 (by decide))) (ni_muP ni_eqIc) <|
  ni_row (ni_okP (ni_iconst ni_dX4_tick_169 (by decide +kernel))) (ni_muP (ni_eqPush fun _ => rfl)) <|
  ni_row (ni_istoren ni_dX4_tick_170 rfl (by decide)) ni_muSt <|
  ni_row (ni_iloadn ni_dX4_tick_171 rfl) ni_muLd <|
  ni_row (ni_aloadn ni_dX4_tick_172 rfl) ni_muLd <|
  ni_row (ni_get (T := TX4) ni_dX4_tick_173 (by decide) rfl (by decide) ni_uX4 ni_w441) ni_muGet <|
  ni_row (ni_okP (ni_ic_ge ni_dX4_tick_176 (by decide))) (ni_muP ni_eqIc) <|
  ni_row (ni_okP (ni_iconst ni_dX4_tick_206 (by decide +kernel))) (ni_muP (ni_eqPush fun _ => rfl)) <|
  ni_row (ni_istoren ni_dX4_tick_207 rfl (by decide)) ni_muSt <|
  ni_row (ni_iloadn ni_dX4_tick_208 rfl) ni_muLd <|
  ni_row (ni_aloadn ni_dX4_tick_209 rfl) ni_muLd <|
  ni_row (ni_get (T := TX4) ni_dX4_tick_210 (by decide) rfl (by decide) ni_uX4 ni_w443) ni_muGet <|
  ni_row (ni_okP (ni_ic_ge ni_dX4_tick_213 (by decide))) (ni_muP ni_eqIc) <|
  ni_row (ni_aloadn ni_dX4_tick_292 rfl) ni_muLd <|
  ni_row (ni_okP (ni_dup ni_dX4_tick_293)) (ni_muP ni_eqDup) <|
  ni_row (ni_get (T := TX4) ni_dX4_tick_294 (by decide) rfl (by decide) ni_uX4 ni_w440) ni_muGet <|
  ni_row (ni_okP (ni_iconst ni_dX4_tick_297 (by decide +kernel))) (ni_muP (ni_eqPush fun _ => rfl)) <|
  ni_row (ni_okP (ni_iadd ni_dX4_tick_298)) (ni_muP ni_eqI) <|
  ni_row (ni_putA (T := TX4) (ty0 := tyX4) (b := false) (Or.inl rfl) rfl ni_dX4_tick_299 (by decide) rfl (by decide) ni_uX4 tyX4_ok nmX4 ni_w440) ni_muPut <|
  ni_row (ni_ret ni_dX4_tick_302) ni_muR <|
  ni_row0
def ni_pr64 : List (Nat × ni_S) := [(0, ni_sLd 3 0 1),
  (1, ni_sP (ni_gObj 4)),
  (4, ni_sLd 3 0 5),
  (5, ni_sNew 3 [.null, .null, .int 0, .null, .int 0] 8),
  (8, ni_sP (ni_gDup 9)),
  (9, ni_sI 58 0 12),
  (12, ni_sPut 6 0 (.object "Switchyard$Line") 15),
  (15, ni_sLd 3 0 16),
  (16, ni_sP (ni_gPush (.int 0) 17)),
  (17, ni_sPut 6 1 (.int) 20),
  (20, ni_sLd 3 0 21),
  (21, ni_sP (ni_gPush (.int 2000) 24)),
  (24, ni_sPut 6 2 (.int) 27),
  (27, ni_sLd 3 0 28),
  (28, ni_sP (ni_gPush (.int 4) 29)),
  (29, ni_sNewa 0 .int 31),
  (31, ni_sPut 6 5 (.array (.int)) 34),
  (34, ni_sLd 3 0 35),
  (35, ni_sP (ni_gPush (.int 4) 36)),
  (36, ni_sNewa 0 .int 38),
  (38, ni_sPut 6 6 (.array (.int)) 41),
  (41, ni_sLd 3 0 42),
  (42, ni_sP (ni_gPush (.int 250) 45)),
  (45, ni_sNewa 0 .int 47),
  (47, ni_sPut 6 9 (.array (.int)) 50),
  (50, ni_sLd 3 0 51),
  (51, ni_sP (ni_gPush (.int (-1)) 52)),
  (52, ni_sPut 6 12 (.int) 55),
  (55, ni_sP (ni_gPush (.int 0) 56)),
  (56, ni_sSt 0 1 57),
  (57, ni_sLd 0 1 58),
  (58, ni_sP (ni_gPush (.int 4) 59)),
  (59, ni_sP (ni_gIc (fun x y => decide (y ≤ x)) 75 62)),
  (62, ni_sLd 3 0 63),
  (63, ni_sGet 6 5 66),
  (66, ni_sLd 0 1 67),
  (67, ni_sP (ni_gPush (.int 1) 68)),
  (68, ni_sAst .int 0 69),
  (69, ni_sInc 1 (1) 72),
  (72, ni_sP (ni_gGo 57)),
  (75, ni_sR (none))]
theorem ni_pk64 : ∀ r ∈ ni_pr64, ni_Ok xs yX6_init cX6_init 2 (none) [] r.1 r.2 ∧ ni_MU r.2 := ni_row (ni_aloadn ni_dX6_init_0 rfl) ni_muLd <|
  ni_row (ni_okP (ni_objInit ni_dX6_init_1 ni_w238 ni_w103 ni_w104)) (ni_muP ni_eqObj) <|
  ni_row (ni_aloadn ni_dX6_init_4 rfl) ni_muLd <|
  ni_row (ni_new (T := TX2) (ty0 := tyX2) ni_dX6_init_5 (by decide) rfl ni_uX2 tyX2_ok rfl (by decide +kernel) ni_w239 ni_w240 ni_w67) (ni_muNew fun _ => rfl) <|
  ni_row (ni_okP (ni_dup ni_dX6_init_8)) (ni_muP ni_eqDup) <|
  ni_row (ni_init (y := 58) ni_dX6_init_9 rfl rfl ni_w241 ni_w242 ni_w67 ni_w243 ⟨by decide +kernel, by decide +kernel, by decide +kernel⟩ (by decide) rfl) ni_muI <|
  ni_row (ni_putA (T := TX6) (ty0 := tyX6) (b := true) (Or.inr ⟨rfl, rfl, rfl⟩) rfl ni_dX6_init_12 (by decide) rfl (by decide) ni_uX6 tyX6_ok nmX6 ni_w267) ni_muPut <|
  ni_row (ni_aloadn ni_dX6_init_15 rfl) ni_muLd <|
  ni_row (ni_okP (ni_iconst ni_dX6_init_16 (by decide +kernel))) (ni_muP (ni_eqPush fun _ => rfl)) <|
  ni_row (ni_putA (T := TX6) (ty0 := tyX6) (b := false) (Or.inl rfl) rfl ni_dX6_init_17 (by decide) rfl (by decide) ni_uX6 tyX6_ok nmX6 ni_w270) ni_muPut <|
  ni_row (ni_aloadn ni_dX6_init_20 rfl) ni_muLd <|
  ni_row (ni_okP (ni_sipush ni_dX6_init_21 (by decide +kernel))) (ni_muP (ni_eqPush fun _ => rfl)) <|
  ni_row (ni_putA (T := TX6) (ty0 := tyX6) (b := false) (Or.inl rfl) rfl ni_dX6_init_24 (by decide) rfl (by decide) ni_uX6 tyX6_ok nmX6 ni_w271) ni_muPut <|
  ni_row (ni_aloadn ni_dX6_init_27 rfl) ni_muLd <|
  ni_row (ni_okP (ni_iconst ni_dX6_init_28 (by decide +kernel))) (ni_muP (ni_eqPush fun _ => rfl)) <|
  ni_row (ni_newa ni_dX6_init_29 rfl rfl (by decide) ni_w143) ni_muNewa <|
  ni_row (ni_putA (T := TX6) (ty0 := tyX6) (b := true) (Or.inr ⟨rfl, rfl, rfl⟩) rfl ni_dX6_init_31 (by decide) rfl (by decide) ni_uX6 tyX6_ok nmX6 ni_w274) ni_muPut <|
  ni_row (ni_aloadn ni_dX6_init_34 rfl) ni_muLd <|
  ni_row (ni_okP (ni_iconst ni_dX6_init_35 (by decide +kernel))) (ni_muP (ni_eqPush fun _ => rfl)) <|
  ni_row (ni_newa ni_dX6_init_36 rfl rfl (by decide) ni_w143) ni_muNewa <|
  ni_row (ni_putA (T := TX6) (ty0 := tyX6) (b := true) (Or.inr ⟨rfl, rfl, rfl⟩) rfl ni_dX6_init_38 (by decide) rfl (by decide) ni_uX6 tyX6_ok nmX6 ni_w276) ni_muPut <|
  ni_row (ni_aloadn ni_dX6_init_41 rfl) ni_muLd <|
  ni_row (ni_okP (ni_sipush ni_dX6_init_42 (by decide +kernel))) (ni_muP (ni_eqPush fun _ => rfl)) <|
  ni_row (ni_newa ni_dX6_init_45 rfl rfl (by decide) ni_w143) ni_muNewa <|
  ni_row (ni_putA (T := TX6) (ty0 := tyX6) (b := true) (Or.inr ⟨rfl, rfl, rfl⟩) rfl ni_dX6_init_47 (by decide) rfl (by decide) ni_uX6 tyX6_ok nmX6 ni_w280) ni_muPut <|
  ni_row (ni_aloadn ni_dX6_init_50 rfl) ni_muLd <|
  ni_row (ni_okP (ni_iconst ni_dX6_init_51 (by decide +kernel))) (ni_muP (ni_eqPush fun _ => rfl)) <|
  ni_row (ni_putA (T := TX6) (ty0 := tyX6) (b := false) (Or.inl rfl) rfl ni_dX6_init_52 (by decide) rfl (by decide) ni_uX6 tyX6_ok nmX6 ni_w285) ni_muPut <|
  ni_row (ni_okP (ni_iconst ni_dX6_init_55 (by decide +kernel))) (ni_muP (ni_eqPush fun _ => rfl)) <|
  ni_row (ni_istoren ni_dX6_init_56 rfl (by decide)) ni_muSt <|
  ni_row (ni_iloadn ni_dX6_init_57 rfl) ni_muLd <|
  ni_row (ni_okP (ni_iconst ni_dX6_init_58 (by decide +kernel))) (ni_muP (ni_eqPush fun _ => rfl)) <|
  ni_row (ni_okP (ni_ic_ge ni_dX6_init_59 (by decide))) (ni_muP ni_eqIc) <|
  ni_row (ni_aloadn ni_dX6_init_62 rfl) ni_muLd <|
  ni_row (ni_get (T := TX6) ni_dX6_init_63 (by decide) rfl (by decide) ni_uX6 ni_w274) ni_muGet <|
  ni_row (ni_iloadn ni_dX6_init_66 rfl) ni_muLd <|
  ni_row (ni_okP (ni_iconst ni_dX6_init_67 (by decide +kernel))) (ni_muP (ni_eqPush fun _ => rfl)) <|
  ni_row (ni_iast ni_dX6_init_68) ni_muAst <|
  ni_row (ni_iinc (n := 1) ni_dX6_init_69 (by decide)) ni_muInc <|
  ni_row (ni_okP (ni_goto ni_dX6_init_72 (by decide))) (ni_muP ni_eqGo) <|
  ni_row (ni_ret ni_dX6_init_75) ni_muR <|
  ni_row0
def ni_pr65 : List (Nat × ni_S) := [(0, ni_sLd 3 0 1),
  (1, ni_sP (ni_gObj 4)),
  (4, ni_sLd 3 0 5),
  (5, ni_sLd 0 1 6),
  (6, ni_sNewa 0 .int 8),
  (8, ni_sPut 7 0 (.array (.int)) 11),
  (11, ni_sLd 3 0 12),
  (12, ni_sLd 0 1 13),
  (13, ni_sNewa 0 .int 15),
  (15, ni_sPut 7 1 (.array (.int)) 18),
  (18, ni_sLd 3 0 19),
  (19, ni_sLd 0 1 20),
  (20, ni_sNewa 0 .int 22),
  (22, ni_sPut 7 2 (.array (.int)) 25),
  (25, ni_sR (none))]
theorem ni_pk65 : ∀ r ∈ ni_pr65, ni_Ok xs yX8_init cX8_init 2 (none) [] r.1 r.2 ∧ ni_MU r.2 := ni_row (ni_aloadn ni_dX8_init_0 rfl) ni_muLd <|
  ni_row (ni_okP (ni_objInit ni_dX8_init_1 ni_w122 ni_w103 ni_w104)) (ni_muP ni_eqObj) <|
  ni_row (ni_aloadn ni_dX8_init_4 rfl) ni_muLd <|
  ni_row (ni_iloadn ni_dX8_init_5 rfl) ni_muLd <|
  ni_row (ni_newa ni_dX8_init_6 rfl rfl (by decide) ni_w143) ni_muNewa <|
  ni_row (ni_putA (T := TX8) (ty0 := tyX8) (b := true) (Or.inr ⟨rfl, rfl, rfl⟩) rfl ni_dX8_init_8 (by decide) rfl (by decide) ni_uX8 tyX8_ok nmX8 ni_w123) ni_muPut <|
  ni_row (ni_aloadn ni_dX8_init_11 rfl) ni_muLd <|
  ni_row (ni_iloadn ni_dX8_init_12 rfl) ni_muLd <|
  ni_row (ni_newa ni_dX8_init_13 rfl rfl (by decide) ni_w143) ni_muNewa <|
  ni_row (ni_putA (T := TX8) (ty0 := tyX8) (b := true) (Or.inr ⟨rfl, rfl, rfl⟩) rfl ni_dX8_init_15 (by decide) rfl (by decide) ni_uX8 tyX8_ok nmX8 ni_w126) ni_muPut <|
  ni_row (ni_aloadn ni_dX8_init_18 rfl) ni_muLd <|
  ni_row (ni_iloadn ni_dX8_init_19 rfl) ni_muLd <|
  ni_row (ni_newa ni_dX8_init_20 rfl rfl (by decide) ni_w143) ni_muNewa <|
  ni_row (ni_putA (T := TX8) (ty0 := tyX8) (b := true) (Or.inr ⟨rfl, rfl, rfl⟩) rfl ni_dX8_init_22 (by decide) rfl (by decide) ni_uX8 tyX8_ok nmX8 ni_w128) ni_muPut <|
  ni_row (ni_ret ni_dX8_init_25) ni_muR <|
  ni_row0
def ni_pr66 : List (Nat × ni_S) := [(0, ni_sLd 3 0 1),
  (1, ni_sP (ni_gObj 4)),
  (4, ni_sLd 3 0 5),
  (5, ni_sP (ni_gPush (.int 8) 7)),
  (7, ni_sANew 7 10),
  (10, ni_sPut 8 1 (.array (.object "Switchyard$Letter")) 13),
  (13, ni_sLd 3 0 14),
  (14, ni_sP (ni_gPush (.int 8) 16)),
  (16, ni_sNewa 0 .int 18),
  (18, ni_sPut 8 2 (.array (.int)) 21),
  (21, ni_sLd 3 0 22),
  (22, ni_sP (ni_gPush (.int 8) 24)),
  (24, ni_sNewa 0 .int 26),
  (26, ni_sPut 8 3 (.array (.int)) 29),
  (29, ni_sLd 3 0 30),
  (30, ni_sNew 9 [.null, .null, .null, .int 0] 33),
  (33, ni_sP (ni_gDup 34)),
  (34, ni_sI 67 0 37),
  (37, ni_sPut 8 4 (.object "Switchyard$Table") 40),
  (40, ni_sLd 3 0 41),
  (41, ni_sP (ni_gPush (.int 1) 42)),
  (42, ni_sPut 8 5 (.boolean) 45),
  (45, ni_sLd 3 0 46),
  (46, ni_sLd 0 1 47),
  (47, ni_sPut 8 0 (.int) 50),
  (50, ni_sP (ni_gPush (.int 0) 51)),
  (51, ni_sSt 0 3 52),
  (52, ni_sLd 0 3 53),
  (53, ni_sP (ni_gPush (.int 8) 55)),
  (55, ni_sP (ni_gIc (fun x y => decide (y ≤ x)) 87 58)),
  (58, ni_sLd 3 0 59),
  (59, ni_sGet 8 1 62),
  (62, ni_sLd 0 3 63),
  (63, ni_sLd 3 2 64),
  (64, ni_sQst 65),
  (65, ni_sLd 3 0 66),
  (66, ni_sGet 8 2 69),
  (69, ni_sLd 0 3 70),
  (70, ni_sLd 0 3 71),
  (71, ni_sLd 0 1 72),
  (72, ni_sP (ni_gIc (fun x y => decide (¬ x = y)) 79 75)),
  (75, ni_sP (ni_gPush (.int 0) 76)),
  (76, ni_sP (ni_gGo 80)),
  (79, ni_sP (ni_gPush (.int (-1)) 80)),
  (80, ni_sAst .int 0 81),
  (81, ni_sInc 3 (1) 84),
  (84, ni_sP (ni_gGo 52)),
  (87, ni_sR (none))]
theorem ni_pk66 : ∀ r ∈ ni_pr66, ni_Ok xs yX9_init cX9_init 4 (none) [] r.1 r.2 ∧ ni_MU r.2 := ni_row (ni_aloadn ni_dX9_init_0 rfl) ni_muLd <|
  ni_row (ni_okP (ni_objInit ni_dX9_init_1 ni_w386 ni_w103 ni_w104)) (ni_muP ni_eqObj) <|
  ni_row (ni_aloadn ni_dX9_init_4 rfl) ni_muLd <|
  ni_row (ni_okP (ni_bipush ni_dX9_init_5 (by decide +kernel))) (ni_muP (ni_eqPush fun _ => rfl)) <|
  ni_row (ni_anew ni_dX9_init_7 rfl ni_w387 (by decide)) ni_muANew <|
  ni_row (ni_putA (T := TX9) (ty0 := tyX9) (b := true) (Or.inr ⟨rfl, rfl, rfl⟩) rfl ni_dX9_init_10 (by decide) rfl (by decide) ni_uX9 tyX9_ok nmX9 ni_w414) ni_muPut <|
  ni_row (ni_aloadn ni_dX9_init_13 rfl) ni_muLd <|
  ni_row (ni_okP (ni_bipush ni_dX9_init_14 (by decide +kernel))) (ni_muP (ni_eqPush fun _ => rfl)) <|
  ni_row (ni_newa ni_dX9_init_16 rfl rfl (by decide) ni_w143) ni_muNewa <|
  ni_row (ni_putA (T := TX9) (ty0 := tyX9) (b := true) (Or.inr ⟨rfl, rfl, rfl⟩) rfl ni_dX9_init_18 (by decide) rfl (by decide) ni_uX9 tyX9_ok nmX9 ni_w417) ni_muPut <|
  ni_row (ni_aloadn ni_dX9_init_21 rfl) ni_muLd <|
  ni_row (ni_okP (ni_bipush ni_dX9_init_22 (by decide +kernel))) (ni_muP (ni_eqPush fun _ => rfl)) <|
  ni_row (ni_newa ni_dX9_init_24 rfl rfl (by decide) ni_w143) ni_muNewa <|
  ni_row (ni_putA (T := TX9) (ty0 := tyX9) (b := true) (Or.inr ⟨rfl, rfl, rfl⟩) rfl ni_dX9_init_26 (by decide) rfl (by decide) ni_uX9 tyX9_ok nmX9 ni_w419) ni_muPut <|
  ni_row (ni_aloadn ni_dX9_init_29 rfl) ni_muLd <|
  ni_row (ni_new (T := TX10) (ty0 := tyX10) ni_dX9_init_30 (by decide) rfl ni_uX10 tyX10_ok rfl (by decide +kernel) ni_w388 ni_w389 ni_w70) (ni_muNew fun _ => rfl) <|
  ni_row (ni_okP (ni_dup ni_dX9_init_33)) (ni_muP ni_eqDup) <|
  ni_row (ni_initN (y := 67) (host := "Switchyard") ni_dX9_init_34 rfl rfl (by decide) ni_w391 ni_w70 ni_w392 ⟨by decide +kernel, by decide +kernel, by decide +kernel⟩ (by decide) rfl) ni_muI <|
  ni_row (ni_putA (T := TX9) (ty0 := tyX9) (b := true) (Or.inr ⟨rfl, rfl, rfl⟩) rfl ni_dX9_init_37 (by decide) rfl (by decide) ni_uX9 tyX9_ok nmX9 ni_w421) ni_muPut <|
  ni_row (ni_aloadn ni_dX9_init_40 rfl) ni_muLd <|
  ni_row (ni_okP (ni_iconst ni_dX9_init_41 (by decide +kernel))) (ni_muP (ni_eqPush fun _ => rfl)) <|
  ni_row (ni_putA (T := TX9) (ty0 := tyX9) (b := false) (Or.inl rfl) rfl ni_dX9_init_42 (by decide) rfl (by decide) ni_uX9 tyX9_ok nmX9 ni_w424) ni_muPut <|
  ni_row (ni_aloadn ni_dX9_init_45 rfl) ni_muLd <|
  ni_row (ni_iloadn ni_dX9_init_46 rfl) ni_muLd <|
  ni_row (ni_putA (T := TX9) (ty0 := tyX9) (b := true) (Or.inr ⟨rfl, rfl, rfl⟩) rfl ni_dX9_init_47 (by decide) rfl (by decide) ni_uX9 tyX9_ok nmX9 ni_w413) ni_muPut <|
  ni_row (ni_okP (ni_iconst ni_dX9_init_50 (by decide +kernel))) (ni_muP (ni_eqPush fun _ => rfl)) <|
  ni_row (ni_istoren ni_dX9_init_51 rfl (by decide)) ni_muSt <|
  ni_row (ni_iloadn ni_dX9_init_52 rfl) ni_muLd <|
  ni_row (ni_okP (ni_bipush ni_dX9_init_53 (by decide +kernel))) (ni_muP (ni_eqPush fun _ => rfl)) <|
  ni_row (ni_okP (ni_ic_ge ni_dX9_init_55 (by decide))) (ni_muP ni_eqIc) <|
  ni_row (ni_aloadn ni_dX9_init_58 rfl) ni_muLd <|
  ni_row (ni_get (T := TX9) ni_dX9_init_59 (by decide) rfl (by decide) ni_uX9 ni_w414) ni_muGet <|
  ni_row (ni_iloadn ni_dX9_init_62 rfl) ni_muLd <|
  ni_row (ni_aloadn ni_dX9_init_63 rfl) ni_muLd <|
  ni_row (ni_aast ni_dX9_init_64) ni_muQst <|
  ni_row (ni_aloadn ni_dX9_init_65 rfl) ni_muLd <|
  ni_row (ni_get (T := TX9) ni_dX9_init_66 (by decide) rfl (by decide) ni_uX9 ni_w417) ni_muGet <|
  ni_row (ni_iloadn ni_dX9_init_69 rfl) ni_muLd <|
  ni_row (ni_iloadn ni_dX9_init_70 rfl) ni_muLd <|
  ni_row (ni_iloadn ni_dX9_init_71 rfl) ni_muLd <|
  ni_row (ni_okP (ni_ic_ne ni_dX9_init_72 (by decide))) (ni_muP ni_eqIc) <|
  ni_row (ni_okP (ni_iconst ni_dX9_init_75 (by decide +kernel))) (ni_muP (ni_eqPush fun _ => rfl)) <|
  ni_row (ni_okP (ni_goto ni_dX9_init_76 (by decide))) (ni_muP ni_eqGo) <|
  ni_row (ni_okP (ni_iconst ni_dX9_init_79 (by decide +kernel))) (ni_muP (ni_eqPush fun _ => rfl)) <|
  ni_row (ni_iast ni_dX9_init_80) ni_muAst <|
  ni_row (ni_iinc (n := 1) ni_dX9_init_81 (by decide)) ni_muInc <|
  ni_row (ni_okP (ni_goto ni_dX9_init_84 (by decide))) (ni_muP ni_eqGo) <|
  ni_row (ni_ret ni_dX9_init_87) ni_muR <|
  ni_row0
def ni_pr67 : List (Nat × ni_S) := [(0, ni_sLd 3 0 1),
  (1, ni_sP (ni_gObj 4)),
  (4, ni_sLd 3 0 5),
  (5, ni_sP (ni_gPush (.int 216) 8)),
  (8, ni_sNewa 0 .int 10),
  (10, ni_sPut 9 0 (.array (.int)) 13),
  (13, ni_sLd 3 0 14),
  (14, ni_sP (ni_gPush (.int 216) 17)),
  (17, ni_sNewa 0 .int 19),
  (19, ni_sPut 9 1 (.array (.int)) 22),
  (22, ni_sLd 3 0 23),
  (23, ni_sP (ni_gPush (.int 216) 26)),
  (26, ni_sNewa 0 .int 28),
  (28, ni_sPut 9 2 (.array (.int)) 31),
  (31, ni_sR (none))]
theorem ni_pk67 : ∀ r ∈ ni_pr67, ni_Ok xs yX10_init cX10_init 1 (none) [] r.1 r.2 ∧ ni_MU r.2 := ni_row (ni_aloadn ni_dX10_init_0 rfl) ni_muLd <|
  ni_row (ni_okP (ni_objInit ni_dX10_init_1 ni_w393 ni_w103 ni_w104)) (ni_muP ni_eqObj) <|
  ni_row (ni_aloadn ni_dX10_init_4 rfl) ni_muLd <|
  ni_row (ni_okP (ni_sipush ni_dX10_init_5 (by decide +kernel))) (ni_muP (ni_eqPush fun _ => rfl)) <|
  ni_row (ni_newa ni_dX10_init_8 rfl rfl (by decide) ni_w143) ni_muNewa <|
  ni_row (ni_putA (T := TX10) (ty0 := tyX10) (b := true) (Or.inr ⟨rfl, rfl, rfl⟩) rfl ni_dX10_init_10 (by decide) rfl (by decide) ni_uX10 tyX10_ok nmX10 ni_w394) ni_muPut <|
  ni_row (ni_aloadn ni_dX10_init_13 rfl) ni_muLd <|
  ni_row (ni_okP (ni_sipush ni_dX10_init_14 (by decide +kernel))) (ni_muP (ni_eqPush fun _ => rfl)) <|
  ni_row (ni_newa ni_dX10_init_17 rfl rfl (by decide) ni_w143) ni_muNewa <|
  ni_row (ni_putA (T := TX10) (ty0 := tyX10) (b := true) (Or.inr ⟨rfl, rfl, rfl⟩) rfl ni_dX10_init_19 (by decide) rfl (by decide) ni_uX10 tyX10_ok nmX10 ni_w396) ni_muPut <|
  ni_row (ni_aloadn ni_dX10_init_22 rfl) ni_muLd <|
  ni_row (ni_okP (ni_sipush ni_dX10_init_23 (by decide +kernel))) (ni_muP (ni_eqPush fun _ => rfl)) <|
  ni_row (ni_newa ni_dX10_init_26 rfl rfl (by decide) ni_w143) ni_muNewa <|
  ni_row (ni_putA (T := TX10) (ty0 := tyX10) (b := true) (Or.inr ⟨rfl, rfl, rfl⟩) rfl ni_dX10_init_28 (by decide) rfl (by decide) ni_uX10 tyX10_ok nmX10 ni_w399) ni_muPut <|
  ni_row (ni_ret ni_dX10_init_31) ni_muR <|
  ni_row0
def ni_pr68 : List (Nat × ni_S) := [(0, ni_sLd 3 5 2),
  (2, ni_sP (ni_gPush (.int 0) 3)),
  (3, ni_sLd 3 0 4),
  (4, ni_sLd 0 1 5),
  (5, ni_sLd 0 2 6),
  (6, ni_sLd 0 3 7),
  (7, ni_sLd 0 4 9),
  (9, ni_sVX 1 4 10 "java/lang/IndexOutOfBoundsException" 19 6 12),
  (19, ni_sP (ni_gPush (.int 1) 20)),
  (20, ni_sR (some .int))]
theorem ni_pk68 : ∀ r ∈ ni_pr68, ni_Ok xs yL_addFlow cL_addFlow 7 (some .int) [(0, 14, 17, 19), (0, 14, 21, 21), (0, 14, 25, 13)] r.1 r.2 ∧ ni_MU r.2 := ni_row (ni_aload ni_dL_addFlow_0) ni_muLd <|
  ni_row (ni_okP (ni_iconst ni_dL_addFlow_2 (by decide +kernel))) (ni_muP (ni_eqPush fun _ => rfl)) <|
  ni_row (ni_aloadn ni_dL_addFlow_3 rfl) ni_muLd <|
  ni_row (ni_iloadn ni_dL_addFlow_4 rfl) ni_muLd <|
  ni_row (ni_iloadn ni_dL_addFlow_5 rfl) ni_muLd <|
  ni_row (ni_iloadn ni_dL_addFlow_6 rfl) ni_muLd <|
  ni_row (ni_iload ni_dL_addFlow_7) ni_muLd <|
  ni_row (ni_virtX (j := 0) (y := 1) (T := TX11) ni_dL_addFlow_9 (by decide) rfl rfl ni_w952 ni_w953 ni_w954 ni_w61 ni_w955 ⟨by decide +kernel, by decide +kernel, by decide +kernel⟩ (by decide) rfl (by decide) (by decide) ni_w706 (by decide) (Or.inr ⟨ni_dL_addFlow_17, rfl⟩) (by decide)) (ni_muVX (by decide)) <|
  ni_row (ni_okP (ni_iconst ni_dL_addFlow_19 (by decide +kernel))) (ni_muP (ni_eqPush fun _ => rfl)) <|
  ni_row (ni_ret ni_dL_addFlow_20) ni_muR <|
  ni_row0
def ni_pr69 : List (Nat × ni_S) := [(0, ni_sLd 3 6 2),
  (2, ni_sP (ni_gPush (.int 0) 3)),
  (3, ni_sLd 3 0 4),
  (4, ni_sLd 0 1 5),
  (5, ni_sLd 0 2 6),
  (6, ni_sLd 0 3 7),
  (7, ni_sLd 0 4 9),
  (9, ni_sLd 0 5 11),
  (11, ni_sVX 2 5 10 "java/lang/IndexOutOfBoundsException" 21 7 14),
  (21, ni_sP (ni_gPush (.int 1) 22)),
  (22, ni_sR (some .int))]
theorem ni_pk69 : ∀ r ∈ ni_pr69, ni_Ok xs yL_addLink cL_addLink 8 (some .int) [(0, 16, 19, 19), (0, 16, 23, 21), (0, 16, 27, 13)] r.1 r.2 ∧ ni_MU r.2 := ni_row (ni_aload ni_dL_addLink_0) ni_muLd <|
  ni_row (ni_okP (ni_iconst ni_dL_addLink_2 (by decide +kernel))) (ni_muP (ni_eqPush fun _ => rfl)) <|
  ni_row (ni_aloadn ni_dL_addLink_3 rfl) ni_muLd <|
  ni_row (ni_iloadn ni_dL_addLink_4 rfl) ni_muLd <|
  ni_row (ni_iloadn ni_dL_addLink_5 rfl) ni_muLd <|
  ni_row (ni_iloadn ni_dL_addLink_6 rfl) ni_muLd <|
  ni_row (ni_iload ni_dL_addLink_7) ni_muLd <|
  ni_row (ni_iload ni_dL_addLink_9) ni_muLd <|
  ni_row (ni_virtX (j := 0) (y := 2) (T := TX11) ni_dL_addLink_11 (by decide) rfl rfl ni_w708 ni_w709 ni_w710 ni_w61 ni_w711 ⟨by decide +kernel, by decide +kernel, by decide +kernel⟩ (by decide) rfl (by decide) (by decide) ni_w706 (by decide) (Or.inr ⟨ni_dL_addLink_19, rfl⟩) (by decide)) (ni_muVX (by decide)) <|
  ni_row (ni_okP (ni_iconst ni_dL_addLink_21 (by decide +kernel))) (ni_muP (ni_eqPush fun _ => rfl)) <|
  ni_row (ni_ret ni_dL_addLink_22) ni_muR <|
  ni_row0
def ni_pr70 : List (Nat × ni_S) := [(0, ni_sLd 3 4 2),
  (2, ni_sP (ni_gPush (.int 0) 3)),
  (3, ni_sLd 3 0 4),
  (4, ni_sLd 0 1 5),
  (5, ni_sLd 0 2 6),
  (6, ni_sLd 0 3 7),
  (7, ni_sVX 3 3 10 "java/lang/IndexOutOfBoundsException" 17 5 10),
  (17, ni_sP (ni_gPush (.int 1) 18)),
  (18, ni_sR (some .int))]
theorem ni_pk70 : ∀ r ∈ ni_pr70, ni_Ok xs yL_addNetwork cL_addNetwork 6 (some .int) [(0, 12, 15, 19), (0, 12, 19, 21), (0, 12, 23, 13)] r.1 r.2 ∧ ni_MU r.2 := ni_row (ni_aload ni_dL_addNetwork_0) ni_muLd <|
  ni_row (ni_okP (ni_iconst ni_dL_addNetwork_2 (by decide +kernel))) (ni_muP (ni_eqPush fun _ => rfl)) <|
  ni_row (ni_aloadn ni_dL_addNetwork_3 rfl) ni_muLd <|
  ni_row (ni_iloadn ni_dL_addNetwork_4 rfl) ni_muLd <|
  ni_row (ni_iloadn ni_dL_addNetwork_5 rfl) ni_muLd <|
  ni_row (ni_iloadn ni_dL_addNetwork_6 rfl) ni_muLd <|
  ni_row (ni_virtX (j := 0) (y := 3) (T := TX11) ni_dL_addNetwork_7 (by decide) rfl rfl ni_w855 ni_w856 ni_w857 ni_w61 ni_w858 ⟨by decide +kernel, by decide +kernel, by decide +kernel⟩ (by decide) rfl (by decide) (by decide) ni_w706 (by decide) (Or.inr ⟨ni_dL_addNetwork_15, rfl⟩) (by decide)) (ni_muVX (by decide)) <|
  ni_row (ni_okP (ni_iconst ni_dL_addNetwork_17 (by decide +kernel))) (ni_muP (ni_eqPush fun _ => rfl)) <|
  ni_row (ni_ret ni_dL_addNetwork_18) ni_muR <|
  ni_row0
def ni_pr71 : List (Nat × ni_S) := [(0, ni_sLd 3 1 1),
  (1, ni_sP (ni_gPush (.int 0) 2)),
  (2, ni_sLd 3 0 3),
  (3, ni_sVX 4 0 10 "java/lang/IllegalStateException" 12 2 6),
  (6, ni_sP (ni_gU (fun x => .long x.toInt64) 7)),
  (7, ni_sAst .long 1 8),
  (8, ni_sP (ni_gGo 14)),
  (14, ni_sP (ni_gPush (.int 0) 15)),
  (15, ni_sR (some .int))]
theorem ni_pk71 : ∀ r ∈ ni_pr71, ni_Ok xs yL_addRouter cL_addRouter 3 (some .int) [(0, 8, 11, 13)] r.1 r.2 ∧ ni_MU r.2 := ni_row (ni_aloadn ni_dL_addRouter_0 rfl) ni_muLd <|
  ni_row (ni_okP (ni_iconst ni_dL_addRouter_1 (by decide +kernel))) (ni_muP (ni_eqPush fun _ => rfl)) <|
  ni_row (ni_aloadn ni_dL_addRouter_2 rfl) ni_muLd <|
  ni_row (ni_virtX (y := 4) (T := TX11) ni_dL_addRouter_3 (by decide) rfl rfl ni_w627 ni_w628 ni_w629 ni_w61 ni_w630 ⟨by decide +kernel, by decide +kernel, by decide +kernel⟩ (by decide) rfl (by decide) (by decide) ni_w626 (by decide) (Or.inl ⟨ni_dL_addRouter_11, rfl, rfl⟩) (by decide)) (ni_muVX (by decide)) <|
  ni_row (ni_okP (ni_i2l ni_dL_addRouter_6)) (ni_muP (ni_eqU fun _ _ => rfl)) <|
  ni_row (ni_last ni_dL_addRouter_7) ni_muAst <|
  ni_row (ni_okP (ni_goto ni_dL_addRouter_8 (by decide))) (ni_muP ni_eqGo) <|
  ni_row (ni_okP (ni_iconst ni_dL_addRouter_14 (by decide +kernel))) (ni_muP (ni_eqPush fun _ => rfl)) <|
  ni_row (ni_ret ni_dL_addRouter_15) ni_muR <|
  ni_row0
def ni_pr72 : List (Nat × ni_S) := [(0, ni_sLd 3 5 2),
  (2, ni_sP (ni_gPush (.int 0) 3)),
  (3, ni_sLd 3 0 4),
  (4, ni_sLd 0 1 5),
  (5, ni_sLd 0 2 6),
  (6, ni_sLd 0 3 7),
  (7, ni_sLd 0 4 9),
  (9, ni_sVX 5 4 10 "java/lang/IndexOutOfBoundsException" 19 6 12),
  (19, ni_sP (ni_gPush (.int 1) 20)),
  (20, ni_sR (some .int))]
theorem ni_pk72 : ∀ r ∈ ni_pr72, ni_Ok xs yL_addStatic cL_addStatic 7 (some .int) [(0, 14, 17, 19), (0, 14, 21, 21), (0, 14, 25, 13)] r.1 r.2 ∧ ni_MU r.2 := ni_row (ni_aload ni_dL_addStatic_0) ni_muLd <|
  ni_row (ni_okP (ni_iconst ni_dL_addStatic_2 (by decide +kernel))) (ni_muP (ni_eqPush fun _ => rfl)) <|
  ni_row (ni_aloadn ni_dL_addStatic_3 rfl) ni_muLd <|
  ni_row (ni_iloadn ni_dL_addStatic_4 rfl) ni_muLd <|
  ni_row (ni_iloadn ni_dL_addStatic_5 rfl) ni_muLd <|
  ni_row (ni_iloadn ni_dL_addStatic_6 rfl) ni_muLd <|
  ni_row (ni_iload ni_dL_addStatic_7) ni_muLd <|
  ni_row (ni_virtX (j := 0) (y := 5) (T := TX11) ni_dL_addStatic_9 (by decide) rfl rfl ni_w905 ni_w906 ni_w907 ni_w61 ni_w908 ⟨by decide +kernel, by decide +kernel, by decide +kernel⟩ (by decide) rfl (by decide) (by decide) ni_w706 (by decide) (Or.inr ⟨ni_dL_addStatic_17, rfl⟩) (by decide)) (ni_muVX (by decide)) <|
  ni_row (ni_okP (ni_iconst ni_dL_addStatic_19 (by decide +kernel))) (ni_muP (ni_eqPush fun _ => rfl)) <|
  ni_row (ni_ret ni_dL_addStatic_20) ni_muR <|
  ni_row0
def ni_pr73 : List (Nat × ni_S) := [(0, ni_sLd 3 4 2),
  (2, ni_sP (ni_gPush (.int 0) 3)),
  (3, ni_sLd 3 0 4),
  (4, ni_sLd 0 1 5),
  (5, ni_sLd 0 2 6),
  (6, ni_sLd 0 3 7),
  (7, ni_sVX 11 3 10 "java/lang/IndexOutOfBoundsException" 17 5 10),
  (17, ni_sP (ni_gPush (.int 1) 18)),
  (18, ni_sR (some .int))]
theorem ni_pk73 : ∀ r ∈ ni_pr73, ni_Ok xs yL_deficit cL_deficit 6 (some .int) [(0, 12, 15, 19)] r.1 r.2 ∧ ni_MU r.2 := ni_row (ni_aload ni_dL_deficit_0) ni_muLd <|
  ni_row (ni_okP (ni_iconst ni_dL_deficit_2 (by decide +kernel))) (ni_muP (ni_eqPush fun _ => rfl)) <|
  ni_row (ni_aloadn ni_dL_deficit_3 rfl) ni_muLd <|
  ni_row (ni_iloadn ni_dL_deficit_4 rfl) ni_muLd <|
  ni_row (ni_iloadn ni_dL_deficit_5 rfl) ni_muLd <|
  ni_row (ni_iloadn ni_dL_deficit_6 rfl) ni_muLd <|
  ni_row (ni_virtX (j := 0) (y := 11) (T := TX11) ni_dL_deficit_7 (by decide) rfl rfl ni_w1244 ni_w1245 ni_w1246 ni_w61 ni_w1247 ⟨by decide +kernel, by decide +kernel, by decide +kernel⟩ (by decide) rfl (by decide) (by decide) ni_w706 (by decide) (Or.inr ⟨ni_dL_deficit_15, rfl⟩) (by decide)) (ni_muVX (by decide)) <|
  ni_row (ni_okP (ni_iconst ni_dL_deficit_17 (by decide +kernel))) (ni_muP (ni_eqPush fun _ => rfl)) <|
  ni_row (ni_ret ni_dL_deficit_18) ni_muR <|
  ni_row0
def ni_pr74 : List (Nat × ni_S) := [(0, ni_sLd 3 2 1),
  (1, ni_sP (ni_gPush (.int 0) 2)),
  (2, ni_sLd 3 0 3),
  (3, ni_sLd 0 1 4),
  (4, ni_sVX 12 1 10 "java/lang/IndexOutOfBoundsException" 13 3 7),
  (13, ni_sP (ni_gPush (.int 1) 14)),
  (14, ni_sR (some .int))]
theorem ni_pk74 : ∀ r ∈ ni_pr74, ni_Ok xs yL_delivered cL_delivered 4 (some .int) [(0, 9, 12, 19)] r.1 r.2 ∧ ni_MU r.2 := ni_row (ni_aloadn ni_dL_delivered_0 rfl) ni_muLd <|
  ni_row (ni_okP (ni_iconst ni_dL_delivered_1 (by decide +kernel))) (ni_muP (ni_eqPush fun _ => rfl)) <|
  ni_row (ni_aloadn ni_dL_delivered_2 rfl) ni_muLd <|
  ni_row (ni_iloadn ni_dL_delivered_3 rfl) ni_muLd <|
  ni_row (ni_virtX (y := 12) (T := TX11) ni_dL_delivered_4 (by decide) rfl rfl ni_w1279 ni_w1280 ni_w1281 ni_w61 ni_w1282 ⟨by decide +kernel, by decide +kernel, by decide +kernel⟩ (by decide) rfl (by decide) (by decide) ni_w706 (by decide) (Or.inl ⟨ni_dL_delivered_12, rfl, rfl⟩) (by decide)) (ni_muVX (by decide)) <|
  ni_row (ni_okP (ni_iconst ni_dL_delivered_13 (by decide +kernel))) (ni_muP (ni_eqPush fun _ => rfl)) <|
  ni_row (ni_ret ni_dL_delivered_14) ni_muR <|
  ni_row0
def ni_pr75 : List (Nat × ni_S) := [(0, ni_sLd 3 3 1),
  (1, ni_sP (ni_gPush (.int 0) 2)),
  (2, ni_sLd 3 0 3),
  (3, ni_sLd 0 1 4),
  (4, ni_sLd 0 2 5),
  (5, ni_sVX 13 2 10 "java/lang/IndexOutOfBoundsException" 15 4 8),
  (15, ni_sP (ni_gPush (.int 1) 16)),
  (16, ni_sR (some .int))]
theorem ni_pk75 : ∀ r ∈ ni_pr75, ni_Ok xs yL_deliveredIn cL_deliveredIn 5 (some .int) [(0, 10, 13, 19), (0, 10, 17, 21)] r.1 r.2 ∧ ni_MU r.2 := ni_row (ni_aloadn ni_dL_deliveredIn_0 rfl) ni_muLd <|
  ni_row (ni_okP (ni_iconst ni_dL_deliveredIn_1 (by decide +kernel))) (ni_muP (ni_eqPush fun _ => rfl)) <|
  ni_row (ni_aloadn ni_dL_deliveredIn_2 rfl) ni_muLd <|
  ni_row (ni_iloadn ni_dL_deliveredIn_3 rfl) ni_muLd <|
  ni_row (ni_iloadn ni_dL_deliveredIn_4 rfl) ni_muLd <|
  ni_row (ni_virtX (j := 0) (y := 13) (T := TX11) ni_dL_deliveredIn_5 (by decide) rfl rfl ni_w1314 ni_w1315 ni_w1316 ni_w61 ni_w1317 ⟨by decide +kernel, by decide +kernel, by decide +kernel⟩ (by decide) rfl (by decide) (by decide) ni_w706 (by decide) (Or.inr ⟨ni_dL_deliveredIn_13, rfl⟩) (by decide)) (ni_muVX (by decide)) <|
  ni_row (ni_okP (ni_iconst ni_dL_deliveredIn_15 (by decide +kernel))) (ni_muP (ni_eqPush fun _ => rfl)) <|
  ni_row (ni_ret ni_dL_deliveredIn_16) ni_muR <|
  ni_row0
def ni_pr76 : List (Nat × ni_S) := [(0, ni_sLd 3 3 1),
  (1, ni_sP (ni_gPush (.int 0) 2)),
  (2, ni_sLd 3 0 3),
  (3, ni_sLd 0 1 4),
  (4, ni_sLd 0 2 5),
  (5, ni_sVX 15 2 10 "java/lang/IndexOutOfBoundsException" 15 4 8),
  (15, ni_sP (ni_gPush (.int 1) 16)),
  (16, ni_sR (some .int))]
theorem ni_pk76 : ∀ r ∈ ni_pr76, ni_Ok xs yL_distance cL_distance 5 (some .int) [(0, 10, 13, 19)] r.1 r.2 ∧ ni_MU r.2 := ni_row (ni_aloadn ni_dL_distance_0 rfl) ni_muLd <|
  ni_row (ni_okP (ni_iconst ni_dL_distance_1 (by decide +kernel))) (ni_muP (ni_eqPush fun _ => rfl)) <|
  ni_row (ni_aloadn ni_dL_distance_2 rfl) ni_muLd <|
  ni_row (ni_iloadn ni_dL_distance_3 rfl) ni_muLd <|
  ni_row (ni_iloadn ni_dL_distance_4 rfl) ni_muLd <|
  ni_row (ni_virtX (j := 0) (y := 15) (T := TX11) ni_dL_distance_5 (by decide) rfl rfl ni_w1147 ni_w1148 ni_w1149 ni_w61 ni_w1150 ⟨by decide +kernel, by decide +kernel, by decide +kernel⟩ (by decide) rfl (by decide) (by decide) ni_w706 (by decide) (Or.inr ⟨ni_dL_distance_13, rfl⟩) (by decide)) (ni_muVX (by decide)) <|
  ni_row (ni_okP (ni_iconst ni_dL_distance_15 (by decide +kernel))) (ni_muP (ni_eqPush fun _ => rfl)) <|
  ni_row (ni_ret ni_dL_distance_16) ni_muR <|
  ni_row0
def ni_pr77 : List (Nat × ni_S) := [(0, ni_sLd 3 2 1),
  (1, ni_sP (ni_gPush (.int 0) 2)),
  (2, ni_sLd 3 0 3),
  (3, ni_sLd 0 1 4),
  (4, ni_sVX 16 1 10 "java/lang/IndexOutOfBoundsException" 13 3 7),
  (13, ni_sP (ni_gPush (.int 1) 14)),
  (14, ni_sR (some .int))]
theorem ni_pk77 : ∀ r ∈ ni_pr77, ni_Ok xs yL_dropNetwork cL_dropNetwork 4 (some .int) [(0, 9, 12, 19)] r.1 r.2 ∧ ni_MU r.2 := ni_row (ni_aloadn ni_dL_dropNetwork_0 rfl) ni_muLd <|
  ni_row (ni_okP (ni_iconst ni_dL_dropNetwork_1 (by decide +kernel))) (ni_muP (ni_eqPush fun _ => rfl)) <|
  ni_row (ni_aloadn ni_dL_dropNetwork_2 rfl) ni_muLd <|
  ni_row (ni_iloadn ni_dL_dropNetwork_3 rfl) ni_muLd <|
  ni_row (ni_virtX (y := 16) (T := TX11) ni_dL_dropNetwork_4 (by decide) rfl rfl ni_w890 ni_w891 ni_w892 ni_w61 ni_w893 ⟨by decide +kernel, by decide +kernel, by decide +kernel⟩ (by decide) rfl (by decide) (by decide) ni_w706 (by decide) (Or.inl ⟨ni_dL_dropNetwork_12, rfl, rfl⟩) (by decide)) (ni_muVX (by decide)) <|
  ni_row (ni_okP (ni_iconst ni_dL_dropNetwork_13 (by decide +kernel))) (ni_muP (ni_eqPush fun _ => rfl)) <|
  ni_row (ni_ret ni_dL_dropNetwork_14) ni_muR <|
  ni_row0
def ni_pr78 : List (Nat × ni_S) := [(0, ni_sLd 3 2 1),
  (1, ni_sP (ni_gPush (.int 0) 2)),
  (2, ni_sLd 3 0 3),
  (3, ni_sLd 0 1 4),
  (4, ni_sVX 17 1 10 "java/lang/IndexOutOfBoundsException" 13 3 7),
  (13, ni_sP (ni_gPush (.int 1) 14)),
  (14, ni_sR (some .int))]
theorem ni_pk78 : ∀ r ∈ ni_pr78, ni_Ok xs yL_dropStatic cL_dropStatic 4 (some .int) [(0, 9, 12, 19)] r.1 r.2 ∧ ni_MU r.2 := ni_row (ni_aloadn ni_dL_dropStatic_0 rfl) ni_muLd <|
  ni_row (ni_okP (ni_iconst ni_dL_dropStatic_1 (by decide +kernel))) (ni_muP (ni_eqPush fun _ => rfl)) <|
  ni_row (ni_aloadn ni_dL_dropStatic_2 rfl) ni_muLd <|
  ni_row (ni_iloadn ni_dL_dropStatic_3 rfl) ni_muLd <|
  ni_row (ni_virtX (y := 17) (T := TX11) ni_dL_dropStatic_4 (by decide) rfl rfl ni_w919 ni_w920 ni_w921 ni_w61 ni_w922 ⟨by decide +kernel, by decide +kernel, by decide +kernel⟩ (by decide) rfl (by decide) (by decide) ni_w706 (by decide) (Or.inl ⟨ni_dL_dropStatic_12, rfl, rfl⟩) (by decide)) (ni_muVX (by decide)) <|
  ni_row (ni_okP (ni_iconst ni_dL_dropStatic_13 (by decide +kernel))) (ni_muP (ni_eqPush fun _ => rfl)) <|
  ni_row (ni_ret ni_dL_dropStatic_14) ni_muR <|
  ni_row0
def ni_pr79 : List (Nat × ni_S) := [(0, ni_sLd 3 3 1),
  (1, ni_sP (ni_gPush (.int 0) 2)),
  (2, ni_sLd 3 0 3),
  (3, ni_sLd 0 1 4),
  (4, ni_sLd 0 2 5),
  (5, ni_sVX 18 2 10 "java/lang/IndexOutOfBoundsException" 15 4 8),
  (15, ni_sP (ni_gPush (.int 1) 16)),
  (16, ni_sR (some .int))]
theorem ni_pk79 : ∀ r ∈ ni_pr79, ni_Ok xs yL_dropped cL_dropped 5 (some .int) [(0, 10, 13, 19)] r.1 r.2 ∧ ni_MU r.2 := ni_row (ni_aloadn ni_dL_dropped_0 rfl) ni_muLd <|
  ni_row (ni_okP (ni_iconst ni_dL_dropped_1 (by decide +kernel))) (ni_muP (ni_eqPush fun _ => rfl)) <|
  ni_row (ni_aloadn ni_dL_dropped_2 rfl) ni_muLd <|
  ni_row (ni_iloadn ni_dL_dropped_3 rfl) ni_muLd <|
  ni_row (ni_iloadn ni_dL_dropped_4 rfl) ni_muLd <|
  ni_row (ni_virtX (j := 0) (y := 18) (T := TX11) ni_dL_dropped_5 (by decide) rfl rfl ni_w1286 ni_w1287 ni_w1288 ni_w61 ni_w1289 ⟨by decide +kernel, by decide +kernel, by decide +kernel⟩ (by decide) rfl (by decide) (by decide) ni_w706 (by decide) (Or.inr ⟨ni_dL_dropped_13, rfl⟩) (by decide)) (ni_muVX (by decide)) <|
  ni_row (ni_okP (ni_iconst ni_dL_dropped_15 (by decide +kernel))) (ni_muP (ni_eqPush fun _ => rfl)) <|
  ni_row (ni_ret ni_dL_dropped_16) ni_muR <|
  ni_row0
def ni_pr80 : List (Nat × ni_S) := [(0, ni_sLd 3 2 1),
  (1, ni_sP (ni_gPush (.int 0) 2)),
  (2, ni_sLd 3 0 3),
  (3, ni_sLd 0 1 4),
  (4, ni_sVX 19 1 10 "java/lang/IndexOutOfBoundsException" 13 3 7),
  (13, ni_sP (ni_gPush (.int 1) 14)),
  (14, ni_sR (some .int))]
theorem ni_pk80 : ∀ r ∈ ni_pr80, ni_Ok xs yL_entries cL_entries 4 (some .int) [(0, 9, 12, 19)] r.1 r.2 ∧ ni_MU r.2 := ni_row (ni_aloadn ni_dL_entries_0 rfl) ni_muLd <|
  ni_row (ni_okP (ni_iconst ni_dL_entries_1 (by decide +kernel))) (ni_muP (ni_eqPush fun _ => rfl)) <|
  ni_row (ni_aloadn ni_dL_entries_2 rfl) ni_muLd <|
  ni_row (ni_iloadn ni_dL_entries_3 rfl) ni_muLd <|
  ni_row (ni_virtX (y := 19) (T := TX11) ni_dL_entries_4 (by decide) rfl rfl ni_w1161 ni_w1162 ni_w1163 ni_w61 ni_w1164 ⟨by decide +kernel, by decide +kernel, by decide +kernel⟩ (by decide) rfl (by decide) (by decide) ni_w706 (by decide) (Or.inl ⟨ni_dL_entries_12, rfl, rfl⟩) (by decide)) (ni_muVX (by decide)) <|
  ni_row (ni_okP (ni_iconst ni_dL_entries_13 (by decide +kernel))) (ni_muP (ni_eqPush fun _ => rfl)) <|
  ni_row (ni_ret ni_dL_entries_14) ni_muR <|
  ni_row0
def ni_pr81 : List (Nat × ni_S) := [(0, ni_sLd 3 3 1),
  (1, ni_sP (ni_gPush (.int 0) 2)),
  (2, ni_sLd 3 0 3),
  (3, ni_sLd 0 1 4),
  (4, ni_sLd 0 2 5),
  (5, ni_sVX 20 2 10 "java/lang/IndexOutOfBoundsException" 15 4 8),
  (15, ni_sP (ni_gPush (.int 1) 16)),
  (16, ni_sR (some .int))]
theorem ni_pk81 : ∀ r ∈ ni_pr81, ni_Ok xs yL_firstLinks cL_firstLinks 5 (some .int) [(0, 10, 13, 19)] r.1 r.2 ∧ ni_MU r.2 := ni_row (ni_aloadn ni_dL_firstLinks_0 rfl) ni_muLd <|
  ni_row (ni_okP (ni_iconst ni_dL_firstLinks_1 (by decide +kernel))) (ni_muP (ni_eqPush fun _ => rfl)) <|
  ni_row (ni_aloadn ni_dL_firstLinks_2 rfl) ni_muLd <|
  ni_row (ni_iloadn ni_dL_firstLinks_3 rfl) ni_muLd <|
  ni_row (ni_iloadn ni_dL_firstLinks_4 rfl) ni_muLd <|
  ni_row (ni_virtX (j := 0) (y := 20) (T := TX11) ni_dL_firstLinks_5 (by decide) rfl rfl ni_w1154 ni_w1155 ni_w1156 ni_w61 ni_w1157 ⟨by decide +kernel, by decide +kernel, by decide +kernel⟩ (by decide) rfl (by decide) (by decide) ni_w706 (by decide) (Or.inr ⟨ni_dL_firstLinks_13, rfl⟩) (by decide)) (ni_muVX (by decide)) <|
  ni_row (ni_okP (ni_iconst ni_dL_firstLinks_15 (by decide +kernel))) (ni_muP (ni_eqPush fun _ => rfl)) <|
  ni_row (ni_ret ni_dL_firstLinks_16) ni_muR <|
  ni_row0
def ni_pr82 : List (Nat × ni_S) := [(0, ni_sLd 3 3 1),
  (1, ni_sP (ni_gPush (.int 0) 2)),
  (2, ni_sLd 3 0 3),
  (3, ni_sLd 0 1 4),
  (4, ni_sLd 0 2 5),
  (5, ni_sVX 22 2 10 "java/lang/IndexOutOfBoundsException" 15 4 8),
  (15, ni_sP (ni_gPush (.int 1) 16)),
  (16, ni_sR (some .int))]
theorem ni_pk82 : ∀ r ∈ ni_pr82, ni_Ok xs yL_found cL_found 5 (some .int) [(0, 10, 13, 19), (0, 10, 17, 21)] r.1 r.2 ∧ ni_MU r.2 := ni_row (ni_aloadn ni_dL_found_0 rfl) ni_muLd <|
  ni_row (ni_okP (ni_iconst ni_dL_found_1 (by decide +kernel))) (ni_muP (ni_eqPush fun _ => rfl)) <|
  ni_row (ni_aloadn ni_dL_found_2 rfl) ni_muLd <|
  ni_row (ni_iloadn ni_dL_found_3 rfl) ni_muLd <|
  ni_row (ni_iloadn ni_dL_found_4 rfl) ni_muLd <|
  ni_row (ni_virtX (j := 0) (y := 22) (T := TX11) ni_dL_found_5 (by decide) rfl rfl ni_w1193 ni_w1194 ni_w1195 ni_w61 ni_w1196 ⟨by decide +kernel, by decide +kernel, by decide +kernel⟩ (by decide) rfl (by decide) (by decide) ni_w706 (by decide) (Or.inr ⟨ni_dL_found_13, rfl⟩) (by decide)) (ni_muVX (by decide)) <|
  ni_row (ni_okP (ni_iconst ni_dL_found_15 (by decide +kernel))) (ni_muP (ni_eqPush fun _ => rfl)) <|
  ni_row (ni_ret ni_dL_found_16) ni_muR <|
  ni_row0
def ni_pr83 : List (Nat × ni_S) := [(0, ni_sLd 3 2 1),
  (1, ni_sP (ni_gPush (.int 0) 2)),
  (2, ni_sLd 3 0 3),
  (3, ni_sLd 0 1 4),
  (4, ni_sVX 24 1 10 "java/lang/IndexOutOfBoundsException" 20 3 7),
  (20, ni_sP (ni_gPush (.int 1) 21)),
  (21, ni_sR (some .int))]
theorem ni_pk83 : ∀ r ∈ ni_pr83, ni_Ok xs yL_isUp cL_isUp 4 (some .int) [(0, 16, 19, 19)] r.1 r.2 ∧ ni_MU r.2 := ni_row (ni_aloadn ni_dL_isUp_0 rfl) ni_muLd <|
  ni_row (ni_okP (ni_iconst ni_dL_isUp_1 (by decide +kernel))) (ni_muP (ni_eqPush fun _ => rfl)) <|
  ni_row (ni_aloadn ni_dL_isUp_2 rfl) ni_muLd <|
  ni_row (ni_iloadn ni_dL_isUp_3 rfl) ni_muLd <|
  ni_row (ni_virtX (y := 24) (T := TX11) ni_dL_isUp_4 (by decide) rfl rfl ni_w1133 ni_w1134 ni_w1135 ni_w61 ni_w1136 ⟨by decide +kernel, by decide +kernel, by decide +kernel⟩ (by decide) rfl (by decide) (by decide) ni_w706 (by decide) (Or.inl ⟨ni_dL_isUp_19, rfl, rfl⟩) (by decide)) (ni_muVX (by decide)) <|
  ni_row (ni_okP (ni_iconst ni_dL_isUp_20 (by decide +kernel))) (ni_muP (ni_eqPush fun _ => rfl)) <|
  ni_row (ni_ret ni_dL_isUp_21) ni_muR <|
  ni_row0
def ni_pr84 : List (Nat × ni_S) := [(0, ni_sLd 3 2 1),
  (1, ni_sP (ni_gPush (.int 0) 2)),
  (2, ni_sLd 3 0 3),
  (3, ni_sLd 0 1 4),
  (4, ni_sVX 25 1 10 "java/lang/IndexOutOfBoundsException" 13 3 7),
  (13, ni_sP (ni_gPush (.int 1) 14)),
  (14, ni_sR (some .int))]
theorem ni_pk84 : ∀ r ∈ ni_pr84, ni_Ok xs yL_latest cL_latest 4 (some .int) [(0, 9, 12, 19)] r.1 r.2 ∧ ni_MU r.2 := ni_row (ni_aloadn ni_dL_latest_0 rfl) ni_muLd <|
  ni_row (ni_okP (ni_iconst ni_dL_latest_1 (by decide +kernel))) (ni_muP (ni_eqPush fun _ => rfl)) <|
  ni_row (ni_aloadn ni_dL_latest_2 rfl) ni_muLd <|
  ni_row (ni_iloadn ni_dL_latest_3 rfl) ni_muLd <|
  ni_row (ni_virtX (y := 25) (T := TX11) ni_dL_latest_4 (by decide) rfl rfl ni_w1293 ni_w1294 ni_w1295 ni_w61 ni_w1296 ⟨by decide +kernel, by decide +kernel, by decide +kernel⟩ (by decide) rfl (by decide) (by decide) ni_w706 (by decide) (Or.inl ⟨ni_dL_latest_12, rfl, rfl⟩) (by decide)) (ni_muVX (by decide)) <|
  ni_row (ni_okP (ni_iconst ni_dL_latest_13 (by decide +kernel))) (ni_muP (ni_eqPush fun _ => rfl)) <|
  ni_row (ni_ret ni_dL_latest_14) ni_muR <|
  ni_row0
def ni_pr86 : List (Nat × ni_S) := [(0, ni_sLd 3 3 1),
  (1, ni_sP (ni_gPush (.int 0) 2)),
  (2, ni_sLd 3 0 3),
  (3, ni_sLd 0 1 4),
  (4, ni_sLd 0 2 5),
  (5, ni_sVX 26 2 10 "java/lang/IndexOutOfBoundsException" 15 4 8),
  (15, ni_sP (ni_gPush (.int 1) 16)),
  (16, ni_sR (some .int))]
theorem ni_pk86 : ∀ r ∈ ni_pr86, ni_Ok xs yL_letterOf cL_letterOf 5 (some .int) [(0, 10, 13, 19)] r.1 r.2 ∧ ni_MU r.2 := ni_row (ni_aloadn ni_dL_letterOf_0 rfl) ni_muLd <|
  ni_row (ni_okP (ni_iconst ni_dL_letterOf_1 (by decide +kernel))) (ni_muP (ni_eqPush fun _ => rfl)) <|
  ni_row (ni_aloadn ni_dL_letterOf_2 rfl) ni_muLd <|
  ni_row (ni_iloadn ni_dL_letterOf_3 rfl) ni_muLd <|
  ni_row (ni_iloadn ni_dL_letterOf_4 rfl) ni_muLd <|
  ni_row (ni_virtX (j := 0) (y := 26) (T := TX11) ni_dL_letterOf_5 (by decide) rfl rfl ni_w1140 ni_w1141 ni_w1142 ni_w61 ni_w1143 ⟨by decide +kernel, by decide +kernel, by decide +kernel⟩ (by decide) rfl (by decide) (by decide) ni_w706 (by decide) (Or.inr ⟨ni_dL_letterOf_13, rfl⟩) (by decide)) (ni_muVX (by decide)) <|
  ni_row (ni_okP (ni_iconst ni_dL_letterOf_15 (by decide +kernel))) (ni_muP (ni_eqPush fun _ => rfl)) <|
  ni_row (ni_ret ni_dL_letterOf_16) ni_muR <|
  ni_row0
end NIP
