section NIP
variable {xs : List Int32}
def ni_pr71 : List (Nat × ni_S) := [(0, ni_sLd 3 0 1),
  (1, ni_sGet 3 6 4),
  (4, ni_sGet 5 0 7),
  (7, ni_sGet 2 4 10),
  (10, ni_sLd 3 0 11),
  (11, ni_sGet 3 7 14),
  (14, ni_sGet 5 0 17),
  (17, ni_sGet 2 4 20),
  (20, ni_sP (ni_gI (fun x y => x + y) 21)),
  (21, ni_sR (some .int))]
theorem ni_pk71 : ∀ r ∈ ni_pr71, ni_Ok xs yX3_countPackets cX3_countPackets 1 (some .int) [] r.1 r.2 ∧ ni_MU r.2 := ni_row (ni_aloadn ni_dX3_countPackets_0 rfl) ni_muLd <|
  ni_row (ni_get (T := TX3) ni_dX3_countPackets_1 (by decide) rfl (by decide) ni_uX3 ni_w281) ni_muGet <|
  ni_row (ni_get (T := TX6) ni_dX3_countPackets_4 (by decide) rfl (by decide) ni_uX6 ni_w218) ni_muGet <|
  ni_row (ni_get (T := TX2) ni_dX3_countPackets_7 (by decide) rfl (by decide) ni_uX2 ni_w204) ni_muGet <|
  ni_row (ni_aloadn ni_dX3_countPackets_10 rfl) ni_muLd <|
  ni_row (ni_get (T := TX3) ni_dX3_countPackets_11 (by decide) rfl (by decide) ni_uX3 ni_w284) ni_muGet <|
  ni_row (ni_get (T := TX6) ni_dX3_countPackets_14 (by decide) rfl (by decide) ni_uX6 ni_w218) ni_muGet <|
  ni_row (ni_get (T := TX2) ni_dX3_countPackets_17 (by decide) rfl (by decide) ni_uX2 ni_w204) ni_muGet <|
  ni_row (ni_okP (ni_iadd ni_dX3_countPackets_20)) (ni_muP ni_eqI) <|
  ni_row (ni_ret ni_dX3_countPackets_21) ni_muR <|
  ni_row0
def ni_pr72 : List (Nat × ni_S) := [(0, ni_sLd 0 1 1),
  (1, ni_sLd 3 0 2),
  (2, ni_sGet 3 0 5),
  (5, ni_sP (ni_gIc (fun x y => decide (¬ x = y)) 15 8)),
  (8, ni_sLd 3 0 9),
  (9, ni_sGet 3 1 12),
  (12, ni_sP (ni_gGo 19)),
  (15, ni_sLd 3 0 16),
  (16, ni_sGet 3 0 19),
  (19, ni_sR (some .int))]
theorem ni_pk72 : ∀ r ∈ ni_pr72, ni_Ok xs yX3_otherEnd cX3_otherEnd 2 (some .int) [] r.1 r.2 ∧ ni_MU r.2 := ni_row (ni_iloadn ni_dX3_otherEnd_0 rfl) ni_muLd <|
  ni_row (ni_aloadn ni_dX3_otherEnd_1 rfl) ni_muLd <|
  ni_row (ni_get (T := TX3) ni_dX3_otherEnd_2 (by decide) rfl (by decide) ni_uX3 ni_w267) ni_muGet <|
  ni_row (ni_okP (ni_ic_ne ni_dX3_otherEnd_5 (by decide))) (ni_muP ni_eqIc) <|
  ni_row (ni_aloadn ni_dX3_otherEnd_8 rfl) ni_muLd <|
  ni_row (ni_get (T := TX3) ni_dX3_otherEnd_9 (by decide) rfl (by decide) ni_uX3 ni_w269) ni_muGet <|
  ni_row (ni_okP (ni_goto ni_dX3_otherEnd_12 (by decide))) (ni_muP ni_eqGo) <|
  ni_row (ni_aloadn ni_dX3_otherEnd_15 rfl) ni_muLd <|
  ni_row (ni_get (T := TX3) ni_dX3_otherEnd_16 (by decide) rfl (by decide) ni_uX3 ni_w267) ni_muGet <|
  ni_row (ni_ret ni_dX3_otherEnd_19) ni_muR <|
  ni_row0
def ni_pr73 : List (Nat × ni_S) := [(0, ni_sLd 0 1 1),
  (1, ni_sLd 3 0 2),
  (2, ni_sGet 3 0 5),
  (5, ni_sP (ni_gIc (fun x y => decide (¬ x = y)) 15 8)),
  (8, ni_sLd 3 0 9),
  (9, ni_sGet 3 6 12),
  (12, ni_sP (ni_gGo 19)),
  (15, ni_sLd 3 0 16),
  (16, ni_sGet 3 7 19),
  (19, ni_sR (some (.object "Switchyard$Port")))]
theorem ni_pk73 : ∀ r ∈ ni_pr73, ni_Ok xs yX3_portAt cX3_portAt 2 (some (.object "Switchyard$Port")) [] r.1 r.2 ∧ ni_MU r.2 := ni_row (ni_iloadn ni_dX3_portAt_0 rfl) ni_muLd <|
  ni_row (ni_aloadn ni_dX3_portAt_1 rfl) ni_muLd <|
  ni_row (ni_get (T := TX3) ni_dX3_portAt_2 (by decide) rfl (by decide) ni_uX3 ni_w267) ni_muGet <|
  ni_row (ni_okP (ni_ic_ne ni_dX3_portAt_5 (by decide))) (ni_muP ni_eqIc) <|
  ni_row (ni_aloadn ni_dX3_portAt_8 rfl) ni_muLd <|
  ni_row (ni_get (T := TX3) ni_dX3_portAt_9 (by decide) rfl (by decide) ni_uX3 ni_w281) ni_muGet <|
  ni_row (ni_okP (ni_goto ni_dX3_portAt_12 (by decide))) (ni_muP ni_eqGo) <|
  ni_row (ni_aloadn ni_dX3_portAt_15 rfl) ni_muLd <|
  ni_row (ni_get (T := TX3) ni_dX3_portAt_16 (by decide) rfl (by decide) ni_uX3 ni_w284) ni_muGet <|
  ni_row (ni_ret ni_dX3_portAt_19) ni_muR <|
  ni_row0
def ni_pr74 : List (Nat × ni_S) := [(0, ni_sLd 0 1 1),
  (1, ni_sLd 3 0 2),
  (2, ni_sGet 3 0 5),
  (5, ni_sP (ni_gIc (fun x y => decide (x = y)) 16 8)),
  (8, ni_sLd 0 1 9),
  (9, ni_sLd 3 0 10),
  (10, ni_sGet 3 1 13),
  (13, ni_sP (ni_gIc (fun x y => decide (¬ x = y)) 20 16)),
  (16, ni_sP (ni_gPush (.int 1) 17)),
  (17, ni_sP (ni_gGo 21)),
  (20, ni_sP (ni_gPush (.int 0) 21)),
  (21, ni_sR (some .boolean))]
theorem ni_pk74 : ∀ r ∈ ni_pr74, ni_Ok xs yX3_touches cX3_touches 2 (some .boolean) [] r.1 r.2 ∧ ni_MU r.2 := ni_row (ni_iloadn ni_dX3_touches_0 rfl) ni_muLd <|
  ni_row (ni_aloadn ni_dX3_touches_1 rfl) ni_muLd <|
  ni_row (ni_get (T := TX3) ni_dX3_touches_2 (by decide) rfl (by decide) ni_uX3 ni_w267) ni_muGet <|
  ni_row (ni_okP (ni_ic_eq ni_dX3_touches_5 (by decide))) (ni_muP ni_eqIc) <|
  ni_row (ni_iloadn ni_dX3_touches_8 rfl) ni_muLd <|
  ni_row (ni_aloadn ni_dX3_touches_9 rfl) ni_muLd <|
  ni_row (ni_get (T := TX3) ni_dX3_touches_10 (by decide) rfl (by decide) ni_uX3 ni_w269) ni_muGet <|
  ni_row (ni_okP (ni_ic_ne ni_dX3_touches_13 (by decide))) (ni_muP ni_eqIc) <|
  ni_row (ni_okP (ni_iconst ni_dX3_touches_16 (by decide +kernel))) (ni_muP (ni_eqPush fun _ => rfl)) <|
  ni_row (ni_okP (ni_goto ni_dX3_touches_17 (by decide))) (ni_muP ni_eqGo) <|
  ni_row (ni_okP (ni_iconst ni_dX3_touches_20 (by decide +kernel))) (ni_muP (ni_eqPush fun _ => rfl)) <|
  ni_row (ni_ret ni_dX3_touches_21) ni_muR <|
  ni_row0
def ni_pr75 : List (Nat × ni_S) := [(0, ni_sLd 3 0 1),
  (1, ni_sP (ni_gObj 4)),
  (4, ni_sLd 3 0 5),
  (5, ni_sP (ni_gPush (.int 8) 7)),
  (7, ni_sANew 1 10),
  (10, ni_sPut 4 4 (.array (.object "Switchyard$Router")) 13),
  (13, ni_sLd 3 0 14),
  (14, ni_sP (ni_gPush (.int 14) 16)),
  (16, ni_sANew 2 19),
  (19, ni_sPut 4 5 (.array (.object "Switchyard$Link")) 22),
  (22, ni_sLd 3 0 23),
  (23, ni_sP (ni_gPush (.int 12) 25)),
  (25, ni_sANew 3 28),
  (28, ni_sPut 4 6 (.array (.object "Switchyard$Flow")) 31),
  (31, ni_sLd 3 0 32),
  (32, ni_sNew 6 [.null, .null, .null, .int 0] 35),
  (35, ni_sP (ni_gDup 36)),
  (36, ni_sP (ni_gPush (.int 24) 38)),
  (38, ni_sI 126 1 41),
  (41, ni_sPut 4 7 (.object "Switchyard$PrefixList") 44),
  (44, ni_sLd 3 0 45),
  (45, ni_sNew 6 [.null, .null, .null, .int 0] 48),
  (48, ni_sP (ni_gDup 49)),
  (49, ni_sP (ni_gPush (.int 24) 51)),
  (51, ni_sI 126 1 54),
  (54, ni_sPut 4 8 (.object "Switchyard$PrefixList") 57),
  (57, ni_sP (ni_gPush (.int 0) 58)),
  (58, ni_sSt 0 1 59),
  (59, ni_sLd 0 1 60),
  (60, ni_sP (ni_gPush (.int 12) 62)),
  (62, ni_sP (ni_gIc (fun x y => decide (y ≤ x)) 84 65)),
  (65, ni_sLd 3 0 66),
  (66, ni_sGet 4 6 69),
  (69, ni_sLd 0 1 70),
  (70, ni_sNew 0 [.int 0, .int 0, .int 0, .int 0, .int 0, .int 0, .int 0, .int 0, .int 0, .int 0, .null, .int 0, .int 0, .int 0, .null, .int 0, .int 0, .int 0, .int 0] 73),
  (73, ni_sP (ni_gDup 74)),
  (74, ni_sI 51 0 77),
  (77, ni_sQst 78),
  (78, ni_sInc 1 (1) 81),
  (81, ni_sP (ni_gGo 59)),
  (84, ni_sP (ni_gPush (.int 0) 85)),
  (85, ni_sSt 0 1 86),
  (86, ni_sLd 0 1 87),
  (87, ni_sP (ni_gPush (.int 14) 89)),
  (89, ni_sP (ni_gIc (fun x y => decide (y ≤ x)) 111 92)),
  (92, ni_sLd 3 0 93),
  (93, ni_sGet 4 5 96),
  (96, ni_sLd 0 1 97),
  (97, ni_sNew 3 [.int 0, .int 0, .int 0, .int 0, .int 0, .int 0, .null, .null] 100),
  (100, ni_sP (ni_gDup 101)),
  (101, ni_sI 69 0 104),
  (104, ni_sQst 105),
  (105, ni_sInc 1 (1) 108),
  (108, ni_sP (ni_gGo 86)),
  (111, ni_sP (ni_gPush (.int 0) 112)),
  (112, ni_sSt 0 1 113),
  (113, ni_sLd 0 1 114),
  (114, ni_sP (ni_gPush (.int 8) 116)),
  (116, ni_sP (ni_gIc (fun x y => decide (y ≤ x)) 156 119)),
  (119, ni_sLd 3 0 120),
  (120, ni_sGet 4 4 123),
  (123, ni_sLd 0 1 124),
  (124, ni_sNew 7 [.int 0, .null, .null, .null, .null, .int 0] 127),
  (127, ni_sP (ni_gDup 128)),
  (128, ni_sLd 0 1 129),
  (129, ni_sNew 1 [.int 0, .int 0, .int 0, .null, .null] 132),
  (132, ni_sP (ni_gDup 133)),
  (133, ni_sLd 0 1 134),
  (134, ni_sP (ni_gPush (.int 0) 135)),
  (135, ni_sP (ni_gPush (.int 0) 136)),
  (136, ni_sP (ni_gPush (.int 14) 138)),
  (138, ni_sNewa 0 .int 140),
  (140, ni_sP (ni_gPush (.int 0) 141)),
  (141, ni_sNewa 0 .int 143),
  (143, ni_sI 59 5 146),
  (146, ni_sI 131 2 149),
  (149, ni_sQst 150),
  (150, ni_sInc 1 (1) 153),
  (153, ni_sP (ni_gGo 113)),
  (156, ni_sR (none))]
theorem ni_pk75 : ∀ r ∈ ni_pr75, ni_Ok xs yX4_init cX4_init 2 (none) [] r.1 r.2 ∧ ni_MU r.2 := ni_row (ni_aloadn ni_dX4_init_0 rfl) ni_muLd <|
  ni_row (ni_okP (ni_objInit ni_dX4_init_1 ni_w62 ni_w55 ni_w56)) (ni_muP ni_eqObj) <|
  ni_row (ni_aloadn ni_dX4_init_4 rfl) ni_muLd <|
  ni_row (ni_okP (ni_bipush ni_dX4_init_5 (by decide +kernel))) (ni_muP (ni_eqPush fun _ => rfl)) <|
  ni_row (ni_anew ni_dX4_init_7 rfl ni_w63 (by decide)) ni_muANew <|
  ni_row (ni_putA (T := TX4) (ty0 := tyX4) (b := true) (Or.inr ⟨rfl, rfl, rfl⟩) rfl ni_dX4_init_10 (by decide) rfl (by decide) ni_uX4 tyX4_ok nmX4 ni_w395) ni_muPut <|
  ni_row (ni_aloadn ni_dX4_init_13 rfl) ni_muLd <|
  ni_row (ni_okP (ni_bipush ni_dX4_init_14 (by decide +kernel))) (ni_muP (ni_eqPush fun _ => rfl)) <|
  ni_row (ni_anew ni_dX4_init_16 rfl ni_w65 (by decide)) ni_muANew <|
  ni_row (ni_putA (T := TX4) (ty0 := tyX4) (b := true) (Or.inr ⟨rfl, rfl, rfl⟩) rfl ni_dX4_init_19 (by decide) rfl (by decide) ni_uX4 tyX4_ok nmX4 ni_w397) ni_muPut <|
  ni_row (ni_aloadn ni_dX4_init_22 rfl) ni_muLd <|
  ni_row (ni_okP (ni_bipush ni_dX4_init_23 (by decide +kernel))) (ni_muP (ni_eqPush fun _ => rfl)) <|
  ni_row (ni_anew ni_dX4_init_25 rfl ni_w67 (by decide)) ni_muANew <|
  ni_row (ni_putA (T := TX4) (ty0 := tyX4) (b := true) (Or.inr ⟨rfl, rfl, rfl⟩) rfl ni_dX4_init_28 (by decide) rfl (by decide) ni_uX4 tyX4_ok nmX4 ni_w399) ni_muPut <|
  ni_row (ni_aloadn ni_dX4_init_31 rfl) ni_muLd <|
  ni_row (ni_new (T := TX8) (ty0 := tyX8) ni_dX4_init_32 (by decide) rfl ni_uX8 tyX8_ok rfl (by decide +kernel) ni_w69 ni_w70 ni_w30) (ni_muNew fun _ => rfl) <|
  ni_row (ni_okP (ni_dup ni_dX4_init_35)) (ni_muP ni_eqDup) <|
  ni_row (ni_okP (ni_bipush ni_dX4_init_36 (by decide +kernel))) (ni_muP (ni_eqPush fun _ => rfl)) <|
  ni_row (ni_init (y := 126) ni_dX4_init_38 rfl rfl ni_w71 ni_w72 ni_w30 ni_w73 ⟨by decide +kernel, by decide +kernel, by decide +kernel⟩ (by decide) rfl) ni_muI <|
  ni_row (ni_putA (T := TX4) (ty0 := tyX4) (b := true) (Or.inr ⟨rfl, rfl, rfl⟩) rfl ni_dX4_init_41 (by decide) rfl (by decide) ni_uX4 tyX4_ok nmX4 ni_w401) ni_muPut <|
  ni_row (ni_aloadn ni_dX4_init_44 rfl) ni_muLd <|
  ni_row (ni_new (T := TX8) (ty0 := tyX8) ni_dX4_init_45 (by decide) rfl ni_uX8 tyX8_ok rfl (by decide +kernel) ni_w69 ni_w70 ni_w30) (ni_muNew fun _ => rfl) <|
  ni_row (ni_okP (ni_dup ni_dX4_init_48)) (ni_muP ni_eqDup) <|
  ni_row (ni_okP (ni_bipush ni_dX4_init_49 (by decide +kernel))) (ni_muP (ni_eqPush fun _ => rfl)) <|
  ni_row (ni_init (y := 126) ni_dX4_init_51 rfl rfl ni_w71 ni_w72 ni_w30 ni_w73 ⟨by decide +kernel, by decide +kernel, by decide +kernel⟩ (by decide) rfl) ni_muI <|
  ni_row (ni_putA (T := TX4) (ty0 := tyX4) (b := true) (Or.inr ⟨rfl, rfl, rfl⟩) rfl ni_dX4_init_54 (by decide) rfl (by decide) ni_uX4 tyX4_ok nmX4 ni_w403) ni_muPut <|
  ni_row (ni_okP (ni_iconst ni_dX4_init_57 (by decide +kernel))) (ni_muP (ni_eqPush fun _ => rfl)) <|
  ni_row (ni_istoren ni_dX4_init_58 rfl (by decide)) ni_muSt <|
  ni_row (ni_iloadn ni_dX4_init_59 rfl) ni_muLd <|
  ni_row (ni_okP (ni_bipush ni_dX4_init_60 (by decide +kernel))) (ni_muP (ni_eqPush fun _ => rfl)) <|
  ni_row (ni_okP (ni_ic_ge ni_dX4_init_62 (by decide))) (ni_muP ni_eqIc) <|
  ni_row (ni_aloadn ni_dX4_init_65 rfl) ni_muLd <|
  ni_row (ni_get (T := TX4) ni_dX4_init_66 (by decide) rfl (by decide) ni_uX4 ni_w399) ni_muGet <|
  ni_row (ni_iloadn ni_dX4_init_69 rfl) ni_muLd <|
  ni_row (ni_new (T := TX0) (ty0 := tyX0) ni_dX4_init_70 (by decide) rfl ni_uX0 tyX0_ok rfl (by decide +kernel) ni_w67 ni_w94 ni_w31) (ni_muNew fun _ => rfl) <|
  ni_row (ni_okP (ni_dup ni_dX4_init_73)) (ni_muP ni_eqDup) <|
  ni_row (ni_initN (y := 51) (host := "Switchyard") ni_dX4_init_74 rfl rfl (by decide) ni_w96 ni_w31 ni_w97 ⟨by decide +kernel, by decide +kernel, by decide +kernel⟩ (by decide) rfl) ni_muI <|
  ni_row (ni_aast ni_dX4_init_77) ni_muQst <|
  ni_row (ni_iinc (n := 1) ni_dX4_init_78 (by decide)) ni_muInc <|
  ni_row (ni_okP (ni_goto ni_dX4_init_81 (by decide))) (ni_muP ni_eqGo) <|
  ni_row (ni_okP (ni_iconst ni_dX4_init_84 (by decide +kernel))) (ni_muP (ni_eqPush fun _ => rfl)) <|
  ni_row (ni_istoren ni_dX4_init_85 rfl (by decide)) ni_muSt <|
  ni_row (ni_iloadn ni_dX4_init_86 rfl) ni_muLd <|
  ni_row (ni_okP (ni_bipush ni_dX4_init_87 (by decide +kernel))) (ni_muP (ni_eqPush fun _ => rfl)) <|
  ni_row (ni_okP (ni_ic_ge ni_dX4_init_89 (by decide))) (ni_muP ni_eqIc) <|
  ni_row (ni_aloadn ni_dX4_init_92 rfl) ni_muLd <|
  ni_row (ni_get (T := TX4) ni_dX4_init_93 (by decide) rfl (by decide) ni_uX4 ni_w397) ni_muGet <|
  ni_row (ni_iloadn ni_dX4_init_96 rfl) ni_muLd <|
  ni_row (ni_new (T := TX3) (ty0 := tyX3) ni_dX4_init_97 (by decide) rfl ni_uX3 tyX3_ok rfl (by decide +kernel) ni_w65 ni_w178 ni_w32) (ni_muNew fun _ => rfl) <|
  ni_row (ni_okP (ni_dup ni_dX4_init_100)) (ni_muP ni_eqDup) <|
  ni_row (ni_initN (y := 69) (host := "Switchyard") ni_dX4_init_101 rfl rfl (by decide) ni_w180 ni_w32 ni_w181 ⟨by decide +kernel, by decide +kernel, by decide +kernel⟩ (by decide) rfl) ni_muI <|
  ni_row (ni_aast ni_dX4_init_104) ni_muQst <|
  ni_row (ni_iinc (n := 1) ni_dX4_init_105 (by decide)) ni_muInc <|
  ni_row (ni_okP (ni_goto ni_dX4_init_108 (by decide))) (ni_muP ni_eqGo) <|
  ni_row (ni_okP (ni_iconst ni_dX4_init_111 (by decide +kernel))) (ni_muP (ni_eqPush fun _ => rfl)) <|
  ni_row (ni_istoren ni_dX4_init_112 rfl (by decide)) ni_muSt <|
  ni_row (ni_iloadn ni_dX4_init_113 rfl) ni_muLd <|
  ni_row (ni_okP (ni_bipush ni_dX4_init_114 (by decide +kernel))) (ni_muP (ni_eqPush fun _ => rfl)) <|
  ni_row (ni_okP (ni_ic_ge ni_dX4_init_116 (by decide))) (ni_muP ni_eqIc) <|
  ni_row (ni_aloadn ni_dX4_init_119 rfl) ni_muLd <|
  ni_row (ni_get (T := TX4) ni_dX4_init_120 (by decide) rfl (by decide) ni_uX4 ni_w395) ni_muGet <|
  ni_row (ni_iloadn ni_dX4_init_123 rfl) ni_muLd <|
  ni_row (ni_new (T := TX9) (ty0 := tyX9) ni_dX4_init_124 (by decide) rfl ni_uX9 tyX9_ok rfl (by decide +kernel) ni_w63 ni_w304 ni_w35) (ni_muNew fun _ => rfl) <|
  ni_row (ni_okP (ni_dup ni_dX4_init_127)) (ni_muP ni_eqDup) <|
  ni_row (ni_iloadn ni_dX4_init_128 rfl) ni_muLd <|
  ni_row (ni_new (T := TX1) (ty0 := tyX1) ni_dX4_init_129 (by decide) rfl ni_uX1 tyX1_ok rfl (by decide +kernel) ni_w305 ni_w306 ni_w36) (ni_muNew fun _ => rfl) <|
  ni_row (ni_okP (ni_dup ni_dX4_init_132)) (ni_muP ni_eqDup) <|
  ni_row (ni_iloadn ni_dX4_init_133 rfl) ni_muLd <|
  ni_row (ni_okP (ni_iconst ni_dX4_init_134 (by decide +kernel))) (ni_muP (ni_eqPush fun _ => rfl)) <|
  ni_row (ni_okP (ni_iconst ni_dX4_init_135 (by decide +kernel))) (ni_muP (ni_eqPush fun _ => rfl)) <|
  ni_row (ni_okP (ni_bipush ni_dX4_init_136 (by decide +kernel))) (ni_muP (ni_eqPush fun _ => rfl)) <|
  ni_row (ni_newa ni_dX4_init_138 rfl rfl (by decide) ni_w93) ni_muNewa <|
  ni_row (ni_okP (ni_iconst ni_dX4_init_140 (by decide +kernel))) (ni_muP (ni_eqPush fun _ => rfl)) <|
  ni_row (ni_newa ni_dX4_init_141 rfl rfl (by decide) ni_w93) ni_muNewa <|
  ni_row (ni_init (y := 59) ni_dX4_init_143 rfl rfl ni_w307 ni_w308 ni_w36 ni_w309 ⟨by decide +kernel, by decide +kernel, by decide +kernel⟩ (by decide) rfl) ni_muI <|
  ni_row (ni_init (y := 131) ni_dX4_init_146 rfl rfl ni_w333 ni_w334 ni_w35 ni_w335 ⟨by decide +kernel, by decide +kernel, by decide +kernel⟩ (by decide) rfl) ni_muI <|
  ni_row (ni_aast ni_dX4_init_149) ni_muQst <|
  ni_row (ni_iinc (n := 1) ni_dX4_init_150 (by decide)) ni_muInc <|
  ni_row (ni_okP (ni_goto ni_dX4_init_153 (by decide))) (ni_muP ni_eqGo) <|
  ni_row (ni_ret ni_dX4_init_156) ni_muR <|
  ni_row0
def ni_pr76 : List (Nat × ni_S) := [(0, ni_sLd 3 0 1),
  (1, ni_sGet 4 5 4),
  (4, ni_sLd 0 1 5),
  (5, ni_sQld 6),
  (6, ni_sSt 3 3 7),
  (7, ni_sLd 3 3 8),
  (8, ni_sGet 3 2 11),
  (11, ni_sSt 0 4 13),
  (13, ni_sLd 3 3 14),
  (14, ni_sLd 0 2 15),
  (15, ni_sPut 3 2 (.int) 18),
  (18, ni_sLd 0 2 19),
  (19, ni_sLd 0 4 21),
  (21, ni_sP (ni_gIc (fun x y => decide (x = y)) 47 24)),
  (24, ni_sLd 3 3 25),
  (25, ni_sGet 3 5 28),
  (28, ni_sP (ni_gIf (fun x => decide (x = 0)) 47 31)),
  (31, ni_sLd 3 0 32),
  (32, ni_sLd 3 3 33),
  (33, ni_sGet 3 0 36),
  (36, ni_sV 97 1 4 39),
  (39, ni_sLd 3 0 40),
  (40, ni_sLd 3 3 41),
  (41, ni_sGet 3 1 44),
  (44, ni_sV 97 1 4 47),
  (47, ni_sLd 0 4 49),
  (49, ni_sR (some .int))]
theorem ni_pk76 : ∀ r ∈ ni_pr76, ni_Ok xs yX4_changeCost cX4_changeCost 5 (some .int) [] r.1 r.2 ∧ ni_MU r.2 := ni_row (ni_aloadn ni_dX4_changeCost_0 rfl) ni_muLd <|
  ni_row (ni_get (T := TX4) ni_dX4_changeCost_1 (by decide) rfl (by decide) ni_uX4 ni_w397) ni_muGet <|
  ni_row (ni_iloadn ni_dX4_changeCost_4 rfl) ni_muLd <|
  ni_row (ni_aald ni_dX4_changeCost_5) ni_muQld <|
  ni_row (ni_astoren ni_dX4_changeCost_6 rfl (by decide)) ni_muSt <|
  ni_row (ni_aloadn ni_dX4_changeCost_7 rfl) ni_muLd <|
  ni_row (ni_get (T := TX3) ni_dX4_changeCost_8 (by decide) rfl (by decide) ni_uX3 ni_w271) ni_muGet <|
  ni_row (ni_istore ni_dX4_changeCost_11 (by decide)) ni_muSt <|
  ni_row (ni_aloadn ni_dX4_changeCost_13 rfl) ni_muLd <|
  ni_row (ni_iloadn ni_dX4_changeCost_14 rfl) ni_muLd <|
  ni_row (ni_putA (T := TX3) (ty0 := tyX3) (b := false) (Or.inl rfl) rfl ni_dX4_changeCost_15 (by decide) rfl (by decide) ni_uX3 tyX3_ok nmX3 ni_w271) ni_muPut <|
  ni_row (ni_iloadn ni_dX4_changeCost_18 rfl) ni_muLd <|
  ni_row (ni_iload ni_dX4_changeCost_19) ni_muLd <|
  ni_row (ni_okP (ni_ic_eq ni_dX4_changeCost_21 (by decide))) (ni_muP ni_eqIc) <|
  ni_row (ni_aloadn ni_dX4_changeCost_24 rfl) ni_muLd <|
  ni_row (ni_get (T := TX3) ni_dX4_changeCost_25 (by decide) rfl (by decide) ni_uX3 ni_w277) ni_muGet <|
  ni_row (ni_okP (ni_if_eq ni_dX4_changeCost_28 (by decide))) (ni_muP ni_eqIf) <|
  ni_row (ni_aloadn ni_dX4_changeCost_31 rfl) ni_muLd <|
  ni_row (ni_aloadn ni_dX4_changeCost_32 rfl) ni_muLd <|
  ni_row (ni_get (T := TX3) ni_dX4_changeCost_33 (by decide) rfl (by decide) ni_uX3 ni_w268) ni_muGet <|
  ni_row (ni_virt (y := 97) (T := TX4) ni_dX4_changeCost_36 (by decide) rfl rfl ni_w533 ni_w535 ni_w2 ni_w29 ni_w536 ⟨by decide +kernel, by decide +kernel, by decide +kernel⟩ (by decide) rfl) (ni_muV (by decide)) <|
  ni_row (ni_aloadn ni_dX4_changeCost_39 rfl) ni_muLd <|
  ni_row (ni_aloadn ni_dX4_changeCost_40 rfl) ni_muLd <|
  ni_row (ni_get (T := TX3) ni_dX4_changeCost_41 (by decide) rfl (by decide) ni_uX3 ni_w270) ni_muGet <|
  ni_row (ni_virt (y := 97) (T := TX4) ni_dX4_changeCost_44 (by decide) rfl rfl ni_w533 ni_w535 ni_w2 ni_w29 ni_w536 ⟨by decide +kernel, by decide +kernel, by decide +kernel⟩ (by decide) rfl) (ni_muV (by decide)) <|
  ni_row (ni_iload ni_dX4_changeCost_47) ni_muLd <|
  ni_row (ni_ret ni_dX4_changeCost_49) ni_muR <|
  ni_row0
def ni_pr77 : List (Nat × ni_S) := [(0, ni_sLd 3 0 1),
  (1, ni_sLd 3 1 2),
  (2, ni_sGet 4 0 5),
  (5, ni_sPut 4 0 (.int) 8),
  (8, ni_sLd 3 0 9),
  (9, ni_sLd 3 1 10),
  (10, ni_sGet 4 1 13),
  (13, ni_sPut 4 1 (.int) 16),
  (16, ni_sLd 3 0 17),
  (17, ni_sLd 3 1 18),
  (18, ni_sGet 4 2 21),
  (21, ni_sPut 4 2 (.int) 24),
  (24, ni_sLd 3 0 25),
  (25, ni_sLd 3 1 26),
  (26, ni_sGet 4 3 29),
  (29, ni_sPut 4 3 (.int) 32),
  (32, ni_sP (ni_gPush (.int 0) 33)),
  (33, ni_sSt 0 2 34),
  (34, ni_sLd 0 2 35),
  (35, ni_sLd 3 0 36),
  (36, ni_sGet 4 1 39),
  (39, ni_sP (ni_gIc (fun x y => decide (y ≤ x)) 63 42)),
  (42, ni_sLd 3 0 43),
  (43, ni_sGet 4 4 46),
  (46, ni_sLd 0 2 47),
  (47, ni_sQld 48),
  (48, ni_sLd 3 1 49),
  (49, ni_sGet 4 4 52),
  (52, ni_sLd 0 2 53),
  (53, ni_sQld 54),
  (54, ni_sV 132 1 7 57),
  (57, ni_sInc 2 (1) 60),
  (60, ni_sP (ni_gGo 34)),
  (63, ni_sP (ni_gPush (.int 0) 64)),
  (64, ni_sSt 0 2 65),
  (65, ni_sLd 0 2 66),
  (66, ni_sLd 3 0 67),
  (67, ni_sGet 4 2 70),
  (70, ni_sP (ni_gIc (fun x y => decide (y ≤ x)) 94 73)),
  (73, ni_sLd 3 0 74),
  (74, ni_sGet 4 5 77),
  (77, ni_sLd 0 2 78),
  (78, ni_sQld 79),
  (79, ni_sLd 3 1 80),
  (80, ni_sGet 4 5 83),
  (83, ni_sLd 0 2 84),
  (84, ni_sQld 85),
  (85, ni_sV 70 1 3 88),
  (88, ni_sInc 2 (1) 91),
  (91, ni_sP (ni_gGo 65)),
  (94, ni_sP (ni_gPush (.int 0) 95)),
  (95, ni_sSt 0 2 96),
  (96, ni_sLd 0 2 97),
  (97, ni_sLd 3 0 98),
  (98, ni_sGet 4 3 101),
  (101, ni_sP (ni_gIc (fun x y => decide (y ≤ x)) 125 104)),
  (104, ni_sLd 3 0 105),
  (105, ni_sGet 4 6 108),
  (108, ni_sLd 0 2 109),
  (109, ni_sQld 110),
  (110, ni_sLd 3 1 111),
  (111, ni_sGet 4 6 114),
  (114, ni_sLd 0 2 115),
  (115, ni_sQld 116),
  (116, ni_sV 52 1 0 119),
  (119, ni_sInc 2 (1) 122),
  (122, ni_sP (ni_gGo 96)),
  (125, ni_sLd 3 0 126),
  (126, ni_sGet 4 7 129),
  (129, ni_sLd 3 1 130),
  (130, ni_sGet 4 7 133),
  (133, ni_sV 128 1 6 136),
  (136, ni_sLd 3 0 137),
  (137, ni_sGet 4 8 140),
  (140, ni_sLd 3 1 141),
  (141, ni_sGet 4 8 144),
  (144, ni_sV 128 1 6 147),
  (147, ni_sR (none))]
theorem ni_pk77 : ∀ r ∈ ni_pr77, ni_Ok xs yX4_copyFrom cX4_copyFrom 3 (none) [] r.1 r.2 ∧ ni_MU r.2 := ni_row (ni_aloadn ni_dX4_copyFrom_0 rfl) ni_muLd <|
  ni_row (ni_aloadn ni_dX4_copyFrom_1 rfl) ni_muLd <|
  ni_row (ni_get (T := TX4) ni_dX4_copyFrom_2 (by decide) rfl (by decide) ni_uX4 ni_w388) ni_muGet <|
  ni_row (ni_putA (T := TX4) (ty0 := tyX4) (b := false) (Or.inl rfl) rfl ni_dX4_copyFrom_5 (by decide) rfl (by decide) ni_uX4 tyX4_ok nmX4 ni_w388) ni_muPut <|
  ni_row (ni_aloadn ni_dX4_copyFrom_8 rfl) ni_muLd <|
  ni_row (ni_aloadn ni_dX4_copyFrom_9 rfl) ni_muLd <|
  ni_row (ni_get (T := TX4) ni_dX4_copyFrom_10 (by decide) rfl (by decide) ni_uX4 ni_w389) ni_muGet <|
  ni_row (ni_putA (T := TX4) (ty0 := tyX4) (b := false) (Or.inl rfl) rfl ni_dX4_copyFrom_13 (by decide) rfl (by decide) ni_uX4 tyX4_ok nmX4 ni_w389) ni_muPut <|
  ni_row (ni_aloadn ni_dX4_copyFrom_16 rfl) ni_muLd <|
  ni_row (ni_aloadn ni_dX4_copyFrom_17 rfl) ni_muLd <|
  ni_row (ni_get (T := TX4) ni_dX4_copyFrom_18 (by decide) rfl (by decide) ni_uX4 ni_w391) ni_muGet <|
  ni_row (ni_putA (T := TX4) (ty0 := tyX4) (b := false) (Or.inl rfl) rfl ni_dX4_copyFrom_21 (by decide) rfl (by decide) ni_uX4 tyX4_ok nmX4 ni_w391) ni_muPut <|
  ni_row (ni_aloadn ni_dX4_copyFrom_24 rfl) ni_muLd <|
  ni_row (ni_aloadn ni_dX4_copyFrom_25 rfl) ni_muLd <|
  ni_row (ni_get (T := TX4) ni_dX4_copyFrom_26 (by decide) rfl (by decide) ni_uX4 ni_w393) ni_muGet <|
  ni_row (ni_putA (T := TX4) (ty0 := tyX4) (b := false) (Or.inl rfl) rfl ni_dX4_copyFrom_29 (by decide) rfl (by decide) ni_uX4 tyX4_ok nmX4 ni_w393) ni_muPut <|
  ni_row (ni_okP (ni_iconst ni_dX4_copyFrom_32 (by decide +kernel))) (ni_muP (ni_eqPush fun _ => rfl)) <|
  ni_row (ni_istoren ni_dX4_copyFrom_33 rfl (by decide)) ni_muSt <|
  ni_row (ni_iloadn ni_dX4_copyFrom_34 rfl) ni_muLd <|
  ni_row (ni_aloadn ni_dX4_copyFrom_35 rfl) ni_muLd <|
  ni_row (ni_get (T := TX4) ni_dX4_copyFrom_36 (by decide) rfl (by decide) ni_uX4 ni_w389) ni_muGet <|
  ni_row (ni_okP (ni_ic_ge ni_dX4_copyFrom_39 (by decide))) (ni_muP ni_eqIc) <|
  ni_row (ni_aloadn ni_dX4_copyFrom_42 rfl) ni_muLd <|
  ni_row (ni_get (T := TX4) ni_dX4_copyFrom_43 (by decide) rfl (by decide) ni_uX4 ni_w395) ni_muGet <|
  ni_row (ni_iloadn ni_dX4_copyFrom_46 rfl) ni_muLd <|
  ni_row (ni_aald ni_dX4_copyFrom_47) ni_muQld <|
  ni_row (ni_aloadn ni_dX4_copyFrom_48 rfl) ni_muLd <|
  ni_row (ni_get (T := TX4) ni_dX4_copyFrom_49 (by decide) rfl (by decide) ni_uX4 ni_w395) ni_muGet <|
  ni_row (ni_iloadn ni_dX4_copyFrom_52 rfl) ni_muLd <|
  ni_row (ni_aald ni_dX4_copyFrom_53) ni_muQld <|
  ni_row (ni_virt (y := 132) (T := TX9) ni_dX4_copyFrom_54 (by decide) rfl rfl ni_w914 ni_w915 ni_w916 ni_w35 ni_w917 ⟨by decide +kernel, by decide +kernel, by decide +kernel⟩ (by decide) rfl) (ni_muV (by decide)) <|
  ni_row (ni_iinc (n := 1) ni_dX4_copyFrom_57 (by decide)) ni_muInc <|
  ni_row (ni_okP (ni_goto ni_dX4_copyFrom_60 (by decide))) (ni_muP ni_eqGo) <|
  ni_row (ni_okP (ni_iconst ni_dX4_copyFrom_63 (by decide +kernel))) (ni_muP (ni_eqPush fun _ => rfl)) <|
  ni_row (ni_istoren ni_dX4_copyFrom_64 rfl (by decide)) ni_muSt <|
  ni_row (ni_iloadn ni_dX4_copyFrom_65 rfl) ni_muLd <|
  ni_row (ni_aloadn ni_dX4_copyFrom_66 rfl) ni_muLd <|
  ni_row (ni_get (T := TX4) ni_dX4_copyFrom_67 (by decide) rfl (by decide) ni_uX4 ni_w391) ni_muGet <|
  ni_row (ni_okP (ni_ic_ge ni_dX4_copyFrom_70 (by decide))) (ni_muP ni_eqIc) <|
  ni_row (ni_aloadn ni_dX4_copyFrom_73 rfl) ni_muLd <|
  ni_row (ni_get (T := TX4) ni_dX4_copyFrom_74 (by decide) rfl (by decide) ni_uX4 ni_w397) ni_muGet <|
  ni_row (ni_iloadn ni_dX4_copyFrom_77 rfl) ni_muLd <|
  ni_row (ni_aald ni_dX4_copyFrom_78) ni_muQld <|
  ni_row (ni_aloadn ni_dX4_copyFrom_79 rfl) ni_muLd <|
  ni_row (ni_get (T := TX4) ni_dX4_copyFrom_80 (by decide) rfl (by decide) ni_uX4 ni_w397) ni_muGet <|
  ni_row (ni_iloadn ni_dX4_copyFrom_83 rfl) ni_muLd <|
  ni_row (ni_aald ni_dX4_copyFrom_84) ni_muQld <|
  ni_row (ni_virt (y := 70) (T := TX3) ni_dX4_copyFrom_85 (by decide) rfl rfl ni_w926 ni_w927 ni_w928 ni_w32 ni_w929 ⟨by decide +kernel, by decide +kernel, by decide +kernel⟩ (by decide) rfl) (ni_muV (by decide)) <|
  ni_row (ni_iinc (n := 1) ni_dX4_copyFrom_88 (by decide)) ni_muInc <|
  ni_row (ni_okP (ni_goto ni_dX4_copyFrom_91 (by decide))) (ni_muP ni_eqGo) <|
  ni_row (ni_okP (ni_iconst ni_dX4_copyFrom_94 (by decide +kernel))) (ni_muP (ni_eqPush fun _ => rfl)) <|
  ni_row (ni_istoren ni_dX4_copyFrom_95 rfl (by decide)) ni_muSt <|
  ni_row (ni_iloadn ni_dX4_copyFrom_96 rfl) ni_muLd <|
  ni_row (ni_aloadn ni_dX4_copyFrom_97 rfl) ni_muLd <|
  ni_row (ni_get (T := TX4) ni_dX4_copyFrom_98 (by decide) rfl (by decide) ni_uX4 ni_w393) ni_muGet <|
  ni_row (ni_okP (ni_ic_ge ni_dX4_copyFrom_101 (by decide))) (ni_muP ni_eqIc) <|
  ni_row (ni_aloadn ni_dX4_copyFrom_104 rfl) ni_muLd <|
  ni_row (ni_get (T := TX4) ni_dX4_copyFrom_105 (by decide) rfl (by decide) ni_uX4 ni_w399) ni_muGet <|
  ni_row (ni_iloadn ni_dX4_copyFrom_108 rfl) ni_muLd <|
  ni_row (ni_aald ni_dX4_copyFrom_109) ni_muQld <|
  ni_row (ni_aloadn ni_dX4_copyFrom_110 rfl) ni_muLd <|
  ni_row (ni_get (T := TX4) ni_dX4_copyFrom_111 (by decide) rfl (by decide) ni_uX4 ni_w399) ni_muGet <|
  ni_row (ni_iloadn ni_dX4_copyFrom_114 rfl) ni_muLd <|
  ni_row (ni_aald ni_dX4_copyFrom_115) ni_muQld <|
  ni_row (ni_virt (y := 52) (T := TX0) ni_dX4_copyFrom_116 (by decide) rfl rfl ni_w940 ni_w941 ni_w942 ni_w31 ni_w943 ⟨by decide +kernel, by decide +kernel, by decide +kernel⟩ (by decide) rfl) (ni_muV (by decide)) <|
  ni_row (ni_iinc (n := 1) ni_dX4_copyFrom_119 (by decide)) ni_muInc <|
  ni_row (ni_okP (ni_goto ni_dX4_copyFrom_122 (by decide))) (ni_muP ni_eqGo) <|
  ni_row (ni_aloadn ni_dX4_copyFrom_125 rfl) ni_muLd <|
  ni_row (ni_get (T := TX4) ni_dX4_copyFrom_126 (by decide) rfl (by decide) ni_uX4 ni_w401) ni_muGet <|
  ni_row (ni_aloadn ni_dX4_copyFrom_129 rfl) ni_muLd <|
  ni_row (ni_get (T := TX4) ni_dX4_copyFrom_130 (by decide) rfl (by decide) ni_uX4 ni_w401) ni_muGet <|
  ni_row (ni_virt (y := 128) (T := TX8) ni_dX4_copyFrom_133 (by decide) rfl rfl ni_w945 ni_w946 ni_w947 ni_w30 ni_w948 ⟨by decide +kernel, by decide +kernel, by decide +kernel⟩ (by decide) rfl) (ni_muV (by decide)) <|
  ni_row (ni_aloadn ni_dX4_copyFrom_136 rfl) ni_muLd <|
  ni_row (ni_get (T := TX4) ni_dX4_copyFrom_137 (by decide) rfl (by decide) ni_uX4 ni_w403) ni_muGet <|
  ni_row (ni_aloadn ni_dX4_copyFrom_140 rfl) ni_muLd <|
  ni_row (ni_get (T := TX4) ni_dX4_copyFrom_141 (by decide) rfl (by decide) ni_uX4 ni_w403) ni_muGet <|
  ni_row (ni_virt (y := 128) (T := TX8) ni_dX4_copyFrom_144 (by decide) rfl rfl ni_w945 ni_w946 ni_w947 ni_w30 ni_w948 ⟨by decide +kernel, by decide +kernel, by decide +kernel⟩ (by decide) rfl) (ni_muV (by decide)) <|
  ni_row (ni_ret ni_dX4_copyFrom_147) ni_muR <|
  ni_row0
def ni_pr78 : List (Nat × ni_S) := [(0, ni_sLd 3 0 1),
  (1, ni_sGet 4 5 4),
  (4, ni_sLd 0 1 5),
  (5, ni_sQld 6),
  (6, ni_sSt 3 2 7),
  (7, ni_sLd 3 2 8),
  (8, ni_sP (ni_gPush (.int 0) 9)),
  (9, ni_sPut 3 5 (.boolean) 12),
  (12, ni_sLd 3 2 13),
  (13, ni_sGet 3 6 16),
  (16, ni_sLd 3 0 17),
  (17, ni_sGet 4 6 20),
  (20, ni_sV 112 1 5 23),
  (23, ni_sLd 3 2 24),
  (24, ni_sGet 3 7 27),
  (27, ni_sLd 3 0 28),
  (28, ni_sGet 4 6 31),
  (31, ni_sV 112 1 5 34),
  (34, ni_sLd 3 0 35),
  (35, ni_sLd 3 2 36),
  (36, ni_sGet 3 0 39),
  (39, ni_sV 97 1 4 42),
  (42, ni_sLd 3 0 43),
  (43, ni_sLd 3 2 44),
  (44, ni_sGet 3 1 47),
  (47, ni_sV 97 1 4 50),
  (50, ni_sR (none))]
theorem ni_pk78 : ∀ r ∈ ni_pr78, ni_Ok xs yX4_cut cX4_cut 3 (none) [] r.1 r.2 ∧ ni_MU r.2 := ni_row (ni_aloadn ni_dX4_cut_0 rfl) ni_muLd <|
  ni_row (ni_get (T := TX4) ni_dX4_cut_1 (by decide) rfl (by decide) ni_uX4 ni_w397) ni_muGet <|
  ni_row (ni_iloadn ni_dX4_cut_4 rfl) ni_muLd <|
  ni_row (ni_aald ni_dX4_cut_5) ni_muQld <|
  ni_row (ni_astoren ni_dX4_cut_6 rfl (by decide)) ni_muSt <|
  ni_row (ni_aloadn ni_dX4_cut_7 rfl) ni_muLd <|
  ni_row (ni_okP (ni_iconst ni_dX4_cut_8 (by decide +kernel))) (ni_muP (ni_eqPush fun _ => rfl)) <|
  ni_row (ni_putA (T := TX3) (ty0 := tyX3) (b := false) (Or.inl rfl) rfl ni_dX4_cut_9 (by decide) rfl (by decide) ni_uX3 tyX3_ok nmX3 ni_w277) ni_muPut <|
  ni_row (ni_aloadn ni_dX4_cut_12 rfl) ni_muLd <|
  ni_row (ni_get (T := TX3) ni_dX4_cut_13 (by decide) rfl (by decide) ni_uX3 ni_w282) ni_muGet <|
  ni_row (ni_aloadn ni_dX4_cut_16 rfl) ni_muLd <|
  ni_row (ni_get (T := TX4) ni_dX4_cut_17 (by decide) rfl (by decide) ni_uX4 ni_w399) ni_muGet <|
  ni_row (ni_virt (y := 112) (T := TX6) ni_dX4_cut_20 (by decide) rfl rfl ni_w585 ni_w586 ni_w587 ni_w33 ni_w588 ⟨by decide +kernel, by decide +kernel, by decide +kernel⟩ (by decide) rfl) (ni_muV (by decide)) <|
  ni_row (ni_aloadn ni_dX4_cut_23 rfl) ni_muLd <|
  ni_row (ni_get (T := TX3) ni_dX4_cut_24 (by decide) rfl (by decide) ni_uX3 ni_w285) ni_muGet <|
  ni_row (ni_aloadn ni_dX4_cut_27 rfl) ni_muLd <|
  ni_row (ni_get (T := TX4) ni_dX4_cut_28 (by decide) rfl (by decide) ni_uX4 ni_w399) ni_muGet <|
  ni_row (ni_virt (y := 112) (T := TX6) ni_dX4_cut_31 (by decide) rfl rfl ni_w585 ni_w586 ni_w587 ni_w33 ni_w588 ⟨by decide +kernel, by decide +kernel, by decide +kernel⟩ (by decide) rfl) (ni_muV (by decide)) <|
  ni_row (ni_aloadn ni_dX4_cut_34 rfl) ni_muLd <|
  ni_row (ni_aloadn ni_dX4_cut_35 rfl) ni_muLd <|
  ni_row (ni_get (T := TX3) ni_dX4_cut_36 (by decide) rfl (by decide) ni_uX3 ni_w268) ni_muGet <|
  ni_row (ni_virt (y := 97) (T := TX4) ni_dX4_cut_39 (by decide) rfl rfl ni_w533 ni_w535 ni_w2 ni_w29 ni_w536 ⟨by decide +kernel, by decide +kernel, by decide +kernel⟩ (by decide) rfl) (ni_muV (by decide)) <|
  ni_row (ni_aloadn ni_dX4_cut_42 rfl) ni_muLd <|
  ni_row (ni_aloadn ni_dX4_cut_43 rfl) ni_muLd <|
  ni_row (ni_get (T := TX3) ni_dX4_cut_44 (by decide) rfl (by decide) ni_uX3 ni_w270) ni_muGet <|
  ni_row (ni_virt (y := 97) (T := TX4) ni_dX4_cut_47 (by decide) rfl rfl ni_w533 ni_w535 ni_w2 ni_w29 ni_w536 ⟨by decide +kernel, by decide +kernel, by decide +kernel⟩ (by decide) rfl) (ni_muV (by decide)) <|
  ni_row (ni_ret ni_dX4_cut_50) ni_muR <|
  ni_row0
def ni_pr79 : List (Nat × ni_S) := [(0, ni_sLd 0 2 1),
  (1, ni_sP (ni_gPush (.int (-1)) 2)),
  (2, ni_sP (ni_gIc (fun x y => decide (¬ x = y)) 6 5)),
  (5, ni_sR (none)),
  (6, ni_sLd 3 0 7),
  (7, ni_sGet 4 6 10),
  (10, ni_sLd 0 2 11),
  (11, ni_sC 99 1 14),
  (14, ni_sQld 15),
  (15, ni_sSt 3 3 16),
  (16, ni_sLd 3 0 17),
  (17, ni_sLd 0 1 18),
  (18, ni_sLd 0 2 19),
  (19, ni_sC 99 1 22),
  (22, ni_sV 83 2 4 25),
  (25, ni_sSt 0 4 27),
  (27, ni_sLd 0 4 29),
  (29, ni_sP (ni_gPush (.int (-2)) 31)),
  (31, ni_sP (ni_gIc (fun x y => decide (¬ x = y)) 47 34)),
  (34, ni_sLd 3 3 35),
  (35, ni_sLd 0 2 36),
  (36, ni_sC 101 1 39),
  (39, ni_sLd 3 0 40),
  (40, ni_sGet 4 0 43),
  (43, ni_sV 53 2 0 46),
  (46, ni_sR (none)),
  (47, ni_sLd 0 4 49),
  (49, ni_sP (ni_gPush (.int (-1)) 50)),
  (50, ni_sP (ni_gIc (fun x y => decide (¬ x = y)) 57 53)),
  (53, ni_sP (ni_gPush (.int 1) 54)),
  (54, ni_sP (ni_gGo 70)),
  (57, ni_sLd 3 0 58),
  (58, ni_sLd 0 1 59),
  (59, ni_sLd 0 2 60),
  (60, ni_sLd 3 0 61),
  (61, ni_sGet 4 5 64),
  (64, ni_sLd 0 4 66),
  (66, ni_sQld 67),
  (67, ni_sV 91 3 4 70),
  (70, ni_sSt 0 5 72),
  (72, ni_sLd 0 5 74),
  (74, ni_sP (ni_gPush (.int (-1)) 75)),
  (75, ni_sP (ni_gIc (fun x y => decide (x = y)) 89 78)),
  (78, ni_sLd 3 3 79),
  (79, ni_sGet 0 14 82),
  (82, ni_sLd 0 5 84),
  (84, ni_sP (ni_gDup2 85)),
  (85, ni_sAld .int 0 86),
  (86, ni_sP (ni_gPush (.int 1) 87)),
  (87, ni_sP (ni_gI (fun x y => x + y) 88)),
  (88, ni_sAst .int 0 89),
  (89, ni_sR (none))]
theorem ni_pk79 : ∀ r ∈ ni_pr79, ni_Ok xs yX4_deal cX4_deal 6 (none) [] r.1 r.2 ∧ ni_MU r.2 := ni_row (ni_iloadn ni_dX4_deal_0 rfl) ni_muLd <|
  ni_row (ni_okP (ni_iconst ni_dX4_deal_1 (by decide +kernel))) (ni_muP (ni_eqPush fun _ => rfl)) <|
  ni_row (ni_okP (ni_ic_ne ni_dX4_deal_2 (by decide))) (ni_muP ni_eqIc) <|
  ni_row (ni_ret ni_dX4_deal_5) ni_muR <|
  ni_row (ni_aloadn ni_dX4_deal_6 rfl) ni_muLd <|
  ni_row (ni_get (T := TX4) ni_dX4_deal_7 (by decide) rfl (by decide) ni_uX4 ni_w399) ni_muGet <|
  ni_row (ni_iloadn ni_dX4_deal_10 rfl) ni_muLd <|
  ni_row (ni_stat (y := 99) ni_dX4_deal_11 ni_w731 ni_w593 ni_w45 ni_w594 ⟨by decide +kernel, by decide +kernel, by decide +kernel⟩ (by decide) rfl) ni_muC <|
  ni_row (ni_aald ni_dX4_deal_14) ni_muQld <|
  ni_row (ni_astoren ni_dX4_deal_15 rfl (by decide)) ni_muSt <|
  ni_row (ni_aloadn ni_dX4_deal_16 rfl) ni_muLd <|
  ni_row (ni_iloadn ni_dX4_deal_17 rfl) ni_muLd <|
  ni_row (ni_iloadn ni_dX4_deal_18 rfl) ni_muLd <|
  ni_row (ni_stat (y := 99) ni_dX4_deal_19 ni_w731 ni_w593 ni_w45 ni_w594 ⟨by decide +kernel, by decide +kernel, by decide +kernel⟩ (by decide) rfl) ni_muC <|
  ni_row (ni_virt (y := 83) (T := TX4) ni_dX4_deal_22 (by decide) rfl rfl ni_w732 ni_w733 ni_w734 ni_w29 ni_w735 ⟨by decide +kernel, by decide +kernel, by decide +kernel⟩ (by decide) rfl) (ni_muV (by decide)) <|
  ni_row (ni_istore ni_dX4_deal_25 (by decide)) ni_muSt <|
  ni_row (ni_iload ni_dX4_deal_27) ni_muLd <|
  ni_row (ni_okP (ni_bipush ni_dX4_deal_29 (by decide +kernel))) (ni_muP (ni_eqPush fun _ => rfl)) <|
  ni_row (ni_okP (ni_ic_ne ni_dX4_deal_31 (by decide))) (ni_muP ni_eqIc) <|
  ni_row (ni_aloadn ni_dX4_deal_34 rfl) ni_muLd <|
  ni_row (ni_iloadn ni_dX4_deal_35 rfl) ni_muLd <|
  ni_row (ni_stat (y := 101) ni_dX4_deal_36 ni_w759 ni_w760 ni_w45 ni_w761 ⟨by decide +kernel, by decide +kernel, by decide +kernel⟩ (by decide) rfl) ni_muC <|
  ni_row (ni_aloadn ni_dX4_deal_39 rfl) ni_muLd <|
  ni_row (ni_get (T := TX4) ni_dX4_deal_40 (by decide) rfl (by decide) ni_uX4 ni_w388) ni_muGet <|
  ni_row (ni_virt (y := 53) (T := TX0) ni_dX4_deal_43 (by decide) rfl rfl ni_w762 ni_w763 ni_w764 ni_w31 ni_w765 ⟨by decide +kernel, by decide +kernel, by decide +kernel⟩ (by decide) rfl) (ni_muV (by decide)) <|
  ni_row (ni_ret ni_dX4_deal_46) ni_muR <|
  ni_row (ni_iload ni_dX4_deal_47) ni_muLd <|
  ni_row (ni_okP (ni_iconst ni_dX4_deal_49 (by decide +kernel))) (ni_muP (ni_eqPush fun _ => rfl)) <|
  ni_row (ni_okP (ni_ic_ne ni_dX4_deal_50 (by decide))) (ni_muP ni_eqIc) <|
  ni_row (ni_okP (ni_iconst ni_dX4_deal_53 (by decide +kernel))) (ni_muP (ni_eqPush fun _ => rfl)) <|
  ni_row (ni_okP (ni_goto ni_dX4_deal_54 (by decide))) (ni_muP ni_eqGo) <|
  ni_row (ni_aloadn ni_dX4_deal_57 rfl) ni_muLd <|
  ni_row (ni_iloadn ni_dX4_deal_58 rfl) ni_muLd <|
  ni_row (ni_iloadn ni_dX4_deal_59 rfl) ni_muLd <|
  ni_row (ni_aloadn ni_dX4_deal_60 rfl) ni_muLd <|
  ni_row (ni_get (T := TX4) ni_dX4_deal_61 (by decide) rfl (by decide) ni_uX4 ni_w397) ni_muGet <|
  ni_row (ni_iload ni_dX4_deal_64) ni_muLd <|
  ni_row (ni_aald ni_dX4_deal_66) ni_muQld <|
  ni_row (ni_virt (y := 91) (T := TX4) ni_dX4_deal_67 (by decide) rfl rfl ni_w769 ni_w771 ni_w12 ni_w29 ni_w772 ⟨by decide +kernel, by decide +kernel, by decide +kernel⟩ (by decide) rfl) (ni_muV (by decide)) <|
  ni_row (ni_istore ni_dX4_deal_70 (by decide)) ni_muSt <|
  ni_row (ni_iload ni_dX4_deal_72) ni_muLd <|
  ni_row (ni_okP (ni_iconst ni_dX4_deal_74 (by decide +kernel))) (ni_muP (ni_eqPush fun _ => rfl)) <|
  ni_row (ni_okP (ni_ic_eq ni_dX4_deal_75 (by decide))) (ni_muP ni_eqIc) <|
  ni_row (ni_aloadn ni_dX4_deal_78 rfl) ni_muLd <|
  ni_row (ni_get (T := TX0) ni_dX4_deal_79 (by decide) rfl (by decide) ni_uX0 ni_w130) ni_muGet <|
  ni_row (ni_iload ni_dX4_deal_82) ni_muLd <|
  ni_row (ni_okP (ni_dup2 ni_dX4_deal_84)) (ni_muP ni_eqDup2) <|
  ni_row (ni_iald ni_dX4_deal_85) ni_muAld <|
  ni_row (ni_okP (ni_iconst ni_dX4_deal_86 (by decide +kernel))) (ni_muP (ni_eqPush fun _ => rfl)) <|
  ni_row (ni_okP (ni_iadd ni_dX4_deal_87)) (ni_muP ni_eqI) <|
  ni_row (ni_iast ni_dX4_deal_88) ni_muAst <|
  ni_row (ni_ret ni_dX4_deal_89) ni_muR <|
  ni_row0
def ni_pr80 : List (Nat × ni_S) := [(0, ni_sLd 3 0 1),
  (1, ni_sGet 4 6 4),
  (4, ni_sLd 0 1 5),
  (5, ni_sQld 6),
  (6, ni_sGet 0 0 9),
  (9, ni_sSt 0 2 10),
  (10, ni_sP (ni_gPush (.int 0) 11)),
  (11, ni_sSt 0 3 12),
  (12, ni_sLd 0 3 13),
  (13, ni_sP (ni_gPush (.int 8) 15)),
  (15, ni_sP (ni_gIc (fun x y => decide (y ≤ x)) 61 18)),
  (18, ni_sLd 3 0 19),
  (19, ni_sLd 0 2 20),
  (20, ni_sLd 0 1 21),
  (21, ni_sV 83 2 4 24),
  (24, ni_sSt 0 4 26),
  (26, ni_sLd 0 4 28),
  (28, ni_sP (ni_gPush (.int (-2)) 30)),
  (30, ni_sP (ni_gIc (fun x y => decide (¬ x = y)) 35 33)),
  (33, ni_sLd 0 3 34),
  (34, ni_sR (some .int)),
  (35, ni_sLd 0 4 37),
  (37, ni_sP (ni_gPush (.int (-1)) 38)),
  (38, ni_sP (ni_gIc (fun x y => decide (¬ x = y)) 43 41)),
  (41, ni_sP (ni_gPush (.int (-1)) 42)),
  (42, ni_sR (some .int)),
  (43, ni_sLd 3 0 44),
  (44, ni_sGet 4 5 47),
  (47, ni_sLd 0 4 49),
  (49, ni_sQld 50),
  (50, ni_sLd 0 2 51),
  (51, ni_sV 72 1 3 54),
  (54, ni_sSt 0 2 55),
  (55, ni_sInc 3 (1) 58),
  (58, ni_sP (ni_gGo 12)),
  (61, ni_sP (ni_gPush (.int (-2)) 63)),
  (63, ni_sR (some .int))]
theorem ni_pk80 : ∀ r ∈ ni_pr80, ni_Ok xs yX4_follow cX4_follow 5 (some .int) [] r.1 r.2 ∧ ni_MU r.2 := ni_row (ni_aloadn ni_dX4_follow_0 rfl) ni_muLd <|
  ni_row (ni_get (T := TX4) ni_dX4_follow_1 (by decide) rfl (by decide) ni_uX4 ni_w399) ni_muGet <|
  ni_row (ni_iloadn ni_dX4_follow_4 rfl) ni_muLd <|
  ni_row (ni_aald ni_dX4_follow_5) ni_muQld <|
  ni_row (ni_get (T := TX0) ni_dX4_follow_6 (by decide) rfl (by decide) ni_uX0 ni_w100) ni_muGet <|
  ni_row (ni_istoren ni_dX4_follow_9 rfl (by decide)) ni_muSt <|
  ni_row (ni_okP (ni_iconst ni_dX4_follow_10 (by decide +kernel))) (ni_muP (ni_eqPush fun _ => rfl)) <|
  ni_row (ni_istoren ni_dX4_follow_11 rfl (by decide)) ni_muSt <|
  ni_row (ni_iloadn ni_dX4_follow_12 rfl) ni_muLd <|
  ni_row (ni_okP (ni_bipush ni_dX4_follow_13 (by decide +kernel))) (ni_muP (ni_eqPush fun _ => rfl)) <|
  ni_row (ni_okP (ni_ic_ge ni_dX4_follow_15 (by decide))) (ni_muP ni_eqIc) <|
  ni_row (ni_aloadn ni_dX4_follow_18 rfl) ni_muLd <|
  ni_row (ni_iloadn ni_dX4_follow_19 rfl) ni_muLd <|
  ni_row (ni_iloadn ni_dX4_follow_20 rfl) ni_muLd <|
  ni_row (ni_virt (y := 83) (T := TX4) ni_dX4_follow_21 (by decide) rfl rfl ni_w732 ni_w733 ni_w734 ni_w29 ni_w735 ⟨by decide +kernel, by decide +kernel, by decide +kernel⟩ (by decide) rfl) (ni_muV (by decide)) <|
  ni_row (ni_istore ni_dX4_follow_24 (by decide)) ni_muSt <|
  ni_row (ni_iload ni_dX4_follow_26) ni_muLd <|
  ni_row (ni_okP (ni_bipush ni_dX4_follow_28 (by decide +kernel))) (ni_muP (ni_eqPush fun _ => rfl)) <|
  ni_row (ni_okP (ni_ic_ne ni_dX4_follow_30 (by decide))) (ni_muP ni_eqIc) <|
  ni_row (ni_iloadn ni_dX4_follow_33 rfl) ni_muLd <|
  ni_row (ni_ret ni_dX4_follow_34) ni_muR <|
  ni_row (ni_iload ni_dX4_follow_35) ni_muLd <|
  ni_row (ni_okP (ni_iconst ni_dX4_follow_37 (by decide +kernel))) (ni_muP (ni_eqPush fun _ => rfl)) <|
  ni_row (ni_okP (ni_ic_ne ni_dX4_follow_38 (by decide))) (ni_muP ni_eqIc) <|
  ni_row (ni_okP (ni_iconst ni_dX4_follow_41 (by decide +kernel))) (ni_muP (ni_eqPush fun _ => rfl)) <|
  ni_row (ni_ret ni_dX4_follow_42) ni_muR <|
  ni_row (ni_aloadn ni_dX4_follow_43 rfl) ni_muLd <|
  ni_row (ni_get (T := TX4) ni_dX4_follow_44 (by decide) rfl (by decide) ni_uX4 ni_w397) ni_muGet <|
  ni_row (ni_iload ni_dX4_follow_47) ni_muLd <|
  ni_row (ni_aald ni_dX4_follow_49) ni_muQld <|
  ni_row (ni_iloadn ni_dX4_follow_50 rfl) ni_muLd <|
  ni_row (ni_virt (y := 72) (T := TX3) ni_dX4_follow_51 (by decide) rfl rfl ni_w1019 ni_w835 ni_w836 ni_w32 ni_w837 ⟨by decide +kernel, by decide +kernel, by decide +kernel⟩ (by decide) rfl) (ni_muV (by decide)) <|
  ni_row (ni_istoren ni_dX4_follow_54 rfl (by decide)) ni_muSt <|
  ni_row (ni_iinc (n := 1) ni_dX4_follow_55 (by decide)) ni_muInc <|
  ni_row (ni_okP (ni_goto ni_dX4_follow_58 (by decide))) (ni_muP ni_eqGo) <|
  ni_row (ni_okP (ni_bipush ni_dX4_follow_61 (by decide +kernel))) (ni_muP (ni_eqPush fun _ => rfl)) <|
  ni_row (ni_ret ni_dX4_follow_63) ni_muR <|
  ni_row0
def ni_pr81 : List (Nat × ni_S) := [(0, ni_sP (ni_gPush (.int 0) 1)),
  (1, ni_sSt 0 1 2),
  (2, ni_sP (ni_gPush (.int 0) 3)),
  (3, ni_sSt 0 2 4),
  (4, ni_sLd 0 2 5),
  (5, ni_sLd 3 0 6),
  (6, ni_sGet 4 2 9),
  (9, ni_sP (ni_gIc (fun x y => decide (y ≤ x)) 52 12)),
  (12, ni_sLd 0 1 13),
  (13, ni_sLd 3 0 14),
  (14, ni_sGet 4 5 17),
  (17, ni_sLd 0 2 18),
  (18, ni_sQld 19),
  (19, ni_sGet 3 6 22),
  (22, ni_sGet 5 0 25),
  (25, ni_sGet 2 2 28),
  (28, ni_sLd 3 0 29),
  (29, ni_sGet 4 5 32),
  (32, ni_sLd 0 2 33),
  (33, ni_sQld 34),
  (34, ni_sGet 3 7 37),
  (37, ni_sGet 5 0 40),
  (40, ni_sGet 2 2 43),
  (43, ni_sP (ni_gI (fun x y => x + y) 44)),
  (44, ni_sP (ni_gI (fun x y => x + y) 45)),
  (45, ni_sSt 0 1 46),
  (46, ni_sInc 2 (1) 49),
  (49, ni_sP (ni_gGo 4)),
  (52, ni_sLd 0 1 53),
  (53, ni_sR (some .int))]
theorem ni_pk81 : ∀ r ∈ ni_pr81, ni_Ok xs yX4_lettersOnTheirWay cX4_lettersOnTheirWay 3 (some .int) [] r.1 r.2 ∧ ni_MU r.2 := ni_row (ni_okP (ni_iconst ni_dX4_lettersOnTheirWay_0 (by decide +kernel))) (ni_muP (ni_eqPush fun _ => rfl)) <|
  ni_row (ni_istoren ni_dX4_lettersOnTheirWay_1 rfl (by decide)) ni_muSt <|
  ni_row (ni_okP (ni_iconst ni_dX4_lettersOnTheirWay_2 (by decide +kernel))) (ni_muP (ni_eqPush fun _ => rfl)) <|
  ni_row (ni_istoren ni_dX4_lettersOnTheirWay_3 rfl (by decide)) ni_muSt <|
  ni_row (ni_iloadn ni_dX4_lettersOnTheirWay_4 rfl) ni_muLd <|
  ni_row (ni_aloadn ni_dX4_lettersOnTheirWay_5 rfl) ni_muLd <|
  ni_row (ni_get (T := TX4) ni_dX4_lettersOnTheirWay_6 (by decide) rfl (by decide) ni_uX4 ni_w391) ni_muGet <|
  ni_row (ni_okP (ni_ic_ge ni_dX4_lettersOnTheirWay_9 (by decide))) (ni_muP ni_eqIc) <|
  ni_row (ni_iloadn ni_dX4_lettersOnTheirWay_12 rfl) ni_muLd <|
  ni_row (ni_aloadn ni_dX4_lettersOnTheirWay_13 rfl) ni_muLd <|
  ni_row (ni_get (T := TX4) ni_dX4_lettersOnTheirWay_14 (by decide) rfl (by decide) ni_uX4 ni_w397) ni_muGet <|
  ni_row (ni_iloadn ni_dX4_lettersOnTheirWay_17 rfl) ni_muLd <|
  ni_row (ni_aald ni_dX4_lettersOnTheirWay_18) ni_muQld <|
  ni_row (ni_get (T := TX3) ni_dX4_lettersOnTheirWay_19 (by decide) rfl (by decide) ni_uX3 ni_w282) ni_muGet <|
  ni_row (ni_get (T := TX6) ni_dX4_lettersOnTheirWay_22 (by decide) rfl (by decide) ni_uX6 ni_w219) ni_muGet <|
  ni_row (ni_get (T := TX2) ni_dX4_lettersOnTheirWay_25 (by decide) rfl (by decide) ni_uX2 ni_w202) ni_muGet <|
  ni_row (ni_aloadn ni_dX4_lettersOnTheirWay_28 rfl) ni_muLd <|
  ni_row (ni_get (T := TX4) ni_dX4_lettersOnTheirWay_29 (by decide) rfl (by decide) ni_uX4 ni_w397) ni_muGet <|
  ni_row (ni_iloadn ni_dX4_lettersOnTheirWay_32 rfl) ni_muLd <|
  ni_row (ni_aald ni_dX4_lettersOnTheirWay_33) ni_muQld <|
  ni_row (ni_get (T := TX3) ni_dX4_lettersOnTheirWay_34 (by decide) rfl (by decide) ni_uX3 ni_w285) ni_muGet <|
  ni_row (ni_get (T := TX6) ni_dX4_lettersOnTheirWay_37 (by decide) rfl (by decide) ni_uX6 ni_w219) ni_muGet <|
  ni_row (ni_get (T := TX2) ni_dX4_lettersOnTheirWay_40 (by decide) rfl (by decide) ni_uX2 ni_w202) ni_muGet <|
  ni_row (ni_okP (ni_iadd ni_dX4_lettersOnTheirWay_43)) (ni_muP ni_eqI) <|
  ni_row (ni_okP (ni_iadd ni_dX4_lettersOnTheirWay_44)) (ni_muP ni_eqI) <|
  ni_row (ni_istoren ni_dX4_lettersOnTheirWay_45 rfl (by decide)) ni_muSt <|
  ni_row (ni_iinc (n := 1) ni_dX4_lettersOnTheirWay_46 (by decide)) ni_muInc <|
  ni_row (ni_okP (ni_goto ni_dX4_lettersOnTheirWay_49 (by decide))) (ni_muP ni_eqGo) <|
  ni_row (ni_iloadn ni_dX4_lettersOnTheirWay_52 rfl) ni_muLd <|
  ni_row (ni_ret ni_dX4_lettersOnTheirWay_53) ni_muR <|
  ni_row0
def ni_pr82 : List (Nat × ni_S) := [(0, ni_sLd 0 1 1),
  (1, ni_sSt 0 2 2),
  (2, ni_sP (ni_gPush (.int 0) 3)),
  (3, ni_sSt 0 3 4),
  (4, ni_sLd 0 3 5),
  (5, ni_sP (ni_gPush (.int 14) 7)),
  (7, ni_sP (ni_gIc (fun x y => decide (y ≤ x)) 33 10)),
  (10, ni_sLd 0 0 11),
  (11, ni_sLd 0 3 12),
  (12, ni_sP (ni_gI (fun x y => x >>> (y &&& 31)) 13)),
  (13, ni_sP (ni_gPush (.int 1) 14)),
  (14, ni_sP (ni_gI (fun x y => x &&& y) 15)),
  (15, ni_sP (ni_gIf (fun x => decide (x = 0)) 27 18)),
  (18, ni_sLd 0 2 19),
  (19, ni_sP (ni_gIf (fun x => decide (¬ x = 0)) 24 22)),
  (22, ni_sLd 0 3 23),
  (23, ni_sR (some .int)),
  (24, ni_sInc 2 (-1) 27),
  (27, ni_sInc 3 (1) 30),
  (30, ni_sP (ni_gGo 4)),
  (33, ni_sP (ni_gPush (.int (-1)) 34)),
  (34, ni_sR (some .int))]
theorem ni_pk82 : ∀ r ∈ ni_pr82, ni_Ok xs yX4_linkAt cX4_linkAt 4 (some .int) [] r.1 r.2 ∧ ni_MU r.2 := ni_row (ni_iloadn ni_dX4_linkAt_0 rfl) ni_muLd <|
  ni_row (ni_istoren ni_dX4_linkAt_1 rfl (by decide)) ni_muSt <|
  ni_row (ni_okP (ni_iconst ni_dX4_linkAt_2 (by decide +kernel))) (ni_muP (ni_eqPush fun _ => rfl)) <|
  ni_row (ni_istoren ni_dX4_linkAt_3 rfl (by decide)) ni_muSt <|
  ni_row (ni_iloadn ni_dX4_linkAt_4 rfl) ni_muLd <|
  ni_row (ni_okP (ni_bipush ni_dX4_linkAt_5 (by decide +kernel))) (ni_muP (ni_eqPush fun _ => rfl)) <|
  ni_row (ni_okP (ni_ic_ge ni_dX4_linkAt_7 (by decide))) (ni_muP ni_eqIc) <|
  ni_row (ni_iloadn ni_dX4_linkAt_10 rfl) ni_muLd <|
  ni_row (ni_iloadn ni_dX4_linkAt_11 rfl) ni_muLd <|
  ni_row (ni_okP (ni_ishr ni_dX4_linkAt_12)) (ni_muP ni_eqI) <|
  ni_row (ni_okP (ni_iconst ni_dX4_linkAt_13 (by decide +kernel))) (ni_muP (ni_eqPush fun _ => rfl)) <|
  ni_row (ni_okP (ni_iand ni_dX4_linkAt_14)) (ni_muP ni_eqI) <|
  ni_row (ni_okP (ni_if_eq ni_dX4_linkAt_15 (by decide))) (ni_muP ni_eqIf) <|
  ni_row (ni_iloadn ni_dX4_linkAt_18 rfl) ni_muLd <|
  ni_row (ni_okP (ni_if_ne ni_dX4_linkAt_19 (by decide))) (ni_muP ni_eqIf) <|
  ni_row (ni_iloadn ni_dX4_linkAt_22 rfl) ni_muLd <|
  ni_row (ni_ret ni_dX4_linkAt_23) ni_muR <|
  ni_row (ni_iinc (n := -1) ni_dX4_linkAt_24 (by decide)) ni_muInc <|
  ni_row (ni_iinc (n := 1) ni_dX4_linkAt_27 (by decide)) ni_muInc <|
  ni_row (ni_okP (ni_goto ni_dX4_linkAt_30 (by decide))) (ni_muP ni_eqGo) <|
  ni_row (ni_okP (ni_iconst ni_dX4_linkAt_33 (by decide +kernel))) (ni_muP (ni_eqPush fun _ => rfl)) <|
  ni_row (ni_ret ni_dX4_linkAt_34) ni_muR <|
  ni_row0
def ni_pr83 : List (Nat × ni_S) := [(0, ni_sLd 3 0 1),
  (1, ni_sGet 4 4 4),
  (4, ni_sLd 0 1 5),
  (5, ni_sQld 6),
  (6, ni_sGet 7 4 9),
  (9, ni_sSt 3 3 10),
  (10, ni_sLd 3 3 11),
  (11, ni_sLd 3 0 12),
  (12, ni_sGet 4 6 15),
  (15, ni_sLd 0 2 16),
  (16, ni_sQld 17),
  (17, ni_sGet 0 1 20),
  (20, ni_sV 147 1 8 23),
  (23, ni_sSt 0 4 25),
  (25, ni_sLd 0 4 27),
  (27, ni_sP (ni_gPush (.int (-1)) 28)),
  (28, ni_sP (ni_gIc (fun x y => decide (¬ x = y)) 33 31)),
  (31, ni_sP (ni_gPush (.int (-1)) 32)),
  (32, ni_sR (some .int)),
  (33, ni_sLd 3 3 34),
  (34, ni_sGet 8 1 37),
  (37, ni_sLd 0 4 39),
  (39, ni_sAld .int 0 40),
  (40, ni_sP (ni_gIf (fun x => decide (¬ x = 0)) 46 43)),
  (43, ni_sP (ni_gPush (.int (-2)) 45)),
  (45, ni_sR (some .int)),
  (46, ni_sLd 3 3 47),
  (47, ni_sGet 8 2 50),
  (50, ni_sLd 0 4 52),
  (52, ni_sAld .int 0 53),
  (53, ni_sSt 0 5 55),
  (55, ni_sLd 0 5 57),
  (57, ni_sC 157 1 60),
  (60, ni_sSt 0 6 62),
  (62, ni_sLd 0 6 64),
  (64, ni_sP (ni_gIf (fun x => decide (¬ x = 0)) 71 67)),
  (67, ni_sP (ni_gPush (.int (-1)) 68)),
  (68, ni_sP (ni_gGo 85)),
  (71, ni_sLd 0 5 73),
  (73, ni_sLd 0 2 74),
  (74, ni_sP (ni_gPush (.int 7) 76)),
  (76, ni_sP (ni_gI (fun x y => x * y) 77)),
  (77, ni_sLd 0 1 78),
  (78, ni_sP (ni_gI (fun x y => x + y) 79)),
  (79, ni_sLd 0 6 81),
  (81, ni_sP (ni_gI0 (fun x y => x - x / y * y) 82)),
  (82, ni_sC 82 2 85),
  (85, ni_sR (some .int))]
theorem ni_pk83 : ∀ r ∈ ni_pr83, ni_Ok xs yX4_linkToward cX4_linkToward 7 (some .int) [] r.1 r.2 ∧ ni_MU r.2 := ni_row (ni_aloadn ni_dX4_linkToward_0 rfl) ni_muLd <|
  ni_row (ni_get (T := TX4) ni_dX4_linkToward_1 (by decide) rfl (by decide) ni_uX4 ni_w395) ni_muGet <|
  ni_row (ni_iloadn ni_dX4_linkToward_4 rfl) ni_muLd <|
  ni_row (ni_aald ni_dX4_linkToward_5) ni_muQld <|
  ni_row (ni_get (T := TX9) ni_dX4_linkToward_6 (by decide) rfl (by decide) ni_uX9 ni_w370) ni_muGet <|
  ni_row (ni_astoren ni_dX4_linkToward_9 rfl (by decide)) ni_muSt <|
  ni_row (ni_aloadn ni_dX4_linkToward_10 rfl) ni_muLd <|
  ni_row (ni_aloadn ni_dX4_linkToward_11 rfl) ni_muLd <|
  ni_row (ni_get (T := TX4) ni_dX4_linkToward_12 (by decide) rfl (by decide) ni_uX4 ni_w399) ni_muGet <|
  ni_row (ni_iloadn ni_dX4_linkToward_15 rfl) ni_muLd <|
  ni_row (ni_aald ni_dX4_linkToward_16) ni_muQld <|
  ni_row (ni_get (T := TX0) ni_dX4_linkToward_17 (by decide) rfl (by decide) ni_uX0 ni_w102) ni_muGet <|
  ni_row (ni_virt (y := 147) (T := TX10) ni_dX4_linkToward_20 (by decide) rfl rfl ni_w736 ni_w737 ni_w738 ni_w37 ni_w739 ⟨by decide +kernel, by decide +kernel, by decide +kernel⟩ (by decide) rfl) (ni_muV (by decide)) <|
  ni_row (ni_istore ni_dX4_linkToward_23 (by decide)) ni_muSt <|
  ni_row (ni_iload ni_dX4_linkToward_25) ni_muLd <|
  ni_row (ni_okP (ni_iconst ni_dX4_linkToward_27 (by decide +kernel))) (ni_muP (ni_eqPush fun _ => rfl)) <|
  ni_row (ni_okP (ni_ic_ne ni_dX4_linkToward_28 (by decide))) (ni_muP ni_eqIc) <|
  ni_row (ni_okP (ni_iconst ni_dX4_linkToward_31 (by decide +kernel))) (ni_muP (ni_eqPush fun _ => rfl)) <|
  ni_row (ni_ret ni_dX4_linkToward_32) ni_muR <|
  ni_row (ni_aloadn ni_dX4_linkToward_33 rfl) ni_muLd <|
  ni_row (ni_get (T := TX10) ni_dX4_linkToward_34 (by decide) rfl (by decide) ni_uX10 ni_w346) ni_muGet <|
  ni_row (ni_iload ni_dX4_linkToward_37) ni_muLd <|
  ni_row (ni_iald ni_dX4_linkToward_39) ni_muAld <|
  ni_row (ni_okP (ni_if_ne ni_dX4_linkToward_40 (by decide))) (ni_muP ni_eqIf) <|
  ni_row (ni_okP (ni_bipush ni_dX4_linkToward_43 (by decide +kernel))) (ni_muP (ni_eqPush fun _ => rfl)) <|
  ni_row (ni_ret ni_dX4_linkToward_45) ni_muR <|
  ni_row (ni_aloadn ni_dX4_linkToward_46 rfl) ni_muLd <|
  ni_row (ni_get (T := TX10) ni_dX4_linkToward_47 (by decide) rfl (by decide) ni_uX10 ni_w348) ni_muGet <|
  ni_row (ni_iload ni_dX4_linkToward_50) ni_muLd <|
  ni_row (ni_iald ni_dX4_linkToward_52) ni_muAld <|
  ni_row (ni_istore ni_dX4_linkToward_53 (by decide)) ni_muSt <|
  ni_row (ni_iload ni_dX4_linkToward_55) ni_muLd <|
  ni_row (ni_stat (y := 157) ni_dX4_linkToward_57 ni_w750 ni_w751 ni_w47 ni_w752 ⟨by decide +kernel, by decide +kernel, by decide +kernel⟩ (by decide) rfl) ni_muC <|
  ni_row (ni_istore ni_dX4_linkToward_60 (by decide)) ni_muSt <|
  ni_row (ni_iload ni_dX4_linkToward_62) ni_muLd <|
  ni_row (ni_okP (ni_if_ne ni_dX4_linkToward_64 (by decide))) (ni_muP ni_eqIf) <|
  ni_row (ni_okP (ni_iconst ni_dX4_linkToward_67 (by decide +kernel))) (ni_muP (ni_eqPush fun _ => rfl)) <|
  ni_row (ni_okP (ni_goto ni_dX4_linkToward_68 (by decide))) (ni_muP ni_eqGo) <|
  ni_row (ni_iload ni_dX4_linkToward_71) ni_muLd <|
  ni_row (ni_iloadn ni_dX4_linkToward_73 rfl) ni_muLd <|
  ni_row (ni_okP (ni_bipush ni_dX4_linkToward_74 (by decide +kernel))) (ni_muP (ni_eqPush fun _ => rfl)) <|
  ni_row (ni_okP (ni_imul ni_dX4_linkToward_76)) (ni_muP ni_eqI) <|
  ni_row (ni_iloadn ni_dX4_linkToward_77 rfl) ni_muLd <|
  ni_row (ni_okP (ni_iadd ni_dX4_linkToward_78)) (ni_muP ni_eqI) <|
  ni_row (ni_iload ni_dX4_linkToward_79) ni_muLd <|
  ni_row (ni_okP (ni_irem ni_dX4_linkToward_81)) (ni_muP ni_eqI0) <|
  ni_row (ni_stat (y := 82) ni_dX4_linkToward_82 ni_w756 ni_w757 ni_w29 ni_w758 ⟨by decide +kernel, by decide +kernel, by decide +kernel⟩ (by decide) rfl) ni_muC <|
  ni_row (ni_ret ni_dX4_linkToward_85) ni_muR <|
  ni_row0
end NIP
