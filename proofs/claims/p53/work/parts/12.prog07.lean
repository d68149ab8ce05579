section NIP
variable {xs : List Int32}
def ni_pr113 : List (Nat × ni_S) := [(0, ni_sLd 0 1 1),
  (1, ni_sP (ni_gPush (.int (-1)) 2)),
  (2, ni_sP (ni_gIc (fun x y => decide (x = y)) 21 5)),
  (5, ni_sLd 3 0 6),
  (6, ni_sLd 0 1 7),
  (7, ni_sC 99 1 10),
  (10, ni_sQld 11),
  (11, ni_sGet 0 14 14),
  (14, ni_sP (ni_gPush (.int 6) 16)),
  (16, ni_sP (ni_gDup2 17)),
  (17, ni_sAld .int 0 18),
  (18, ni_sP (ni_gPush (.int 1) 19)),
  (19, ni_sP (ni_gI (fun x y => x + y) 20)),
  (20, ni_sAst .int 0 21),
  (21, ni_sR (none))]
theorem ni_pk113 : ∀ r ∈ ni_pr113, ni_Ok xs yX6_loseOne cX6_loseOne 2 (none) [] r.1 r.2 ∧ ni_MU r.2 := ni_row (ni_iloadn ni_dX6_loseOne_0 rfl) ni_muLd <|
  ni_row (ni_okP (ni_iconst ni_dX6_loseOne_1 (by decide +kernel))) (ni_muP (ni_eqPush fun _ => rfl)) <|
  ni_row (ni_okP (ni_ic_eq ni_dX6_loseOne_2 (by decide))) (ni_muP ni_eqIc) <|
  ni_row (ni_aloadn ni_dX6_loseOne_5 rfl) ni_muLd <|
  ni_row (ni_iloadn ni_dX6_loseOne_6 rfl) ni_muLd <|
  ni_row (ni_stat (y := 99) ni_dX6_loseOne_7 ni_w592 ni_w593 ni_w45 ni_w594 ⟨by decide +kernel, by decide +kernel, by decide +kernel⟩ (by decide) rfl) ni_muC <|
  ni_row (ni_aald ni_dX6_loseOne_10) ni_muQld <|
  ni_row (ni_get (T := TX0) ni_dX6_loseOne_11 (by decide) rfl (by decide) ni_uX0 ni_w129) ni_muGet <|
  ni_row (ni_okP (ni_bipush ni_dX6_loseOne_14 (by decide +kernel))) (ni_muP (ni_eqPush fun _ => rfl)) <|
  ni_row (ni_okP (ni_dup2 ni_dX6_loseOne_16)) (ni_muP ni_eqDup2) <|
  ni_row (ni_iald ni_dX6_loseOne_17) ni_muAld <|
  ni_row (ni_okP (ni_iconst ni_dX6_loseOne_18 (by decide +kernel))) (ni_muP (ni_eqPush fun _ => rfl)) <|
  ni_row (ni_okP (ni_iadd ni_dX6_loseOne_19)) (ni_muP ni_eqI) <|
  ni_row (ni_iast ni_dX6_loseOne_20) ni_muAst <|
  ni_row (ni_ret ni_dX6_loseOne_21) ni_muR <|
  ni_row0
def ni_pr114 : List (Nat × ni_S) := [(0, ni_sLd 3 0 1),
  (1, ni_sGet 5 1 4),
  (4, ni_sP (ni_gSw (ni_lsf 42 [(1, 32), (2, 37)]))),
  (32, ni_sLd 3 0 33),
  (33, ni_sV 115 0 5 36),
  (36, ni_sR (some .int)),
  (37, ni_sLd 3 0 38),
  (38, ni_sV 116 0 5 41),
  (41, ni_sR (some .int)),
  (42, ni_sP (ni_gPush (.int 0) 43)),
  (43, ni_sR (some .int))]
theorem ni_pk114 : ∀ r ∈ ni_pr114, ni_Ok xs yX6_nextPlace cX6_nextPlace 1 (some .int) [] r.1 r.2 ∧ ni_MU r.2 := ni_row (ni_aloadn ni_dX6_nextPlace_0 rfl) ni_muLd <|
  ni_row (ni_get (T := TX6) ni_dX6_nextPlace_1 (by decide) rfl (by decide) ni_uX6 ni_w220) ni_muGet <|
  ni_row (ni_okP (ni_lsOk ni_dX6_nextPlace_4 (by decide) (by decide))) (ni_muP ni_eqSw) <|
  ni_row (ni_aloadn ni_dX6_nextPlace_32 rfl) ni_muLd <|
  ni_row (ni_virt (y := 115) (T := TX6) ni_dX6_nextPlace_33 (by decide) rfl rfl ni_w870 ni_w872 ni_w22 ni_w33 ni_w873 ⟨by decide +kernel, by decide +kernel, by decide +kernel⟩ (by decide) rfl) (ni_muV (by decide)) <|
  ni_row (ni_ret ni_dX6_nextPlace_36) ni_muR <|
  ni_row (ni_aloadn ni_dX6_nextPlace_37 rfl) ni_muLd <|
  ni_row (ni_virt (y := 116) (T := TX6) ni_dX6_nextPlace_38 (by decide) rfl rfl ni_w881 ni_w883 ni_w24 ni_w33 ni_w884 ⟨by decide +kernel, by decide +kernel, by decide +kernel⟩ (by decide) rfl) (ni_muV (by decide)) <|
  ni_row (ni_ret ni_dX6_nextPlace_41) ni_muR <|
  ni_row (ni_okP (ni_iconst ni_dX6_nextPlace_42 (by decide +kernel))) (ni_muP (ni_eqPush fun _ => rfl)) <|
  ni_row (ni_ret ni_dX6_nextPlace_43) ni_muR <|
  ni_row0
def ni_pr115 : List (Nat × ni_S) := [(0, ni_sP (ni_gPush (.int 0) 1)),
  (1, ni_sSt 0 1 2),
  (2, ni_sLd 0 1 3),
  (3, ni_sP (ni_gPush (.int 4) 4)),
  (4, ni_sP (ni_gIc (fun x y => decide (y ≤ x)) 26 7)),
  (7, ni_sLd 3 0 8),
  (8, ni_sLd 0 1 9),
  (9, ni_sV 111 1 5 12),
  (12, ni_sSt 0 2 13),
  (13, ni_sLd 0 2 14),
  (14, ni_sP (ni_gPush (.int (-1)) 15)),
  (15, ni_sP (ni_gIc (fun x y => decide (x = y)) 20 18)),
  (18, ni_sLd 0 2 19),
  (19, ni_sR (some .int)),
  (20, ni_sInc 1 (1) 23),
  (23, ni_sP (ni_gGo 2)),
  (26, ni_sP (ni_gPush (.int (-1)) 27)),
  (27, ni_sR (some .int))]
theorem ni_pk115 : ∀ r ∈ ni_pr115, ni_Ok xs yX6_placeByClasses cX6_placeByClasses 3 (some .int) [] r.1 r.2 ∧ ni_MU r.2 := ni_row (ni_okP (ni_iconst ni_dX6_placeByClasses_0 (by decide +kernel))) (ni_muP (ni_eqPush fun _ => rfl)) <|
  ni_row (ni_istoren ni_dX6_placeByClasses_1 rfl (by decide)) ni_muSt <|
  ni_row (ni_iloadn ni_dX6_placeByClasses_2 rfl) ni_muLd <|
  ni_row (ni_okP (ni_iconst ni_dX6_placeByClasses_3 (by decide +kernel))) (ni_muP (ni_eqPush fun _ => rfl)) <|
  ni_row (ni_okP (ni_ic_ge ni_dX6_placeByClasses_4 (by decide))) (ni_muP ni_eqIc) <|
  ni_row (ni_aloadn ni_dX6_placeByClasses_7 rfl) ni_muLd <|
  ni_row (ni_iloadn ni_dX6_placeByClasses_8 rfl) ni_muLd <|
  ni_row (ni_virt (y := 111) (T := TX6) ni_dX6_placeByClasses_9 (by decide) rfl rfl ni_w874 ni_w876 ni_w23 ni_w33 ni_w877 ⟨by decide +kernel, by decide +kernel, by decide +kernel⟩ (by decide) rfl) (ni_muV (by decide)) <|
  ni_row (ni_istoren ni_dX6_placeByClasses_12 rfl (by decide)) ni_muSt <|
  ni_row (ni_iloadn ni_dX6_placeByClasses_13 rfl) ni_muLd <|
  ni_row (ni_okP (ni_iconst ni_dX6_placeByClasses_14 (by decide +kernel))) (ni_muP (ni_eqPush fun _ => rfl)) <|
  ni_row (ni_okP (ni_ic_eq ni_dX6_placeByClasses_15 (by decide))) (ni_muP ni_eqIc) <|
  ni_row (ni_iloadn ni_dX6_placeByClasses_18 rfl) ni_muLd <|
  ni_row (ni_ret ni_dX6_placeByClasses_19) ni_muR <|
  ni_row (ni_iinc (n := 1) ni_dX6_placeByClasses_20 (by decide)) ni_muInc <|
  ni_row (ni_okP (ni_goto ni_dX6_placeByClasses_23 (by decide))) (ni_muP ni_eqGo) <|
  ni_row (ni_okP (ni_iconst ni_dX6_placeByClasses_26 (by decide +kernel))) (ni_muP (ni_eqPush fun _ => rfl)) <|
  ni_row (ni_ret ni_dX6_placeByClasses_27) ni_muR <|
  ni_row0
def ni_pr116 : List (Nat × ni_S) := [(0, ni_sP (ni_gPush (.int 0) 1)),
  (1, ni_sSt 0 1 2),
  (2, ni_sLd 0 1 3),
  (3, ni_sP (ni_gPush (.int 100) 5)),
  (5, ni_sP (ni_gIc (fun x y => decide (y ≤ x)) 132 8)),
  (8, ni_sLd 3 0 9),
  (9, ni_sLd 3 0 10),
  (10, ni_sGet 5 7 13),
  (13, ni_sV 111 1 5 16),
  (16, ni_sSt 0 2 17),
  (17, ni_sLd 0 2 18),
  (18, ni_sP (ni_gPush (.int (-1)) 19)),
  (19, ni_sP (ni_gIc (fun x y => decide (¬ x = y)) 35 22)),
  (22, ni_sLd 3 0 23),
  (23, ni_sGet 5 6 26),
  (26, ni_sLd 3 0 27),
  (27, ni_sGet 5 7 30),
  (30, ni_sP (ni_gPush (.int 0) 31)),
  (31, ni_sAst .int 0 32),
  (32, ni_sP (ni_gGo 109)),
  (35, ni_sLd 3 0 36),
  (36, ni_sGet 5 8 39),
  (39, ni_sP (ni_gIf (fun x => decide (¬ x = 0)) 71 42)),
  (42, ni_sLd 3 0 43),
  (43, ni_sGet 5 6 46),
  (46, ni_sLd 3 0 47),
  (47, ni_sGet 5 7 50),
  (50, ni_sP (ni_gDup2 51)),
  (51, ni_sAld .int 0 52),
  (52, ni_sP (ni_gPush (.int 100) 54)),
  (54, ni_sLd 3 0 55),
  (55, ni_sGet 5 5 58),
  (58, ni_sLd 3 0 59),
  (59, ni_sGet 5 7 62),
  (62, ni_sAld .int 0 63),
  (63, ni_sP (ni_gI (fun x y => x * y) 64)),
  (64, ni_sP (ni_gI (fun x y => x + y) 65)),
  (65, ni_sAst .int 0 66),
  (66, ni_sLd 3 0 67),
  (67, ni_sP (ni_gPush (.int 1) 68)),
  (68, ni_sPut 5 8 (.boolean) 71),
  (71, ni_sLd 3 0 72),
  (72, ni_sGet 5 9 75),
  (75, ni_sLd 0 2 76),
  (76, ni_sAld .int 0 77),
  (77, ni_sC 104 1 80),
  (80, ni_sSt 0 3 81),
  (81, ni_sLd 3 0 82),
  (82, ni_sGet 5 6 85),
  (85, ni_sLd 3 0 86),
  (86, ni_sGet 5 7 89),
  (89, ni_sAld .int 0 90),
  (90, ni_sLd 0 3 91),
  (91, ni_sP (ni_gIc (fun x y => decide (x < y)) 109 94)),
  (94, ni_sLd 3 0 95),
  (95, ni_sGet 5 6 98),
  (98, ni_sLd 3 0 99),
  (99, ni_sGet 5 7 102),
  (102, ni_sP (ni_gDup2 103)),
  (103, ni_sAld .int 0 104),
  (104, ni_sLd 0 3 105),
  (105, ni_sP (ni_gI (fun x y => x - y) 106)),
  (106, ni_sAst .int 0 107),
  (107, ni_sLd 0 2 108),
  (108, ni_sR (some .int)),
  (109, ni_sLd 3 0 110),
  (110, ni_sLd 3 0 111),
  (111, ni_sGet 5 7 114),
  (114, ni_sP (ni_gPush (.int 1) 115)),
  (115, ni_sP (ni_gI (fun x y => x + y) 116)),
  (116, ni_sP (ni_gPush (.int 4) 117)),
  (117, ni_sP (ni_gI0 (fun x y => x - x / y * y) 118)),
  (118, ni_sPut 5 7 (.int) 121),
  (121, ni_sLd 3 0 122),
  (122, ni_sP (ni_gPush (.int 0) 123)),
  (123, ni_sPut 5 8 (.boolean) 126),
  (126, ni_sInc 1 (1) 129),
  (129, ni_sP (ni_gGo 2)),
  (132, ni_sP (ni_gPush (.int (-1)) 133)),
  (133, ni_sR (some .int))]
theorem ni_pk116 : ∀ r ∈ ni_pr116, ni_Ok xs yX6_placeByTurns cX6_placeByTurns 4 (some .int) [] r.1 r.2 ∧ ni_MU r.2 := ni_row (ni_okP (ni_iconst ni_dX6_placeByTurns_0 (by decide +kernel))) (ni_muP (ni_eqPush fun _ => rfl)) <|
  ni_row (ni_istoren ni_dX6_placeByTurns_1 rfl (by decide)) ni_muSt <|
  ni_row (ni_iloadn ni_dX6_placeByTurns_2 rfl) ni_muLd <|
  ni_row (ni_okP (ni_bipush ni_dX6_placeByTurns_3 (by decide +kernel))) (ni_muP (ni_eqPush fun _ => rfl)) <|
  ni_row (ni_okP (ni_ic_ge ni_dX6_placeByTurns_5 (by decide))) (ni_muP ni_eqIc) <|
  ni_row (ni_aloadn ni_dX6_placeByTurns_8 rfl) ni_muLd <|
  ni_row (ni_aloadn ni_dX6_placeByTurns_9 rfl) ni_muLd <|
  ni_row (ni_get (T := TX6) ni_dX6_placeByTurns_10 (by decide) rfl (by decide) ni_uX6 ni_w228) ni_muGet <|
  ni_row (ni_virt (y := 111) (T := TX6) ni_dX6_placeByTurns_13 (by decide) rfl rfl ni_w874 ni_w876 ni_w23 ni_w33 ni_w877 ⟨by decide +kernel, by decide +kernel, by decide +kernel⟩ (by decide) rfl) (ni_muV (by decide)) <|
  ni_row (ni_istoren ni_dX6_placeByTurns_16 rfl (by decide)) ni_muSt <|
  ni_row (ni_iloadn ni_dX6_placeByTurns_17 rfl) ni_muLd <|
  ni_row (ni_okP (ni_iconst ni_dX6_placeByTurns_18 (by decide +kernel))) (ni_muP (ni_eqPush fun _ => rfl)) <|
  ni_row (ni_okP (ni_ic_ne ni_dX6_placeByTurns_19 (by decide))) (ni_muP ni_eqIc) <|
  ni_row (ni_aloadn ni_dX6_placeByTurns_22 rfl) ni_muLd <|
  ni_row (ni_get (T := TX6) ni_dX6_placeByTurns_23 (by decide) rfl (by decide) ni_uX6 ni_w226) ni_muGet <|
  ni_row (ni_aloadn ni_dX6_placeByTurns_26 rfl) ni_muLd <|
  ni_row (ni_get (T := TX6) ni_dX6_placeByTurns_27 (by decide) rfl (by decide) ni_uX6 ni_w228) ni_muGet <|
  ni_row (ni_okP (ni_iconst ni_dX6_placeByTurns_30 (by decide +kernel))) (ni_muP (ni_eqPush fun _ => rfl)) <|
  ni_row (ni_iast ni_dX6_placeByTurns_31) ni_muAst <|
  ni_row (ni_okP (ni_goto ni_dX6_placeByTurns_32 (by decide))) (ni_muP ni_eqGo) <|
  ni_row (ni_aloadn ni_dX6_placeByTurns_35 rfl) ni_muLd <|
  ni_row (ni_get (T := TX6) ni_dX6_placeByTurns_36 (by decide) rfl (by decide) ni_uX6 ni_w229) ni_muGet <|
  ni_row (ni_okP (ni_if_ne ni_dX6_placeByTurns_39 (by decide))) (ni_muP ni_eqIf) <|
  ni_row (ni_aloadn ni_dX6_placeByTurns_42 rfl) ni_muLd <|
  ni_row (ni_get (T := TX6) ni_dX6_placeByTurns_43 (by decide) rfl (by decide) ni_uX6 ni_w226) ni_muGet <|
  ni_row (ni_aloadn ni_dX6_placeByTurns_46 rfl) ni_muLd <|
  ni_row (ni_get (T := TX6) ni_dX6_placeByTurns_47 (by decide) rfl (by decide) ni_uX6 ni_w228) ni_muGet <|
  ni_row (ni_okP (ni_dup2 ni_dX6_placeByTurns_50)) (ni_muP ni_eqDup2) <|
  ni_row (ni_iald ni_dX6_placeByTurns_51) ni_muAld <|
  ni_row (ni_okP (ni_bipush ni_dX6_placeByTurns_52 (by decide +kernel))) (ni_muP (ni_eqPush fun _ => rfl)) <|
  ni_row (ni_aloadn ni_dX6_placeByTurns_54 rfl) ni_muLd <|
  ni_row (ni_get (T := TX6) ni_dX6_placeByTurns_55 (by decide) rfl (by decide) ni_uX6 ni_w224) ni_muGet <|
  ni_row (ni_aloadn ni_dX6_placeByTurns_58 rfl) ni_muLd <|
  ni_row (ni_get (T := TX6) ni_dX6_placeByTurns_59 (by decide) rfl (by decide) ni_uX6 ni_w228) ni_muGet <|
  ni_row (ni_iald ni_dX6_placeByTurns_62) ni_muAld <|
  ni_row (ni_okP (ni_imul ni_dX6_placeByTurns_63)) (ni_muP ni_eqI) <|
  ni_row (ni_okP (ni_iadd ni_dX6_placeByTurns_64)) (ni_muP ni_eqI) <|
  ni_row (ni_iast ni_dX6_placeByTurns_65) ni_muAst <|
  ni_row (ni_aloadn ni_dX6_placeByTurns_66 rfl) ni_muLd <|
  ni_row (ni_okP (ni_iconst ni_dX6_placeByTurns_67 (by decide +kernel))) (ni_muP (ni_eqPush fun _ => rfl)) <|
  ni_row (ni_putA (T := TX6) (ty0 := tyX6) (b := false) (Or.inl rfl) rfl ni_dX6_placeByTurns_68 (by decide) rfl (by decide) ni_uX6 tyX6_ok nmX6 ni_w229) ni_muPut <|
  ni_row (ni_aloadn ni_dX6_placeByTurns_71 rfl) ni_muLd <|
  ni_row (ni_get (T := TX6) ni_dX6_placeByTurns_72 (by decide) rfl (by decide) ni_uX6 ni_w230) ni_muGet <|
  ni_row (ni_iloadn ni_dX6_placeByTurns_75 rfl) ni_muLd <|
  ni_row (ni_iald ni_dX6_placeByTurns_76) ni_muAld <|
  ni_row (ni_stat (y := 104) ni_dX6_placeByTurns_77 ni_w784 ni_w785 ni_w45 ni_w786 ⟨by decide +kernel, by decide +kernel, by decide +kernel⟩ (by decide) rfl) ni_muC <|
  ni_row (ni_istoren ni_dX6_placeByTurns_80 rfl (by decide)) ni_muSt <|
  ni_row (ni_aloadn ni_dX6_placeByTurns_81 rfl) ni_muLd <|
  ni_row (ni_get (T := TX6) ni_dX6_placeByTurns_82 (by decide) rfl (by decide) ni_uX6 ni_w226) ni_muGet <|
  ni_row (ni_aloadn ni_dX6_placeByTurns_85 rfl) ni_muLd <|
  ni_row (ni_get (T := TX6) ni_dX6_placeByTurns_86 (by decide) rfl (by decide) ni_uX6 ni_w228) ni_muGet <|
  ni_row (ni_iald ni_dX6_placeByTurns_89) ni_muAld <|
  ni_row (ni_iloadn ni_dX6_placeByTurns_90 rfl) ni_muLd <|
  ni_row (ni_okP (ni_ic_lt ni_dX6_placeByTurns_91 (by decide))) (ni_muP ni_eqIc) <|
  ni_row (ni_aloadn ni_dX6_placeByTurns_94 rfl) ni_muLd <|
  ni_row (ni_get (T := TX6) ni_dX6_placeByTurns_95 (by decide) rfl (by decide) ni_uX6 ni_w226) ni_muGet <|
  ni_row (ni_aloadn ni_dX6_placeByTurns_98 rfl) ni_muLd <|
  ni_row (ni_get (T := TX6) ni_dX6_placeByTurns_99 (by decide) rfl (by decide) ni_uX6 ni_w228) ni_muGet <|
  ni_row (ni_okP (ni_dup2 ni_dX6_placeByTurns_102)) (ni_muP ni_eqDup2) <|
  ni_row (ni_iald ni_dX6_placeByTurns_103) ni_muAld <|
  ni_row (ni_iloadn ni_dX6_placeByTurns_104 rfl) ni_muLd <|
  ni_row (ni_okP (ni_isub ni_dX6_placeByTurns_105)) (ni_muP ni_eqI) <|
  ni_row (ni_iast ni_dX6_placeByTurns_106) ni_muAst <|
  ni_row (ni_iloadn ni_dX6_placeByTurns_107 rfl) ni_muLd <|
  ni_row (ni_ret ni_dX6_placeByTurns_108) ni_muR <|
  ni_row (ni_aloadn ni_dX6_placeByTurns_109 rfl) ni_muLd <|
  ni_row (ni_aloadn ni_dX6_placeByTurns_110 rfl) ni_muLd <|
  ni_row (ni_get (T := TX6) ni_dX6_placeByTurns_111 (by decide) rfl (by decide) ni_uX6 ni_w228) ni_muGet <|
  ni_row (ni_okP (ni_iconst ni_dX6_placeByTurns_114 (by decide +kernel))) (ni_muP (ni_eqPush fun _ => rfl)) <|
  ni_row (ni_okP (ni_iadd ni_dX6_placeByTurns_115)) (ni_muP ni_eqI) <|
  ni_row (ni_okP (ni_iconst ni_dX6_placeByTurns_116 (by decide +kernel))) (ni_muP (ni_eqPush fun _ => rfl)) <|
  ni_row (ni_okP (ni_irem ni_dX6_placeByTurns_117)) (ni_muP ni_eqI0) <|
  ni_row (ni_putA (T := TX6) (ty0 := tyX6) (b := false) (Or.inl rfl) rfl ni_dX6_placeByTurns_118 (by decide) rfl (by decide) ni_uX6 tyX6_ok nmX6 ni_w228) ni_muPut <|
  ni_row (ni_aloadn ni_dX6_placeByTurns_121 rfl) ni_muLd <|
  ni_row (ni_okP (ni_iconst ni_dX6_placeByTurns_122 (by decide +kernel))) (ni_muP (ni_eqPush fun _ => rfl)) <|
  ni_row (ni_putA (T := TX6) (ty0 := tyX6) (b := false) (Or.inl rfl) rfl ni_dX6_placeByTurns_123 (by decide) rfl (by decide) ni_uX6 tyX6_ok nmX6 ni_w229) ni_muPut <|
  ni_row (ni_iinc (n := 1) ni_dX6_placeByTurns_126 (by decide)) ni_muInc <|
  ni_row (ni_okP (ni_goto ni_dX6_placeByTurns_129 (by decide))) (ni_muP ni_eqGo) <|
  ni_row (ni_okP (ni_iconst ni_dX6_placeByTurns_132 (by decide +kernel))) (ni_muP (ni_eqPush fun _ => rfl)) <|
  ni_row (ni_ret ni_dX6_placeByTurns_133) ni_muR <|
  ni_row0
def ni_pr117 : List (Nat × ni_S) := [(0, ni_sLd 3 0 1),
  (1, ni_sGet 5 12 4),
  (4, ni_sP (ni_gPush (.int (-1)) 5)),
  (5, ni_sP (ni_gIc (fun x y => decide (¬ x = y)) 19 8)),
  (8, ni_sLd 3 0 9),
  (9, ni_sGet 5 10 12),
  (12, ni_sP (ni_gIf (fun x => decide (x ≤ 0)) 19 15)),
  (15, ni_sLd 3 0 16),
  (16, ni_sV 118 0 5 19),
  (19, ni_sLd 3 0 20),
  (20, ni_sGet 5 12 23),
  (23, ni_sP (ni_gPush (.int (-1)) 24)),
  (24, ni_sP (ni_gIc (fun x y => decide (¬ x = y)) 28 27)),
  (27, ni_sR (none)),
  (28, ni_sLd 3 0 29),
  (29, ni_sP (ni_gDup 30)),
  (30, ni_sGet 5 13 33),
  (33, ni_sLd 0 1 34),
  (34, ni_sLd 3 0 35),
  (35, ni_sGet 5 13 38),
  (38, ni_sP (ni_gIM (fun x y => if y < x then y else x) 41)),
  (41, ni_sP (ni_gI (fun x y => x - y) 42)),
  (42, ni_sPut 5 13 (.int) 45),
  (45, ni_sLd 3 0 46),
  (46, ni_sGet 5 13 49),
  (49, ni_sP (ni_gIf (fun x => decide (¬ x = 0)) 69 52)),
  (52, ni_sLd 3 0 53),
  (53, ni_sGet 5 0 56),
  (56, ni_sLd 3 0 57),
  (57, ni_sGet 5 12 60),
  (60, ni_sLd 0 2 61),
  (61, ni_sV 66 2 2 64),
  (64, ni_sLd 3 0 65),
  (65, ni_sP (ni_gPush (.int (-1)) 66)),
  (66, ni_sPut 5 12 (.int) 69),
  (69, ni_sR (none))]
theorem ni_pk117 : ∀ r ∈ ni_pr117, ni_Ok xs yX6_send cX6_send 3 (none) [] r.1 r.2 ∧ ni_MU r.2 := ni_row (ni_aloadn ni_dX6_send_0 rfl) ni_muLd <|
  ni_row (ni_get (T := TX6) ni_dX6_send_1 (by decide) rfl (by decide) ni_uX6 ni_w235) ni_muGet <|
  ni_row (ni_okP (ni_iconst ni_dX6_send_4 (by decide +kernel))) (ni_muP (ni_eqPush fun _ => rfl)) <|
  ni_row (ni_okP (ni_ic_ne ni_dX6_send_5 (by decide))) (ni_muP ni_eqIc) <|
  ni_row (ni_aloadn ni_dX6_send_8 rfl) ni_muLd <|
  ni_row (ni_get (T := TX6) ni_dX6_send_9 (by decide) rfl (by decide) ni_uX6 ni_w231) ni_muGet <|
  ni_row (ni_okP (ni_if_le ni_dX6_send_12 (by decide))) (ni_muP ni_eqIf) <|
  ni_row (ni_aloadn ni_dX6_send_15 rfl) ni_muLd <|
  ni_row (ni_virt (y := 118) (T := TX6) ni_dX6_send_16 (by decide) rfl rfl ni_w862 ni_w864 ni_w20 ni_w33 ni_w865 ⟨by decide +kernel, by decide +kernel, by decide +kernel⟩ (by decide) rfl) (ni_muV (by decide)) <|
  ni_row (ni_aloadn ni_dX6_send_19 rfl) ni_muLd <|
  ni_row (ni_get (T := TX6) ni_dX6_send_20 (by decide) rfl (by decide) ni_uX6 ni_w235) ni_muGet <|
  ni_row (ni_okP (ni_iconst ni_dX6_send_23 (by decide +kernel))) (ni_muP (ni_eqPush fun _ => rfl)) <|
  ni_row (ni_okP (ni_ic_ne ni_dX6_send_24 (by decide))) (ni_muP ni_eqIc) <|
  ni_row (ni_ret ni_dX6_send_27) ni_muR <|
  ni_row (ni_aloadn ni_dX6_send_28 rfl) ni_muLd <|
  ni_row (ni_okP (ni_dup ni_dX6_send_29)) (ni_muP ni_eqDup) <|
  ni_row (ni_get (T := TX6) ni_dX6_send_30 (by decide) rfl (by decide) ni_uX6 ni_w236) ni_muGet <|
  ni_row (ni_iloadn ni_dX6_send_33 rfl) ni_muLd <|
  ni_row (ni_aloadn ni_dX6_send_34 rfl) ni_muLd <|
  ni_row (ni_get (T := TX6) ni_dX6_send_35 (by decide) rfl (by decide) ni_uX6 ni_w236) ni_muGet <|
  ni_row (ni_okP (ni_min ni_dX6_send_38 ni_w885 ni_w796 ni_w46 ni_w797)) (ni_muP ni_eqIM) <|
  ni_row (ni_okP (ni_isub ni_dX6_send_41)) (ni_muP ni_eqI) <|
  ni_row (ni_putA (T := TX6) (ty0 := tyX6) (b := false) (Or.inl rfl) rfl ni_dX6_send_42 (by decide) rfl (by decide) ni_uX6 tyX6_ok nmX6 ni_w236) ni_muPut <|
  ni_row (ni_aloadn ni_dX6_send_45 rfl) ni_muLd <|
  ni_row (ni_get (T := TX6) ni_dX6_send_46 (by decide) rfl (by decide) ni_uX6 ni_w236) ni_muGet <|
  ni_row (ni_okP (ni_if_ne ni_dX6_send_49 (by decide))) (ni_muP ni_eqIf) <|
  ni_row (ni_aloadn ni_dX6_send_52 rfl) ni_muLd <|
  ni_row (ni_get (T := TX6) ni_dX6_send_53 (by decide) rfl (by decide) ni_uX6 ni_w217) ni_muGet <|
  ni_row (ni_aloadn ni_dX6_send_56 rfl) ni_muLd <|
  ni_row (ni_get (T := TX6) ni_dX6_send_57 (by decide) rfl (by decide) ni_uX6 ni_w235) ni_muGet <|
  ni_row (ni_iloadn ni_dX6_send_60 rfl) ni_muLd <|
  ni_row (ni_virt (y := 66) (T := TX2) ni_dX6_send_61 (by decide) rfl rfl ni_w886 ni_w887 ni_w888 ni_w34 ni_w889 ⟨by decide +kernel, by decide +kernel, by decide +kernel⟩ (by decide) rfl) (ni_muV (by decide)) <|
  ni_row (ni_aloadn ni_dX6_send_64 rfl) ni_muLd <|
  ni_row (ni_okP (ni_iconst ni_dX6_send_65 (by decide +kernel))) (ni_muP (ni_eqPush fun _ => rfl)) <|
  ni_row (ni_putA (T := TX6) (ty0 := tyX6) (b := false) (Or.inl rfl) rfl ni_dX6_send_66 (by decide) rfl (by decide) ni_uX6 tyX6_ok nmX6 ni_w235) ni_muPut <|
  ni_row (ni_ret ni_dX6_send_69) ni_muR <|
  ni_row0
def ni_pr118 : List (Nat × ni_S) := [(0, ni_sLd 3 0 1),
  (1, ni_sV 114 0 5 4),
  (4, ni_sSt 0 1 5),
  (5, ni_sLd 0 1 6),
  (6, ni_sP (ni_gIf (fun x => decide (x < 0)) 17 9)),
  (9, ni_sLd 0 1 10),
  (10, ni_sLd 3 0 11),
  (11, ni_sGet 5 10 14),
  (14, ni_sP (ni_gIc (fun x y => decide (x < y)) 18 17)),
  (17, ni_sR (none)),
  (18, ni_sLd 3 0 19),
  (19, ni_sLd 3 0 20),
  (20, ni_sGet 5 9 23),
  (23, ni_sLd 0 1 24),
  (24, ni_sAld .int 0 25),
  (25, ni_sPut 5 12 (.int) 28),
  (28, ni_sLd 3 0 29),
  (29, ni_sLd 3 0 30),
  (30, ni_sGet 5 12 33),
  (33, ni_sC 104 1 36),
  (36, ni_sPut 5 13 (.int) 39),
  (39, ni_sLd 3 0 40),
  (40, ni_sP (ni_gDup 41)),
  (41, ni_sGet 5 11 44),
  (44, ni_sLd 3 0 45),
  (45, ni_sGet 5 13 48),
  (48, ni_sP (ni_gI (fun x y => x - y) 49)),
  (49, ni_sPut 5 11 (.int) 52),
  (52, ni_sLd 0 1 53),
  (53, ni_sP (ni_gPush (.int 1) 54)),
  (54, ni_sP (ni_gI (fun x y => x + y) 55)),
  (55, ni_sSt 0 2 56),
  (56, ni_sLd 0 2 57),
  (57, ni_sLd 3 0 58),
  (58, ni_sGet 5 10 61),
  (61, ni_sP (ni_gIc (fun x y => decide (y ≤ x)) 84 64)),
  (64, ni_sLd 3 0 65),
  (65, ni_sGet 5 9 68),
  (68, ni_sLd 0 2 69),
  (69, ni_sP (ni_gPush (.int 1) 70)),
  (70, ni_sP (ni_gI (fun x y => x - y) 71)),
  (71, ni_sLd 3 0 72),
  (72, ni_sGet 5 9 75),
  (75, ni_sLd 0 2 76),
  (76, ni_sAld .int 0 77),
  (77, ni_sAst .int 0 78),
  (78, ni_sInc 2 (1) 81),
  (81, ni_sP (ni_gGo 56)),
  (84, ni_sLd 3 0 85),
  (85, ni_sP (ni_gDup 86)),
  (86, ni_sGet 5 10 89),
  (89, ni_sP (ni_gPush (.int 1) 90)),
  (90, ni_sP (ni_gI (fun x y => x - y) 91)),
  (91, ni_sPut 5 10 (.int) 94),
  (94, ni_sR (none))]
theorem ni_pk118 : ∀ r ∈ ni_pr118, ni_Ok xs yX6_takeNext cX6_takeNext 3 (none) [] r.1 r.2 ∧ ni_MU r.2 := ni_row (ni_aloadn ni_dX6_takeNext_0 rfl) ni_muLd <|
  ni_row (ni_virt (y := 114) (T := TX6) ni_dX6_takeNext_1 (by decide) rfl rfl ni_w866 ni_w868 ni_w21 ni_w33 ni_w869 ⟨by decide +kernel, by decide +kernel, by decide +kernel⟩ (by decide) rfl) (ni_muV (by decide)) <|
  ni_row (ni_istoren ni_dX6_takeNext_4 rfl (by decide)) ni_muSt <|
  ni_row (ni_iloadn ni_dX6_takeNext_5 rfl) ni_muLd <|
  ni_row (ni_okP (ni_if_lt ni_dX6_takeNext_6 (by decide))) (ni_muP ni_eqIf) <|
  ni_row (ni_iloadn ni_dX6_takeNext_9 rfl) ni_muLd <|
  ni_row (ni_aloadn ni_dX6_takeNext_10 rfl) ni_muLd <|
  ni_row (ni_get (T := TX6) ni_dX6_takeNext_11 (by decide) rfl (by decide) ni_uX6 ni_w231) ni_muGet <|
  ni_row (ni_okP (ni_ic_lt ni_dX6_takeNext_14 (by decide))) (ni_muP ni_eqIc) <|
  ni_row (ni_ret ni_dX6_takeNext_17) ni_muR <|
  ni_row (ni_aloadn ni_dX6_takeNext_18 rfl) ni_muLd <|
  ni_row (ni_aloadn ni_dX6_takeNext_19 rfl) ni_muLd <|
  ni_row (ni_get (T := TX6) ni_dX6_takeNext_20 (by decide) rfl (by decide) ni_uX6 ni_w230) ni_muGet <|
  ni_row (ni_iloadn ni_dX6_takeNext_23 rfl) ni_muLd <|
  ni_row (ni_iald ni_dX6_takeNext_24) ni_muAld <|
  ni_row (ni_putA (T := TX6) (ty0 := tyX6) (b := false) (Or.inl rfl) rfl ni_dX6_takeNext_25 (by decide) rfl (by decide) ni_uX6 tyX6_ok nmX6 ni_w235) ni_muPut <|
  ni_row (ni_aloadn ni_dX6_takeNext_28 rfl) ni_muLd <|
  ni_row (ni_aloadn ni_dX6_takeNext_29 rfl) ni_muLd <|
  ni_row (ni_get (T := TX6) ni_dX6_takeNext_30 (by decide) rfl (by decide) ni_uX6 ni_w235) ni_muGet <|
  ni_row (ni_stat (y := 104) ni_dX6_takeNext_33 ni_w784 ni_w785 ni_w45 ni_w786 ⟨by decide +kernel, by decide +kernel, by decide +kernel⟩ (by decide) rfl) ni_muC <|
  ni_row (ni_putA (T := TX6) (ty0 := tyX6) (b := false) (Or.inl rfl) rfl ni_dX6_takeNext_36 (by decide) rfl (by decide) ni_uX6 tyX6_ok nmX6 ni_w236) ni_muPut <|
  ni_row (ni_aloadn ni_dX6_takeNext_39 rfl) ni_muLd <|
  ni_row (ni_okP (ni_dup ni_dX6_takeNext_40)) (ni_muP ni_eqDup) <|
  ni_row (ni_get (T := TX6) ni_dX6_takeNext_41 (by decide) rfl (by decide) ni_uX6 ni_w233) ni_muGet <|
  ni_row (ni_aloadn ni_dX6_takeNext_44 rfl) ni_muLd <|
  ni_row (ni_get (T := TX6) ni_dX6_takeNext_45 (by decide) rfl (by decide) ni_uX6 ni_w236) ni_muGet <|
  ni_row (ni_okP (ni_isub ni_dX6_takeNext_48)) (ni_muP ni_eqI) <|
  ni_row (ni_putA (T := TX6) (ty0 := tyX6) (b := false) (Or.inl rfl) rfl ni_dX6_takeNext_49 (by decide) rfl (by decide) ni_uX6 tyX6_ok nmX6 ni_w233) ni_muPut <|
  ni_row (ni_iloadn ni_dX6_takeNext_52 rfl) ni_muLd <|
  ni_row (ni_okP (ni_iconst ni_dX6_takeNext_53 (by decide +kernel))) (ni_muP (ni_eqPush fun _ => rfl)) <|
  ni_row (ni_okP (ni_iadd ni_dX6_takeNext_54)) (ni_muP ni_eqI) <|
  ni_row (ni_istoren ni_dX6_takeNext_55 rfl (by decide)) ni_muSt <|
  ni_row (ni_iloadn ni_dX6_takeNext_56 rfl) ni_muLd <|
  ni_row (ni_aloadn ni_dX6_takeNext_57 rfl) ni_muLd <|
  ni_row (ni_get (T := TX6) ni_dX6_takeNext_58 (by decide) rfl (by decide) ni_uX6 ni_w231) ni_muGet <|
  ni_row (ni_okP (ni_ic_ge ni_dX6_takeNext_61 (by decide))) (ni_muP ni_eqIc) <|
  ni_row (ni_aloadn ni_dX6_takeNext_64 rfl) ni_muLd <|
  ni_row (ni_get (T := TX6) ni_dX6_takeNext_65 (by decide) rfl (by decide) ni_uX6 ni_w230) ni_muGet <|
  ni_row (ni_iloadn ni_dX6_takeNext_68 rfl) ni_muLd <|
  ni_row (ni_okP (ni_iconst ni_dX6_takeNext_69 (by decide +kernel))) (ni_muP (ni_eqPush fun _ => rfl)) <|
  ni_row (ni_okP (ni_isub ni_dX6_takeNext_70)) (ni_muP ni_eqI) <|
  ni_row (ni_aloadn ni_dX6_takeNext_71 rfl) ni_muLd <|
  ni_row (ni_get (T := TX6) ni_dX6_takeNext_72 (by decide) rfl (by decide) ni_uX6 ni_w230) ni_muGet <|
  ni_row (ni_iloadn ni_dX6_takeNext_75 rfl) ni_muLd <|
  ni_row (ni_iald ni_dX6_takeNext_76) ni_muAld <|
  ni_row (ni_iast ni_dX6_takeNext_77) ni_muAst <|
  ni_row (ni_iinc (n := 1) ni_dX6_takeNext_78 (by decide)) ni_muInc <|
  ni_row (ni_okP (ni_goto ni_dX6_takeNext_81 (by decide))) (ni_muP ni_eqGo) <|
  ni_row (ni_aloadn ni_dX6_takeNext_84 rfl) ni_muLd <|
  ni_row (ni_okP (ni_dup ni_dX6_takeNext_85)) (ni_muP ni_eqDup) <|
  ni_row (ni_get (T := TX6) ni_dX6_takeNext_86 (by decide) rfl (by decide) ni_uX6 ni_w231) ni_muGet <|
  ni_row (ni_okP (ni_iconst ni_dX6_takeNext_89 (by decide +kernel))) (ni_muP (ni_eqPush fun _ => rfl)) <|
  ni_row (ni_okP (ni_isub ni_dX6_takeNext_90)) (ni_muP ni_eqI) <|
  ni_row (ni_putA (T := TX6) (ty0 := tyX6) (b := false) (Or.inl rfl) rfl ni_dX6_takeNext_91 (by decide) rfl (by decide) ni_uX6 tyX6_ok nmX6 ni_w231) ni_muPut <|
  ni_row (ni_ret ni_dX6_takeNext_94) ni_muR <|
  ni_row0
def ni_pr119 : List (Nat × ni_S) := [(0, ni_sLd 0 0 1),
  (1, ni_sP (ni_gPush (.int 5) 2)),
  (2, ni_sP (ni_gI (fun x y => x >>> (y &&& 31)) 3)),
  (3, ni_sR (some .int))]
theorem ni_pk119 : ∀ r ∈ ni_pr119, ni_Ok xs yX7_addressOf cX7_addressOf 1 (some .int) [] r.1 r.2 ∧ ni_MU r.2 := ni_row (ni_iloadn ni_dX7_addressOf_0 rfl) ni_muLd <|
  ni_row (ni_okP (ni_iconst ni_dX7_addressOf_1 (by decide +kernel))) (ni_muP (ni_eqPush fun _ => rfl)) <|
  ni_row (ni_okP (ni_ishr ni_dX7_addressOf_2)) (ni_muP ni_eqI) <|
  ni_row (ni_ret ni_dX7_addressOf_3) ni_muR <|
  ni_row0
def ni_pr120 : List (Nat × ni_S) := [(0, ni_sP (ni_gPush (.int 16) 2)),
  (2, ni_sSt 0 2 3),
  (3, ni_sLd 0 0 4),
  (4, ni_sLd 0 1 5),
  (5, ni_sP (ni_gI (fun x y => x ^^^ y) 6)),
  (6, ni_sSt 0 3 7),
  (7, ni_sLd 0 3 8),
  (8, ni_sP (ni_gIf (fun x => decide (x = 0)) 25 11)),
  (11, ni_sLd 0 2 12),
  (12, ni_sP (ni_gIf (fun x => decide (x ≤ 0)) 25 15)),
  (15, ni_sInc 2 (-1) 18),
  (18, ni_sLd 0 3 19),
  (19, ni_sP (ni_gPush (.int 1) 20)),
  (20, ni_sP (ni_gI (fun x y => x >>> (y &&& 31)) 21)),
  (21, ni_sSt 0 3 22),
  (22, ni_sP (ni_gGo 7)),
  (25, ni_sLd 0 2 26),
  (26, ni_sR (some .int))]
theorem ni_pk120 : ∀ r ∈ ni_pr120, ni_Ok xs yX7_commonLength cX7_commonLength 4 (some .int) [] r.1 r.2 ∧ ni_MU r.2 := ni_row (ni_okP (ni_bipush ni_dX7_commonLength_0 (by decide +kernel))) (ni_muP (ni_eqPush fun _ => rfl)) <|
  ni_row (ni_istoren ni_dX7_commonLength_2 rfl (by decide)) ni_muSt <|
  ni_row (ni_iloadn ni_dX7_commonLength_3 rfl) ni_muLd <|
  ni_row (ni_iloadn ni_dX7_commonLength_4 rfl) ni_muLd <|
  ni_row (ni_okP (ni_ixor ni_dX7_commonLength_5)) (ni_muP ni_eqI) <|
  ni_row (ni_istoren ni_dX7_commonLength_6 rfl (by decide)) ni_muSt <|
  ni_row (ni_iloadn ni_dX7_commonLength_7 rfl) ni_muLd <|
  ni_row (ni_okP (ni_if_eq ni_dX7_commonLength_8 (by decide))) (ni_muP ni_eqIf) <|
  ni_row (ni_iloadn ni_dX7_commonLength_11 rfl) ni_muLd <|
  ni_row (ni_okP (ni_if_le ni_dX7_commonLength_12 (by decide))) (ni_muP ni_eqIf) <|
  ni_row (ni_iinc (n := -1) ni_dX7_commonLength_15 (by decide)) ni_muInc <|
  ni_row (ni_iloadn ni_dX7_commonLength_18 rfl) ni_muLd <|
  ni_row (ni_okP (ni_iconst ni_dX7_commonLength_19 (by decide +kernel))) (ni_muP (ni_eqPush fun _ => rfl)) <|
  ni_row (ni_okP (ni_ishr ni_dX7_commonLength_20)) (ni_muP ni_eqI) <|
  ni_row (ni_istoren ni_dX7_commonLength_21 rfl (by decide)) ni_muSt <|
  ni_row (ni_okP (ni_goto ni_dX7_commonLength_22 (by decide))) (ni_muP ni_eqGo) <|
  ni_row (ni_iloadn ni_dX7_commonLength_25 rfl) ni_muLd <|
  ni_row (ni_ret ni_dX7_commonLength_26) ni_muR <|
  ni_row0
def ni_pr121 : List (Nat × ni_S) := [(0, ni_sLd 0 0 1),
  (1, ni_sC 119 1 4),
  (4, ni_sLd 0 1 5),
  (5, ni_sP (ni_gI (fun x y => x ^^^ y) 6)),
  (6, ni_sP (ni_gPush (.int 16) 8)),
  (8, ni_sLd 0 0 9),
  (9, ni_sC 124 1 12),
  (12, ni_sP (ni_gI (fun x y => x - y) 13)),
  (13, ni_sP (ni_gI (fun x y => x >>> (y &&& 31)) 14)),
  (14, ni_sP (ni_gIf (fun x => decide (¬ x = 0)) 21 17)),
  (17, ni_sP (ni_gPush (.int 1) 18)),
  (18, ni_sP (ni_gGo 22)),
  (21, ni_sP (ni_gPush (.int 0) 22)),
  (22, ni_sR (some .boolean))]
theorem ni_pk121 : ∀ r ∈ ni_pr121, ni_Ok xs yX7_fits cX7_fits 2 (some .boolean) [] r.1 r.2 ∧ ni_MU r.2 := ni_row (ni_iloadn ni_dX7_fits_0 rfl) ni_muLd <|
  ni_row (ni_stat (y := 119) ni_dX7_fits_1 ni_w746 ni_w747 ni_w44 ni_w748 ⟨by decide +kernel, by decide +kernel, by decide +kernel⟩ (by decide) rfl) ni_muC <|
  ni_row (ni_iloadn ni_dX7_fits_4 rfl) ni_muLd <|
  ni_row (ni_okP (ni_ixor ni_dX7_fits_5)) (ni_muP ni_eqI) <|
  ni_row (ni_okP (ni_bipush ni_dX7_fits_6 (by decide +kernel))) (ni_muP (ni_eqPush fun _ => rfl)) <|
  ni_row (ni_iloadn ni_dX7_fits_8 rfl) ni_muLd <|
  ni_row (ni_stat (y := 124) ni_dX7_fits_9 ni_w749 ni_w741 ni_w44 ni_w742 ⟨by decide +kernel, by decide +kernel, by decide +kernel⟩ (by decide) rfl) ni_muC <|
  ni_row (ni_okP (ni_isub ni_dX7_fits_12)) (ni_muP ni_eqI) <|
  ni_row (ni_okP (ni_ishr ni_dX7_fits_13)) (ni_muP ni_eqI) <|
  ni_row (ni_okP (ni_if_ne ni_dX7_fits_14 (by decide))) (ni_muP ni_eqIf) <|
  ni_row (ni_okP (ni_iconst ni_dX7_fits_17 (by decide +kernel))) (ni_muP (ni_eqPush fun _ => rfl)) <|
  ni_row (ni_okP (ni_goto ni_dX7_fits_18 (by decide))) (ni_muP ni_eqGo) <|
  ni_row (ni_okP (ni_iconst ni_dX7_fits_21 (by decide +kernel))) (ni_muP (ni_eqPush fun _ => rfl)) <|
  ni_row (ni_ret ni_dX7_fits_22) ni_muR <|
  ni_row0
def ni_pr122 : List (Nat × ni_S) := [(0, ni_sLd 0 0 1),
  (1, ni_sP (ni_gPush (.int 15) 3)),
  (3, ni_sLd 0 1 4),
  (4, ni_sP (ni_gI (fun x y => x - y) 5)),
  (5, ni_sP (ni_gI (fun x y => x >>> (y &&& 31)) 6)),
  (6, ni_sP (ni_gPush (.int 1) 7)),
  (7, ni_sP (ni_gI (fun x y => x &&& y) 8)),
  (8, ni_sP (ni_gIf (fun x => decide (x = 0)) 15 11)),
  (11, ni_sP (ni_gPush (.int 1) 12)),
  (12, ni_sP (ni_gGo 16)),
  (15, ni_sP (ni_gPush (.int 0) 16)),
  (16, ni_sR (some .boolean))]
theorem ni_pk122 : ∀ r ∈ ni_pr122, ni_Ok xs yX7_hasBit cX7_hasBit 2 (some .boolean) [] r.1 r.2 ∧ ni_MU r.2 := ni_row (ni_iloadn ni_dX7_hasBit_0 rfl) ni_muLd <|
  ni_row (ni_okP (ni_bipush ni_dX7_hasBit_1 (by decide +kernel))) (ni_muP (ni_eqPush fun _ => rfl)) <|
  ni_row (ni_iloadn ni_dX7_hasBit_3 rfl) ni_muLd <|
  ni_row (ni_okP (ni_isub ni_dX7_hasBit_4)) (ni_muP ni_eqI) <|
  ni_row (ni_okP (ni_ishr ni_dX7_hasBit_5)) (ni_muP ni_eqI) <|
  ni_row (ni_okP (ni_iconst ni_dX7_hasBit_6 (by decide +kernel))) (ni_muP (ni_eqPush fun _ => rfl)) <|
  ni_row (ni_okP (ni_iand ni_dX7_hasBit_7)) (ni_muP ni_eqI) <|
  ni_row (ni_okP (ni_if_eq ni_dX7_hasBit_8 (by decide))) (ni_muP ni_eqIf) <|
  ni_row (ni_okP (ni_iconst ni_dX7_hasBit_11 (by decide +kernel))) (ni_muP (ni_eqPush fun _ => rfl)) <|
  ni_row (ni_okP (ni_goto ni_dX7_hasBit_12 (by decide))) (ni_muP ni_eqGo) <|
  ni_row (ni_okP (ni_iconst ni_dX7_hasBit_15 (by decide +kernel))) (ni_muP (ni_eqPush fun _ => rfl)) <|
  ni_row (ni_ret ni_dX7_hasBit_16) ni_muR <|
  ni_row0
def ni_pr123 : List (Nat × ni_S) := [(0, ni_sLd 0 0 1),
  (1, ni_sP (ni_gPush (.int 1) 2)),
  (2, ni_sP (ni_gPush (.int 16) 4)),
  (4, ni_sLd 0 1 5),
  (5, ni_sP (ni_gI (fun x y => x - y) 6)),
  (6, ni_sP (ni_gI (fun x y => x <<< (y &&& 31)) 7)),
  (7, ni_sP (ni_gPush (.int 1) 8)),
  (8, ni_sP (ni_gI (fun x y => x - y) 9)),
  (9, ni_sP (ni_gI (fun x y => x &&& y) 10)),
  (10, ni_sP (ni_gIf (fun x => decide (x = 0)) 17 13)),
  (13, ni_sP (ni_gPush (.int 1) 14)),
  (14, ni_sP (ni_gGo 18)),
  (17, ni_sP (ni_gPush (.int 0) 18)),
  (18, ni_sR (some .boolean))]
theorem ni_pk123 : ∀ r ∈ ni_pr123, ni_Ok xs yX7_hasMore cX7_hasMore 2 (some .boolean) [] r.1 r.2 ∧ ni_MU r.2 := ni_row (ni_iloadn ni_dX7_hasMore_0 rfl) ni_muLd <|
  ni_row (ni_okP (ni_iconst ni_dX7_hasMore_1 (by decide +kernel))) (ni_muP (ni_eqPush fun _ => rfl)) <|
  ni_row (ni_okP (ni_bipush ni_dX7_hasMore_2 (by decide +kernel))) (ni_muP (ni_eqPush fun _ => rfl)) <|
  ni_row (ni_iloadn ni_dX7_hasMore_4 rfl) ni_muLd <|
  ni_row (ni_okP (ni_isub ni_dX7_hasMore_5)) (ni_muP ni_eqI) <|
  ni_row (ni_okP (ni_ishl ni_dX7_hasMore_6)) (ni_muP ni_eqI) <|
  ni_row (ni_okP (ni_iconst ni_dX7_hasMore_7 (by decide +kernel))) (ni_muP (ni_eqPush fun _ => rfl)) <|
  ni_row (ni_okP (ni_isub ni_dX7_hasMore_8)) (ni_muP ni_eqI) <|
  ni_row (ni_okP (ni_iand ni_dX7_hasMore_9)) (ni_muP ni_eqI) <|
  ni_row (ni_okP (ni_if_eq ni_dX7_hasMore_10 (by decide))) (ni_muP ni_eqIf) <|
  ni_row (ni_okP (ni_iconst ni_dX7_hasMore_13 (by decide +kernel))) (ni_muP (ni_eqPush fun _ => rfl)) <|
  ni_row (ni_okP (ni_goto ni_dX7_hasMore_14 (by decide))) (ni_muP ni_eqGo) <|
  ni_row (ni_okP (ni_iconst ni_dX7_hasMore_17 (by decide +kernel))) (ni_muP (ni_eqPush fun _ => rfl)) <|
  ni_row (ni_ret ni_dX7_hasMore_18) ni_muR <|
  ni_row0
def ni_pr124 : List (Nat × ni_S) := [(0, ni_sLd 0 0 1),
  (1, ni_sP (ni_gPush (.int 31) 3)),
  (3, ni_sP (ni_gI (fun x y => x &&& y) 4)),
  (4, ni_sR (some .int))]
theorem ni_pk124 : ∀ r ∈ ni_pr124, ni_Ok xs yX7_lengthOf cX7_lengthOf 1 (some .int) [] r.1 r.2 ∧ ni_MU r.2 := ni_row (ni_iloadn ni_dX7_lengthOf_0 rfl) ni_muLd <|
  ni_row (ni_okP (ni_bipush ni_dX7_lengthOf_1 (by decide +kernel))) (ni_muP (ni_eqPush fun _ => rfl)) <|
  ni_row (ni_okP (ni_iand ni_dX7_lengthOf_3)) (ni_muP ni_eqI) <|
  ni_row (ni_ret ni_dX7_lengthOf_4) ni_muR <|
  ni_row0
def ni_pr125 : List (Nat × ni_S) := [(0, ni_sLd 0 0 1),
  (1, ni_sP (ni_gPush (.int 32) 3)),
  (3, ni_sP (ni_gI (fun x y => x * y) 4)),
  (4, ni_sLd 0 1 5),
  (5, ni_sP (ni_gI (fun x y => x + y) 6)),
  (6, ni_sR (some .int))]
theorem ni_pk125 : ∀ r ∈ ni_pr125, ni_Ok xs yX7_of cX7_of 2 (some .int) [] r.1 r.2 ∧ ni_MU r.2 := ni_row (ni_iloadn ni_dX7_of_0 rfl) ni_muLd <|
  ni_row (ni_okP (ni_bipush ni_dX7_of_1 (by decide +kernel))) (ni_muP (ni_eqPush fun _ => rfl)) <|
  ni_row (ni_okP (ni_imul ni_dX7_of_3)) (ni_muP ni_eqI) <|
  ni_row (ni_iloadn ni_dX7_of_4 rfl) ni_muLd <|
  ni_row (ni_okP (ni_iadd ni_dX7_of_5)) (ni_muP ni_eqI) <|
  ni_row (ni_ret ni_dX7_of_6) ni_muR <|
  ni_row0
def ni_pr126 : List (Nat × ni_S) := [(0, ni_sLd 3 0 1),
  (1, ni_sP (ni_gObj 4)),
  (4, ni_sLd 3 0 5),
  (5, ni_sLd 0 1 6),
  (6, ni_sNewa 0 .int 8),
  (8, ni_sPut 6 0 (.array (.int)) 11),
  (11, ni_sLd 3 0 12),
  (12, ni_sLd 0 1 13),
  (13, ni_sNewa 0 .int 15),
  (15, ni_sPut 6 1 (.array (.int)) 18),
  (18, ni_sLd 3 0 19),
  (19, ni_sLd 0 1 20),
  (20, ni_sNewa 0 .int 22),
  (22, ni_sPut 6 2 (.array (.int)) 25),
  (25, ni_sR (none))]
theorem ni_pk126 : ∀ r ∈ ni_pr126, ni_Ok xs yX8_init cX8_init 2 (none) [] r.1 r.2 ∧ ni_MU r.2 := ni_row (ni_aloadn ni_dX8_init_0 rfl) ni_muLd <|
  ni_row (ni_okP (ni_objInit ni_dX8_init_1 ni_w74 ni_w55 ni_w56)) (ni_muP ni_eqObj) <|
  ni_row (ni_aloadn ni_dX8_init_4 rfl) ni_muLd <|
  ni_row (ni_iloadn ni_dX8_init_5 rfl) ni_muLd <|
  ni_row (ni_newa ni_dX8_init_6 rfl rfl (by decide) ni_w93) ni_muNewa <|
  ni_row (ni_putA (T := TX8) (ty0 := tyX8) (b := true) (Or.inr ⟨rfl, rfl, rfl⟩) rfl ni_dX8_init_8 (by decide) rfl (by decide) ni_uX8 tyX8_ok nmX8 ni_w75) ni_muPut <|
  ni_row (ni_aloadn ni_dX8_init_11 rfl) ni_muLd <|
  ni_row (ni_iloadn ni_dX8_init_12 rfl) ni_muLd <|
  ni_row (ni_newa ni_dX8_init_13 rfl rfl (by decide) ni_w93) ni_muNewa <|
  ni_row (ni_putA (T := TX8) (ty0 := tyX8) (b := true) (Or.inr ⟨rfl, rfl, rfl⟩) rfl ni_dX8_init_15 (by decide) rfl (by decide) ni_uX8 tyX8_ok nmX8 ni_w77) ni_muPut <|
  ni_row (ni_aloadn ni_dX8_init_18 rfl) ni_muLd <|
  ni_row (ni_iloadn ni_dX8_init_19 rfl) ni_muLd <|
  ni_row (ni_newa ni_dX8_init_20 rfl rfl (by decide) ni_w93) ni_muNewa <|
  ni_row (ni_putA (T := TX8) (ty0 := tyX8) (b := true) (Or.inr ⟨rfl, rfl, rfl⟩) rfl ni_dX8_init_22 (by decide) rfl (by decide) ni_uX8 tyX8_ok nmX8 ni_w79) ni_muPut <|
  ni_row (ni_ret ni_dX8_init_25) ni_muR <|
  ni_row0
def ni_pr127 : List (Nat × ni_S) := [(0, ni_sLd 3 0 1),
  (1, ni_sGet 6 3 4),
  (4, ni_sLd 3 0 5),
  (5, ni_sGet 6 0 8),
  (8, ni_sLen 9),
  (9, ni_sP (ni_gIc (fun x y => decide (x < y)) 14 12)),
  (12, ni_sP (ni_gPush (.int (-1)) 13)),
  (13, ni_sR (some .int)),
  (14, ni_sLd 3 0 15),
  (15, ni_sGet 6 0 18),
  (18, ni_sLd 3 0 19),
  (19, ni_sGet 6 3 22),
  (22, ni_sLd 0 1 23),
  (23, ni_sAst .int 0 24),
  (24, ni_sLd 3 0 25),
  (25, ni_sGet 6 1 28),
  (28, ni_sLd 3 0 29),
  (29, ni_sGet 6 3 32),
  (32, ni_sLd 0 2 33),
  (33, ni_sAst .int 0 34),
  (34, ni_sLd 3 0 35),
  (35, ni_sGet 6 2 38),
  (38, ni_sLd 3 0 39),
  (39, ni_sGet 6 3 42),
  (42, ni_sLd 0 3 43),
  (43, ni_sAst .int 0 44),
  (44, ni_sLd 3 0 45),
  (45, ni_sP (ni_gDup 46)),
  (46, ni_sGet 6 3 49),
  (49, ni_sP (ni_gPush (.int 1) 50)),
  (50, ni_sP (ni_gI (fun x y => x + y) 51)),
  (51, ni_sPut 6 3 (.int) 54),
  (54, ni_sLd 3 0 55),
  (55, ni_sGet 6 3 58),
  (58, ni_sP (ni_gPush (.int 1) 59)),
  (59, ni_sP (ni_gI (fun x y => x - y) 60)),
  (60, ni_sR (some .int))]
theorem ni_pk127 : ∀ r ∈ ni_pr127, ni_Ok xs yX8_add cX8_add 4 (some .int) [] r.1 r.2 ∧ ni_MU r.2 := ni_row (ni_aloadn ni_dX8_add_0 rfl) ni_muLd <|
  ni_row (ni_get (T := TX8) ni_dX8_add_1 (by decide) rfl (by decide) ni_uX8 ni_w81) ni_muGet <|
  ni_row (ni_aloadn ni_dX8_add_4 rfl) ni_muLd <|
  ni_row (ni_get (T := TX8) ni_dX8_add_5 (by decide) rfl (by decide) ni_uX8 ni_w75) ni_muGet <|
  ni_row (ni_len ni_dX8_add_8) ni_muLen <|
  ni_row (ni_okP (ni_ic_lt ni_dX8_add_9 (by decide))) (ni_muP ni_eqIc) <|
  ni_row (ni_okP (ni_iconst ni_dX8_add_12 (by decide +kernel))) (ni_muP (ni_eqPush fun _ => rfl)) <|
  ni_row (ni_ret ni_dX8_add_13) ni_muR <|
  ni_row (ni_aloadn ni_dX8_add_14 rfl) ni_muLd <|
  ni_row (ni_get (T := TX8) ni_dX8_add_15 (by decide) rfl (by decide) ni_uX8 ni_w75) ni_muGet <|
  ni_row (ni_aloadn ni_dX8_add_18 rfl) ni_muLd <|
  ni_row (ni_get (T := TX8) ni_dX8_add_19 (by decide) rfl (by decide) ni_uX8 ni_w81) ni_muGet <|
  ni_row (ni_iloadn ni_dX8_add_22 rfl) ni_muLd <|
  ni_row (ni_iast ni_dX8_add_23) ni_muAst <|
  ni_row (ni_aloadn ni_dX8_add_24 rfl) ni_muLd <|
  ni_row (ni_get (T := TX8) ni_dX8_add_25 (by decide) rfl (by decide) ni_uX8 ni_w77) ni_muGet <|
  ni_row (ni_aloadn ni_dX8_add_28 rfl) ni_muLd <|
  ni_row (ni_get (T := TX8) ni_dX8_add_29 (by decide) rfl (by decide) ni_uX8 ni_w81) ni_muGet <|
  ni_row (ni_iloadn ni_dX8_add_32 rfl) ni_muLd <|
  ni_row (ni_iast ni_dX8_add_33) ni_muAst <|
  ni_row (ni_aloadn ni_dX8_add_34 rfl) ni_muLd <|
  ni_row (ni_get (T := TX8) ni_dX8_add_35 (by decide) rfl (by decide) ni_uX8 ni_w79) ni_muGet <|
  ni_row (ni_aloadn ni_dX8_add_38 rfl) ni_muLd <|
  ni_row (ni_get (T := TX8) ni_dX8_add_39 (by decide) rfl (by decide) ni_uX8 ni_w81) ni_muGet <|
  ni_row (ni_iloadn ni_dX8_add_42 rfl) ni_muLd <|
  ni_row (ni_iast ni_dX8_add_43) ni_muAst <|
  ni_row (ni_aloadn ni_dX8_add_44 rfl) ni_muLd <|
  ni_row (ni_okP (ni_dup ni_dX8_add_45)) (ni_muP ni_eqDup) <|
  ni_row (ni_get (T := TX8) ni_dX8_add_46 (by decide) rfl (by decide) ni_uX8 ni_w81) ni_muGet <|
  ni_row (ni_okP (ni_iconst ni_dX8_add_49 (by decide +kernel))) (ni_muP (ni_eqPush fun _ => rfl)) <|
  ni_row (ni_okP (ni_iadd ni_dX8_add_50)) (ni_muP ni_eqI) <|
  ni_row (ni_putA (T := TX8) (ty0 := tyX8) (b := false) (Or.inl rfl) rfl ni_dX8_add_51 (by decide) rfl (by decide) ni_uX8 tyX8_ok nmX8 ni_w81) ni_muPut <|
  ni_row (ni_aloadn ni_dX8_add_54 rfl) ni_muLd <|
  ni_row (ni_get (T := TX8) ni_dX8_add_55 (by decide) rfl (by decide) ni_uX8 ni_w81) ni_muGet <|
  ni_row (ni_okP (ni_iconst ni_dX8_add_58 (by decide +kernel))) (ni_muP (ni_eqPush fun _ => rfl)) <|
  ni_row (ni_okP (ni_isub ni_dX8_add_59)) (ni_muP ni_eqI) <|
  ni_row (ni_ret ni_dX8_add_60) ni_muR <|
  ni_row0
def ni_pr128 : List (Nat × ni_S) := [(0, ni_sLd 3 0 1),
  (1, ni_sLd 3 1 2),
  (2, ni_sGet 6 3 5),
  (5, ni_sPut 6 3 (.int) 8),
  (8, ni_sLd 3 1 9),
  (9, ni_sGet 6 0 12),
  (12, ni_sP (ni_gPush (.int 0) 13)),
  (13, ni_sLd 3 0 14),
  (14, ni_sGet 6 0 17),
  (17, ni_sP (ni_gPush (.int 0) 18)),
  (18, ni_sLd 3 0 19),
  (19, ni_sGet 6 3 22),
  (22, ni_sCopy 25),
  (25, ni_sLd 3 1 26),
  (26, ni_sGet 6 1 29),
  (29, ni_sP (ni_gPush (.int 0) 30)),
  (30, ni_sLd 3 0 31),
  (31, ni_sGet 6 1 34),
  (34, ni_sP (ni_gPush (.int 0) 35)),
  (35, ni_sLd 3 0 36),
  (36, ni_sGet 6 3 39),
  (39, ni_sCopy 42),
  (42, ni_sLd 3 1 43),
  (43, ni_sGet 6 2 46),
  (46, ni_sP (ni_gPush (.int 0) 47)),
  (47, ni_sLd 3 0 48),
  (48, ni_sGet 6 2 51),
  (51, ni_sP (ni_gPush (.int 0) 52)),
  (52, ni_sLd 3 0 53),
  (53, ni_sGet 6 3 56),
  (56, ni_sCopy 59),
  (59, ni_sR (none))]
theorem ni_pk128 : ∀ r ∈ ni_pr128, ni_Ok xs yX8_copyFrom cX8_copyFrom 2 (none) [] r.1 r.2 ∧ ni_MU r.2 := ni_row (ni_aloadn ni_dX8_copyFrom_0 rfl) ni_muLd <|
  ni_row (ni_aloadn ni_dX8_copyFrom_1 rfl) ni_muLd <|
  ni_row (ni_get (T := TX8) ni_dX8_copyFrom_2 (by decide) rfl (by decide) ni_uX8 ni_w81) ni_muGet <|
  ni_row (ni_putA (T := TX8) (ty0 := tyX8) (b := false) (Or.inl rfl) rfl ni_dX8_copyFrom_5 (by decide) rfl (by decide) ni_uX8 tyX8_ok nmX8 ni_w81) ni_muPut <|
  ni_row (ni_aloadn ni_dX8_copyFrom_8 rfl) ni_muLd <|
  ni_row (ni_get (T := TX8) ni_dX8_copyFrom_9 (by decide) rfl (by decide) ni_uX8 ni_w75) ni_muGet <|
  ni_row (ni_okP (ni_iconst ni_dX8_copyFrom_12 (by decide +kernel))) (ni_muP (ni_eqPush fun _ => rfl)) <|
  ni_row (ni_aloadn ni_dX8_copyFrom_13 rfl) ni_muLd <|
  ni_row (ni_get (T := TX8) ni_dX8_copyFrom_14 (by decide) rfl (by decide) ni_uX8 ni_w75) ni_muGet <|
  ni_row (ni_okP (ni_iconst ni_dX8_copyFrom_17 (by decide +kernel))) (ni_muP (ni_eqPush fun _ => rfl)) <|
  ni_row (ni_aloadn ni_dX8_copyFrom_18 rfl) ni_muLd <|
  ni_row (ni_get (T := TX8) ni_dX8_copyFrom_19 (by decide) rfl (by decide) ni_uX8 ni_w81) ni_muGet <|
  ni_row (ni_copy ni_dX8_copyFrom_22 ni_w949 ni_w920 ni_w919 ni_w48) ni_muCopy <|
  ni_row (ni_aloadn ni_dX8_copyFrom_25 rfl) ni_muLd <|
  ni_row (ni_get (T := TX8) ni_dX8_copyFrom_26 (by decide) rfl (by decide) ni_uX8 ni_w77) ni_muGet <|
  ni_row (ni_okP (ni_iconst ni_dX8_copyFrom_29 (by decide +kernel))) (ni_muP (ni_eqPush fun _ => rfl)) <|
  ni_row (ni_aloadn ni_dX8_copyFrom_30 rfl) ni_muLd <|
  ni_row (ni_get (T := TX8) ni_dX8_copyFrom_31 (by decide) rfl (by decide) ni_uX8 ni_w77) ni_muGet <|
  ni_row (ni_okP (ni_iconst ni_dX8_copyFrom_34 (by decide +kernel))) (ni_muP (ni_eqPush fun _ => rfl)) <|
  ni_row (ni_aloadn ni_dX8_copyFrom_35 rfl) ni_muLd <|
  ni_row (ni_get (T := TX8) ni_dX8_copyFrom_36 (by decide) rfl (by decide) ni_uX8 ni_w81) ni_muGet <|
  ni_row (ni_copy ni_dX8_copyFrom_39 ni_w949 ni_w920 ni_w919 ni_w48) ni_muCopy <|
  ni_row (ni_aloadn ni_dX8_copyFrom_42 rfl) ni_muLd <|
  ni_row (ni_get (T := TX8) ni_dX8_copyFrom_43 (by decide) rfl (by decide) ni_uX8 ni_w79) ni_muGet <|
  ni_row (ni_okP (ni_iconst ni_dX8_copyFrom_46 (by decide +kernel))) (ni_muP (ni_eqPush fun _ => rfl)) <|
  ni_row (ni_aloadn ni_dX8_copyFrom_47 rfl) ni_muLd <|
  ni_row (ni_get (T := TX8) ni_dX8_copyFrom_48 (by decide) rfl (by decide) ni_uX8 ni_w79) ni_muGet <|
  ni_row (ni_okP (ni_iconst ni_dX8_copyFrom_51 (by decide +kernel))) (ni_muP (ni_eqPush fun _ => rfl)) <|
  ni_row (ni_aloadn ni_dX8_copyFrom_52 rfl) ni_muLd <|
  ni_row (ni_get (T := TX8) ni_dX8_copyFrom_53 (by decide) rfl (by decide) ni_uX8 ni_w81) ni_muGet <|
  ni_row (ni_copy ni_dX8_copyFrom_56 ni_w949 ni_w920 ni_w919 ni_w48) ni_muCopy <|
  ni_row (ni_ret ni_dX8_copyFrom_59) ni_muR <|
  ni_row0
def ni_pr129 : List (Nat × ni_S) := [(0, ni_sP (ni_gPush (.int 0) 1)),
  (1, ni_sSt 0 3 2),
  (2, ni_sLd 0 3 3),
  (3, ni_sLd 3 0 4),
  (4, ni_sGet 6 3 7),
  (7, ni_sP (ni_gIc (fun x y => decide (y ≤ x)) 38 10)),
  (10, ni_sLd 3 0 11),
  (11, ni_sGet 6 0 14),
  (14, ni_sLd 0 3 15),
  (15, ni_sAld .int 0 16),
  (16, ni_sLd 0 1 17),
  (17, ni_sP (ni_gIc (fun x y => decide (¬ x = y)) 32 20)),
  (20, ni_sLd 3 0 21),
  (21, ni_sGet 6 1 24),
  (24, ni_sLd 0 3 25),
  (25, ni_sAld .int 0 26),
  (26, ni_sLd 0 2 27),
  (27, ni_sP (ni_gIc (fun x y => decide (¬ x = y)) 32 30)),
  (30, ni_sP (ni_gPush (.int 1) 31)),
  (31, ni_sR (some .boolean)),
  (32, ni_sInc 3 (1) 35),
  (35, ni_sP (ni_gGo 2)),
  (38, ni_sP (ni_gPush (.int 0) 39)),
  (39, ni_sR (some .boolean))]
theorem ni_pk129 : ∀ r ∈ ni_pr129, ni_Ok xs yX8_has cX8_has 4 (some .boolean) [] r.1 r.2 ∧ ni_MU r.2 := ni_row (ni_okP (ni_iconst ni_dX8_has_0 (by decide +kernel))) (ni_muP (ni_eqPush fun _ => rfl)) <|
  ni_row (ni_istoren ni_dX8_has_1 rfl (by decide)) ni_muSt <|
  ni_row (ni_iloadn ni_dX8_has_2 rfl) ni_muLd <|
  ni_row (ni_aloadn ni_dX8_has_3 rfl) ni_muLd <|
  ni_row (ni_get (T := TX8) ni_dX8_has_4 (by decide) rfl (by decide) ni_uX8 ni_w81) ni_muGet <|
  ni_row (ni_okP (ni_ic_ge ni_dX8_has_7 (by decide))) (ni_muP ni_eqIc) <|
  ni_row (ni_aloadn ni_dX8_has_10 rfl) ni_muLd <|
  ni_row (ni_get (T := TX8) ni_dX8_has_11 (by decide) rfl (by decide) ni_uX8 ni_w75) ni_muGet <|
  ni_row (ni_iloadn ni_dX8_has_14 rfl) ni_muLd <|
  ni_row (ni_iald ni_dX8_has_15) ni_muAld <|
  ni_row (ni_iloadn ni_dX8_has_16 rfl) ni_muLd <|
  ni_row (ni_okP (ni_ic_ne ni_dX8_has_17 (by decide))) (ni_muP ni_eqIc) <|
  ni_row (ni_aloadn ni_dX8_has_20 rfl) ni_muLd <|
  ni_row (ni_get (T := TX8) ni_dX8_has_21 (by decide) rfl (by decide) ni_uX8 ni_w77) ni_muGet <|
  ni_row (ni_iloadn ni_dX8_has_24 rfl) ni_muLd <|
  ni_row (ni_iald ni_dX8_has_25) ni_muAld <|
  ni_row (ni_iloadn ni_dX8_has_26 rfl) ni_muLd <|
  ni_row (ni_okP (ni_ic_ne ni_dX8_has_27 (by decide))) (ni_muP ni_eqIc) <|
  ni_row (ni_okP (ni_iconst ni_dX8_has_30 (by decide +kernel))) (ni_muP (ni_eqPush fun _ => rfl)) <|
  ni_row (ni_ret ni_dX8_has_31) ni_muR <|
  ni_row (ni_iinc (n := 1) ni_dX8_has_32 (by decide)) ni_muInc <|
  ni_row (ni_okP (ni_goto ni_dX8_has_35 (by decide))) (ni_muP ni_eqGo) <|
  ni_row (ni_okP (ni_iconst ni_dX8_has_38 (by decide +kernel))) (ni_muP (ni_eqPush fun _ => rfl)) <|
  ni_row (ni_ret ni_dX8_has_39) ni_muR <|
  ni_row0
def ni_pr130 : List (Nat × ni_S) := [(0, ni_sP (ni_gPush (.int 0) 1)),
  (1, ni_sSt 0 2 2),
  (2, ni_sP (ni_gPush (.int 0) 3)),
  (3, ni_sSt 0 3 4),
  (4, ni_sLd 0 3 5),
  (5, ni_sLd 3 0 6),
  (6, ni_sGet 6 3 9),
  (9, ni_sP (ni_gIc (fun x y => decide (y ≤ x)) 36 12)),
  (12, ni_sLd 0 2 13),
  (13, ni_sLd 3 0 14),
  (14, ni_sGet 6 0 17),
  (17, ni_sLd 0 3 18),
  (18, ni_sAld .int 0 19),
  (19, ni_sLd 0 1 20),
  (20, ni_sP (ni_gIc (fun x y => decide (¬ x = y)) 27 23)),
  (23, ni_sP (ni_gPush (.int 1) 24)),
  (24, ni_sP (ni_gGo 28)),
  (27, ni_sP (ni_gPush (.int 0) 28)),
  (28, ni_sP (ni_gI (fun x y => x + y) 29)),
  (29, ni_sSt 0 2 30),
  (30, ni_sInc 3 (1) 33),
  (33, ni_sP (ni_gGo 4)),
  (36, ni_sLd 0 2 37),
  (37, ni_sNewa 0 .int 39),
  (39, ni_sSt 3 3 40),
  (40, ni_sP (ni_gPush (.int 0) 41)),
  (41, ni_sSt 0 4 43),
  (43, ni_sP (ni_gPush (.int 0) 44)),
  (44, ni_sSt 0 5 46),
  (46, ni_sLd 0 5 48),
  (48, ni_sLd 3 0 49),
  (49, ni_sGet 6 3 52),
  (52, ni_sP (ni_gIc (fun x y => decide (y ≤ x)) 92 55)),
  (55, ni_sLd 0 4 57),
  (57, ni_sLd 0 2 58),
  (58, ni_sP (ni_gIc (fun x y => decide (y ≤ x)) 92 61)),
  (61, ni_sLd 3 0 62),
  (62, ni_sGet 6 0 65),
  (65, ni_sLd 0 5 67),
  (67, ni_sAld .int 0 68),
  (68, ni_sLd 0 1 69),
  (69, ni_sP (ni_gIc (fun x y => decide (¬ x = y)) 86 72)),
  (72, ni_sLd 3 3 73),
  (73, ni_sLd 0 4 75),
  (75, ni_sLd 3 0 76),
  (76, ni_sGet 6 1 79),
  (79, ni_sLd 0 5 81),
  (81, ni_sAld .int 0 82),
  (82, ni_sAst .int 0 83),
  (83, ni_sInc 4 (1) 86),
  (86, ni_sInc 5 (1) 89),
  (89, ni_sP (ni_gGo 46)),
  (92, ni_sLd 3 3 93),
  (93, ni_sR (some (.array (.int))))]
theorem ni_pk130 : ∀ r ∈ ni_pr130, ni_Ok xs yX8_prefixesAt cX8_prefixesAt 6 (some (.array (.int))) [] r.1 r.2 ∧ ni_MU r.2 := ni_row (ni_okP (ni_iconst ni_dX8_prefixesAt_0 (by decide +kernel))) (ni_muP (ni_eqPush fun _ => rfl)) <|
  ni_row (ni_istoren ni_dX8_prefixesAt_1 rfl (by decide)) ni_muSt <|
  ni_row (ni_okP (ni_iconst ni_dX8_prefixesAt_2 (by decide +kernel))) (ni_muP (ni_eqPush fun _ => rfl)) <|
  ni_row (ni_istoren ni_dX8_prefixesAt_3 rfl (by decide)) ni_muSt <|
  ni_row (ni_iloadn ni_dX8_prefixesAt_4 rfl) ni_muLd <|
  ni_row (ni_aloadn ni_dX8_prefixesAt_5 rfl) ni_muLd <|
  ni_row (ni_get (T := TX8) ni_dX8_prefixesAt_6 (by decide) rfl (by decide) ni_uX8 ni_w81) ni_muGet <|
  ni_row (ni_okP (ni_ic_ge ni_dX8_prefixesAt_9 (by decide))) (ni_muP ni_eqIc) <|
  ni_row (ni_iloadn ni_dX8_prefixesAt_12 rfl) ni_muLd <|
  ni_row (ni_aloadn ni_dX8_prefixesAt_13 rfl) ni_muLd <|
  ni_row (ni_get (T := TX8) ni_dX8_prefixesAt_14 (by decide) rfl (by decide) ni_uX8 ni_w75) ni_muGet <|
  ni_row (ni_iloadn ni_dX8_prefixesAt_17 rfl) ni_muLd <|
  ni_row (ni_iald ni_dX8_prefixesAt_18) ni_muAld <|
  ni_row (ni_iloadn ni_dX8_prefixesAt_19 rfl) ni_muLd <|
  ni_row (ni_okP (ni_ic_ne ni_dX8_prefixesAt_20 (by decide))) (ni_muP ni_eqIc) <|
  ni_row (ni_okP (ni_iconst ni_dX8_prefixesAt_23 (by decide +kernel))) (ni_muP (ni_eqPush fun _ => rfl)) <|
  ni_row (ni_okP (ni_goto ni_dX8_prefixesAt_24 (by decide))) (ni_muP ni_eqGo) <|
  ni_row (ni_okP (ni_iconst ni_dX8_prefixesAt_27 (by decide +kernel))) (ni_muP (ni_eqPush fun _ => rfl)) <|
  ni_row (ni_okP (ni_iadd ni_dX8_prefixesAt_28)) (ni_muP ni_eqI) <|
  ni_row (ni_istoren ni_dX8_prefixesAt_29 rfl (by decide)) ni_muSt <|
  ni_row (ni_iinc (n := 1) ni_dX8_prefixesAt_30 (by decide)) ni_muInc <|
  ni_row (ni_okP (ni_goto ni_dX8_prefixesAt_33 (by decide))) (ni_muP ni_eqGo) <|
  ni_row (ni_iloadn ni_dX8_prefixesAt_36 rfl) ni_muLd <|
  ni_row (ni_newa ni_dX8_prefixesAt_37 rfl rfl (by decide) ni_w93) ni_muNewa <|
  ni_row (ni_astoren ni_dX8_prefixesAt_39 rfl (by decide)) ni_muSt <|
  ni_row (ni_okP (ni_iconst ni_dX8_prefixesAt_40 (by decide +kernel))) (ni_muP (ni_eqPush fun _ => rfl)) <|
  ni_row (ni_istore ni_dX8_prefixesAt_41 (by decide)) ni_muSt <|
  ni_row (ni_okP (ni_iconst ni_dX8_prefixesAt_43 (by decide +kernel))) (ni_muP (ni_eqPush fun _ => rfl)) <|
  ni_row (ni_istore ni_dX8_prefixesAt_44 (by decide)) ni_muSt <|
  ni_row (ni_iload ni_dX8_prefixesAt_46) ni_muLd <|
  ni_row (ni_aloadn ni_dX8_prefixesAt_48 rfl) ni_muLd <|
  ni_row (ni_get (T := TX8) ni_dX8_prefixesAt_49 (by decide) rfl (by decide) ni_uX8 ni_w81) ni_muGet <|
  ni_row (ni_okP (ni_ic_ge ni_dX8_prefixesAt_52 (by decide))) (ni_muP ni_eqIc) <|
  ni_row (ni_iload ni_dX8_prefixesAt_55) ni_muLd <|
  ni_row (ni_iloadn ni_dX8_prefixesAt_57 rfl) ni_muLd <|
  ni_row (ni_okP (ni_ic_ge ni_dX8_prefixesAt_58 (by decide))) (ni_muP ni_eqIc) <|
  ni_row (ni_aloadn ni_dX8_prefixesAt_61 rfl) ni_muLd <|
  ni_row (ni_get (T := TX8) ni_dX8_prefixesAt_62 (by decide) rfl (by decide) ni_uX8 ni_w75) ni_muGet <|
  ni_row (ni_iload ni_dX8_prefixesAt_65) ni_muLd <|
  ni_row (ni_iald ni_dX8_prefixesAt_67) ni_muAld <|
  ni_row (ni_iloadn ni_dX8_prefixesAt_68 rfl) ni_muLd <|
  ni_row (ni_okP (ni_ic_ne ni_dX8_prefixesAt_69 (by decide))) (ni_muP ni_eqIc) <|
  ni_row (ni_aloadn ni_dX8_prefixesAt_72 rfl) ni_muLd <|
  ni_row (ni_iload ni_dX8_prefixesAt_73) ni_muLd <|
  ni_row (ni_aloadn ni_dX8_prefixesAt_75 rfl) ni_muLd <|
  ni_row (ni_get (T := TX8) ni_dX8_prefixesAt_76 (by decide) rfl (by decide) ni_uX8 ni_w77) ni_muGet <|
  ni_row (ni_iload ni_dX8_prefixesAt_79) ni_muLd <|
  ni_row (ni_iald ni_dX8_prefixesAt_81) ni_muAld <|
  ni_row (ni_iast ni_dX8_prefixesAt_82) ni_muAst <|
  ni_row (ni_iinc (n := 1) ni_dX8_prefixesAt_83 (by decide)) ni_muInc <|
  ni_row (ni_iinc (n := 1) ni_dX8_prefixesAt_86 (by decide)) ni_muInc <|
  ni_row (ni_okP (ni_goto ni_dX8_prefixesAt_89 (by decide))) (ni_muP ni_eqGo) <|
  ni_row (ni_aloadn ni_dX8_prefixesAt_92 rfl) ni_muLd <|
  ni_row (ni_ret ni_dX8_prefixesAt_93) ni_muR <|
  ni_row0
end NIP
