section NIP
variable {xs : List Int32}
def ni_pr141 : List (Nat × ni_S) := [(0, ni_sLd 3 0 1),
  (1, ni_sP (ni_gObj 4)),
  (4, ni_sLd 3 0 5),
  (5, ni_sP (ni_gPush (.int 216) 8)),
  (8, ni_sNewa 0 .int 10),
  (10, ni_sPut 8 0 (.array (.int)) 13),
  (13, ni_sLd 3 0 14),
  (14, ni_sP (ni_gPush (.int 216) 17)),
  (17, ni_sNewa 0 .int 19),
  (19, ni_sPut 8 1 (.array (.int)) 22),
  (22, ni_sLd 3 0 23),
  (23, ni_sP (ni_gPush (.int 216) 26)),
  (26, ni_sNewa 0 .int 28),
  (28, ni_sPut 8 2 (.array (.int)) 31),
  (31, ni_sR (none))]
theorem ni_pk141 : ∀ r ∈ ni_pr141, ni_Ok xs yX10_init cX10_init 1 (none) [] r.1 r.2 ∧ ni_MU r.2 := ni_row (ni_aloadn ni_dX10_init_0 rfl) ni_muLd <|
  ni_row (ni_okP (ni_objInit ni_dX10_init_1 ni_w343 ni_w55 ni_w56)) (ni_muP ni_eqObj) <|
  ni_row (ni_aloadn ni_dX10_init_4 rfl) ni_muLd <|
  ni_row (ni_okP (ni_sipush ni_dX10_init_5 (by decide +kernel))) (ni_muP (ni_eqPush fun _ => rfl)) <|
  ni_row (ni_newa ni_dX10_init_8 rfl rfl (by decide) ni_w93) ni_muNewa <|
  ni_row (ni_putA (T := TX10) (ty0 := tyX10) (b := true) (Or.inr ⟨rfl, rfl, rfl⟩) rfl ni_dX10_init_10 (by decide) rfl (by decide) ni_uX10 tyX10_ok nmX10 ni_w344) ni_muPut <|
  ni_row (ni_aloadn ni_dX10_init_13 rfl) ni_muLd <|
  ni_row (ni_okP (ni_sipush ni_dX10_init_14 (by decide +kernel))) (ni_muP (ni_eqPush fun _ => rfl)) <|
  ni_row (ni_newa ni_dX10_init_17 rfl rfl (by decide) ni_w93) ni_muNewa <|
  ni_row (ni_putA (T := TX10) (ty0 := tyX10) (b := true) (Or.inr ⟨rfl, rfl, rfl⟩) rfl ni_dX10_init_19 (by decide) rfl (by decide) ni_uX10 tyX10_ok nmX10 ni_w345) ni_muPut <|
  ni_row (ni_aloadn ni_dX10_init_22 rfl) ni_muLd <|
  ni_row (ni_okP (ni_sipush ni_dX10_init_23 (by decide +kernel))) (ni_muP (ni_eqPush fun _ => rfl)) <|
  ni_row (ni_newa ni_dX10_init_26 rfl rfl (by decide) ni_w93) ni_muNewa <|
  ni_row (ni_putA (T := TX10) (ty0 := tyX10) (b := true) (Or.inr ⟨rfl, rfl, rfl⟩) rfl ni_dX10_init_28 (by decide) rfl (by decide) ni_uX10 tyX10_ok nmX10 ni_w347) ni_muPut <|
  ni_row (ni_ret ni_dX10_init_31) ni_muR <|
  ni_row0
def ni_pr142 : List (Nat × ni_S) := [(0, ni_sLd 0 1 1),
  (1, ni_sLd 0 2 2),
  (2, ni_sP (ni_gIc (fun x y => decide (y ≤ x)) 21 5)),
  (5, ni_sLd 3 0 6),
  (6, ni_sLd 0 1 7),
  (7, ni_sAld .int 0 8),
  (8, ni_sC 124 1 11),
  (11, ni_sLd 0 3 12),
  (12, ni_sP (ni_gIc (fun x y => decide (¬ x = y)) 21 15)),
  (15, ni_sLd 0 1 16),
  (16, ni_sP (ni_gPush (.int 1) 17)),
  (17, ni_sP (ni_gI (fun x y => x + y) 18)),
  (18, ni_sP (ni_gGo 22)),
  (21, ni_sLd 0 1 22),
  (22, ni_sR (some .int))]
theorem ni_pk142 : ∀ r ∈ ni_pr142, ni_Ok xs yX10_behindNode cX10_behindNode 4 (some .int) [] r.1 r.2 ∧ ni_MU r.2 := ni_row (ni_iloadn ni_dX10_behindNode_0 rfl) ni_muLd <|
  ni_row (ni_iloadn ni_dX10_behindNode_1 rfl) ni_muLd <|
  ni_row (ni_okP (ni_ic_ge ni_dX10_behindNode_2 (by decide))) (ni_muP ni_eqIc) <|
  ni_row (ni_aloadn ni_dX10_behindNode_5 rfl) ni_muLd <|
  ni_row (ni_iloadn ni_dX10_behindNode_6 rfl) ni_muLd <|
  ni_row (ni_iald ni_dX10_behindNode_7) ni_muAld <|
  ni_row (ni_stat (y := 124) ni_dX10_behindNode_8 ni_w740 ni_w741 ni_w44 ni_w742 ⟨by decide +kernel, by decide +kernel, by decide +kernel⟩ (by decide) rfl) ni_muC <|
  ni_row (ni_iloadn ni_dX10_behindNode_11 rfl) ni_muLd <|
  ni_row (ni_okP (ni_ic_ne ni_dX10_behindNode_12 (by decide))) (ni_muP ni_eqIc) <|
  ni_row (ni_iloadn ni_dX10_behindNode_15 rfl) ni_muLd <|
  ni_row (ni_okP (ni_iconst ni_dX10_behindNode_16 (by decide +kernel))) (ni_muP (ni_eqPush fun _ => rfl)) <|
  ni_row (ni_okP (ni_iadd ni_dX10_behindNode_17)) (ni_muP ni_eqI) <|
  ni_row (ni_okP (ni_goto ni_dX10_behindNode_18 (by decide))) (ni_muP ni_eqGo) <|
  ni_row (ni_iloadn ni_dX10_behindNode_21 rfl) ni_muLd <|
  ni_row (ni_ret ni_dX10_behindNode_22) ni_muR <|
  ni_row0
def ni_pr143 : List (Nat × ni_S) := [(0, ni_sLd 3 0 1),
  (1, ni_sLd 3 1 2),
  (2, ni_sGet 8 3 5),
  (5, ni_sPut 8 3 (.int) 8),
  (8, ni_sLd 3 1 9),
  (9, ni_sGet 8 0 12),
  (12, ni_sP (ni_gPush (.int 0) 13)),
  (13, ni_sLd 3 0 14),
  (14, ni_sGet 8 0 17),
  (17, ni_sP (ni_gPush (.int 0) 18)),
  (18, ni_sLd 3 0 19),
  (19, ni_sGet 8 3 22),
  (22, ni_sCopy 25),
  (25, ni_sLd 3 1 26),
  (26, ni_sGet 8 1 29),
  (29, ni_sP (ni_gPush (.int 0) 30)),
  (30, ni_sLd 3 0 31),
  (31, ni_sGet 8 1 34),
  (34, ni_sP (ni_gPush (.int 0) 35)),
  (35, ni_sLd 3 0 36),
  (36, ni_sGet 8 3 39),
  (39, ni_sCopy 42),
  (42, ni_sLd 3 1 43),
  (43, ni_sGet 8 2 46),
  (46, ni_sP (ni_gPush (.int 0) 47)),
  (47, ni_sLd 3 0 48),
  (48, ni_sGet 8 2 51),
  (51, ni_sP (ni_gPush (.int 0) 52)),
  (52, ni_sLd 3 0 53),
  (53, ni_sGet 8 3 56),
  (56, ni_sCopy 59),
  (59, ni_sR (none))]
theorem ni_pk143 : ∀ r ∈ ni_pr143, ni_Ok xs yX10_copyFrom cX10_copyFrom 2 (none) [] r.1 r.2 ∧ ni_MU r.2 := ni_row (ni_aloadn ni_dX10_copyFrom_0 rfl) ni_muLd <|
  ni_row (ni_aloadn ni_dX10_copyFrom_1 rfl) ni_muLd <|
  ni_row (ni_get (T := TX10) ni_dX10_copyFrom_2 (by decide) rfl (by decide) ni_uX10 ni_w349) ni_muGet <|
  ni_row (ni_putA (T := TX10) (ty0 := tyX10) (b := false) (Or.inl rfl) rfl ni_dX10_copyFrom_5 (by decide) rfl (by decide) ni_uX10 tyX10_ok nmX10 ni_w349) ni_muPut <|
  ni_row (ni_aloadn ni_dX10_copyFrom_8 rfl) ni_muLd <|
  ni_row (ni_get (T := TX10) ni_dX10_copyFrom_9 (by decide) rfl (by decide) ni_uX10 ni_w344) ni_muGet <|
  ni_row (ni_okP (ni_iconst ni_dX10_copyFrom_12 (by decide +kernel))) (ni_muP (ni_eqPush fun _ => rfl)) <|
  ni_row (ni_aloadn ni_dX10_copyFrom_13 rfl) ni_muLd <|
  ni_row (ni_get (T := TX10) ni_dX10_copyFrom_14 (by decide) rfl (by decide) ni_uX10 ni_w344) ni_muGet <|
  ni_row (ni_okP (ni_iconst ni_dX10_copyFrom_17 (by decide +kernel))) (ni_muP (ni_eqPush fun _ => rfl)) <|
  ni_row (ni_aloadn ni_dX10_copyFrom_18 rfl) ni_muLd <|
  ni_row (ni_get (T := TX10) ni_dX10_copyFrom_19 (by decide) rfl (by decide) ni_uX10 ni_w349) ni_muGet <|
  ni_row (ni_copy ni_dX10_copyFrom_22 ni_w925 ni_w920 ni_w919 ni_w48) ni_muCopy <|
  ni_row (ni_aloadn ni_dX10_copyFrom_25 rfl) ni_muLd <|
  ni_row (ni_get (T := TX10) ni_dX10_copyFrom_26 (by decide) rfl (by decide) ni_uX10 ni_w345) ni_muGet <|
  ni_row (ni_okP (ni_iconst ni_dX10_copyFrom_29 (by decide +kernel))) (ni_muP (ni_eqPush fun _ => rfl)) <|
  ni_row (ni_aloadn ni_dX10_copyFrom_30 rfl) ni_muLd <|
  ni_row (ni_get (T := TX10) ni_dX10_copyFrom_31 (by decide) rfl (by decide) ni_uX10 ni_w345) ni_muGet <|
  ni_row (ni_okP (ni_iconst ni_dX10_copyFrom_34 (by decide +kernel))) (ni_muP (ni_eqPush fun _ => rfl)) <|
  ni_row (ni_aloadn ni_dX10_copyFrom_35 rfl) ni_muLd <|
  ni_row (ni_get (T := TX10) ni_dX10_copyFrom_36 (by decide) rfl (by decide) ni_uX10 ni_w349) ni_muGet <|
  ni_row (ni_copy ni_dX10_copyFrom_39 ni_w925 ni_w920 ni_w919 ni_w48) ni_muCopy <|
  ni_row (ni_aloadn ni_dX10_copyFrom_42 rfl) ni_muLd <|
  ni_row (ni_get (T := TX10) ni_dX10_copyFrom_43 (by decide) rfl (by decide) ni_uX10 ni_w347) ni_muGet <|
  ni_row (ni_okP (ni_iconst ni_dX10_copyFrom_46 (by decide +kernel))) (ni_muP (ni_eqPush fun _ => rfl)) <|
  ni_row (ni_aloadn ni_dX10_copyFrom_47 rfl) ni_muLd <|
  ni_row (ni_get (T := TX10) ni_dX10_copyFrom_48 (by decide) rfl (by decide) ni_uX10 ni_w347) ni_muGet <|
  ni_row (ni_okP (ni_iconst ni_dX10_copyFrom_51 (by decide +kernel))) (ni_muP (ni_eqPush fun _ => rfl)) <|
  ni_row (ni_aloadn ni_dX10_copyFrom_52 rfl) ni_muLd <|
  ni_row (ni_get (T := TX10) ni_dX10_copyFrom_53 (by decide) rfl (by decide) ni_uX10 ni_w349) ni_muGet <|
  ni_row (ni_copy ni_dX10_copyFrom_56 ni_w925 ni_w920 ni_w919 ni_w48) ni_muCopy <|
  ni_row (ni_ret ni_dX10_copyFrom_59) ni_muR <|
  ni_row0
def ni_pr144 : List (Nat × ni_S) := [(0, ni_sLd 3 0 1),
  (1, ni_sGet 8 0 4),
  (4, ni_sP (ni_gPush (.int 0) 5)),
  (5, ni_sLd 3 0 6),
  (6, ni_sGet 8 3 9),
  (9, ni_sP (ni_gPush (.int 0) 10)),
  (10, ni_sP (ni_gPush (.int 0) 11)),
  (11, ni_sC 149 5 14),
  (14, ni_sR (some .int))]
theorem ni_pk144 : ∀ r ∈ ni_pr144, ni_Ok xs yX10_countLevels cX10_countLevels 1 (some .int) [] r.1 r.2 ∧ ni_MU r.2 := ni_row (ni_aloadn ni_dX10_countLevels_0 rfl) ni_muLd <|
  ni_row (ni_get (T := TX10) ni_dX10_countLevels_1 (by decide) rfl (by decide) ni_uX10 ni_w344) ni_muGet <|
  ni_row (ni_okP (ni_iconst ni_dX10_countLevels_4 (by decide +kernel))) (ni_muP (ni_eqPush fun _ => rfl)) <|
  ni_row (ni_aloadn ni_dX10_countLevels_5 rfl) ni_muLd <|
  ni_row (ni_get (T := TX10) ni_dX10_countLevels_6 (by decide) rfl (by decide) ni_uX10 ni_w349) ni_muGet <|
  ni_row (ni_okP (ni_iconst ni_dX10_countLevels_9 (by decide +kernel))) (ni_muP (ni_eqPush fun _ => rfl)) <|
  ni_row (ni_okP (ni_iconst ni_dX10_countLevels_10 (by decide +kernel))) (ni_muP (ni_eqPush fun _ => rfl)) <|
  ni_row (ni_stat (y := 149) ni_dX10_countLevels_11 ni_w993 ni_w994 ni_w37 ni_w995 ⟨by decide +kernel, by decide +kernel, by decide +kernel⟩ (by decide) rfl) ni_muC <|
  ni_row (ni_ret ni_dX10_countLevels_14) ni_muR <|
  ni_row0
def ni_pr145 : List (Nat × ni_S) := [(0, ni_sLd 3 0 1),
  (1, ni_sGet 8 0 4),
  (4, ni_sP (ni_gPush (.int 0) 5)),
  (5, ni_sLd 3 0 6),
  (6, ni_sGet 8 3 9),
  (9, ni_sP (ni_gPush (.int 0) 10)),
  (10, ni_sP (ni_gPush (.int 0) 11)),
  (11, ni_sC 151 5 14),
  (14, ni_sR (some .int))]
theorem ni_pk145 : ∀ r ∈ ni_pr145, ni_Ok xs yX10_countNodes cX10_countNodes 1 (some .int) [] r.1 r.2 ∧ ni_MU r.2 := ni_row (ni_aloadn ni_dX10_countNodes_0 rfl) ni_muLd <|
  ni_row (ni_get (T := TX10) ni_dX10_countNodes_1 (by decide) rfl (by decide) ni_uX10 ni_w344) ni_muGet <|
  ni_row (ni_okP (ni_iconst ni_dX10_countNodes_4 (by decide +kernel))) (ni_muP (ni_eqPush fun _ => rfl)) <|
  ni_row (ni_aloadn ni_dX10_countNodes_5 rfl) ni_muLd <|
  ni_row (ni_get (T := TX10) ni_dX10_countNodes_6 (by decide) rfl (by decide) ni_uX10 ni_w349) ni_muGet <|
  ni_row (ni_okP (ni_iconst ni_dX10_countNodes_9 (by decide +kernel))) (ni_muP (ni_eqPush fun _ => rfl)) <|
  ni_row (ni_okP (ni_iconst ni_dX10_countNodes_10 (by decide +kernel))) (ni_muP (ni_eqPush fun _ => rfl)) <|
  ni_row (ni_stat (y := 151) ni_dX10_countNodes_11 ni_w969 ni_w970 ni_w37 ni_w971 ⟨by decide +kernel, by decide +kernel, by decide +kernel⟩ (by decide) rfl) ni_muC <|
  ni_row (ni_ret ni_dX10_countNodes_14) ni_muR <|
  ni_row0
def ni_pr146 : List (Nat × ni_S) := [(0, ni_sP (ni_gPush (.int 0) 1)),
  (1, ni_sSt 0 4 3),
  (3, ni_sLd 0 4 5),
  (5, ni_sLd 3 0 6),
  (6, ni_sGet 8 3 9),
  (9, ni_sP (ni_gIc (fun x y => decide (y ≤ x)) 29 12)),
  (12, ni_sLd 3 0 13),
  (13, ni_sGet 8 0 16),
  (16, ni_sLd 0 4 18),
  (18, ni_sAld .int 0 19),
  (19, ni_sLd 0 1 20),
  (20, ni_sP (ni_gIc (fun x y => decide (y ≤ x)) 29 23)),
  (23, ni_sInc 4 (1) 26),
  (26, ni_sP (ni_gGo 3)),
  (29, ni_sLd 0 4 31),
  (31, ni_sLd 3 0 32),
  (32, ni_sGet 8 3 35),
  (35, ni_sP (ni_gIc (fun x y => decide (y ≤ x)) 53 38)),
  (38, ni_sLd 3 0 39),
  (39, ni_sGet 8 0 42),
  (42, ni_sLd 0 4 44),
  (44, ni_sAld .int 0 45),
  (45, ni_sLd 0 1 46),
  (46, ni_sP (ni_gIc (fun x y => decide (¬ x = y)) 53 49)),
  (49, ni_sP (ni_gPush (.int 1) 50)),
  (50, ni_sP (ni_gGo 54)),
  (53, ni_sP (ni_gPush (.int 0) 54)),
  (54, ni_sSt 0 5 56),
  (56, ni_sLd 0 5 58),
  (58, ni_sP (ni_gIf (fun x => decide (¬ x = 0)) 71 61)),
  (61, ni_sLd 3 0 62),
  (62, ni_sGet 8 3 65),
  (65, ni_sP (ni_gPush (.int 216) 68)),
  (68, ni_sP (ni_gIc (fun x y => decide (x < y)) 72 71)),
  (71, ni_sR (none)),
  (72, ni_sLd 3 0 73),
  (73, ni_sGet 8 3 76),
  (76, ni_sSt 0 6 78),
  (78, ni_sLd 0 6 80),
  (80, ni_sLd 0 4 82),
  (82, ni_sP (ni_gIc (fun x y => decide (x ≤ y)) 139 85)),
  (85, ni_sLd 3 0 86),
  (86, ni_sGet 8 0 89),
  (89, ni_sLd 0 6 91),
  (91, ni_sLd 3 0 92),
  (92, ni_sGet 8 0 95),
  (95, ni_sLd 0 6 97),
  (97, ni_sP (ni_gPush (.int 1) 98)),
  (98, ni_sP (ni_gI (fun x y => x - y) 99)),
  (99, ni_sAld .int 0 100),
  (100, ni_sAst .int 0 101),
  (101, ni_sLd 3 0 102),
  (102, ni_sGet 8 1 105),
  (105, ni_sLd 0 6 107),
  (107, ni_sLd 3 0 108),
  (108, ni_sGet 8 1 111),
  (111, ni_sLd 0 6 113),
  (113, ni_sP (ni_gPush (.int 1) 114)),
  (114, ni_sP (ni_gI (fun x y => x - y) 115)),
  (115, ni_sAld .int 0 116),
  (116, ni_sAst .int 0 117),
  (117, ni_sLd 3 0 118),
  (118, ni_sGet 8 2 121),
  (121, ni_sLd 0 6 123),
  (123, ni_sLd 3 0 124),
  (124, ni_sGet 8 2 127),
  (127, ni_sLd 0 6 129),
  (129, ni_sP (ni_gPush (.int 1) 130)),
  (130, ni_sP (ni_gI (fun x y => x - y) 131)),
  (131, ni_sAld .int 0 132),
  (132, ni_sAst .int 0 133),
  (133, ni_sInc 6 (-1) 136),
  (136, ni_sP (ni_gGo 78)),
  (139, ni_sLd 3 0 140),
  (140, ni_sGet 8 0 143),
  (143, ni_sLd 0 4 145),
  (145, ni_sLd 0 1 146),
  (146, ni_sAst .int 0 147),
  (147, ni_sLd 3 0 148),
  (148, ni_sGet 8 1 151),
  (151, ni_sLd 0 4 153),
  (153, ni_sLd 0 2 154),
  (154, ni_sAst .int 0 155),
  (155, ni_sLd 3 0 156),
  (156, ni_sGet 8 2 159),
  (159, ni_sLd 0 4 161),
  (161, ni_sLd 0 3 162),
  (162, ni_sAst .int 0 163),
  (163, ni_sLd 3 0 164),
  (164, ni_sP (ni_gDup 165)),
  (165, ni_sGet 8 3 168),
  (168, ni_sP (ni_gPush (.int 1) 169)),
  (169, ni_sP (ni_gI (fun x y => x + y) 170)),
  (170, ni_sPut 8 3 (.int) 173),
  (173, ni_sR (none))]
theorem ni_pk146 : ∀ r ∈ ni_pr146, ni_Ok xs yX10_enter cX10_enter 7 (none) [] r.1 r.2 ∧ ni_MU r.2 := ni_row (ni_okP (ni_iconst ni_dX10_enter_0 (by decide +kernel))) (ni_muP (ni_eqPush fun _ => rfl)) <|
  ni_row (ni_istore ni_dX10_enter_1 (by decide)) ni_muSt <|
  ni_row (ni_iload ni_dX10_enter_3) ni_muLd <|
  ni_row (ni_aloadn ni_dX10_enter_5 rfl) ni_muLd <|
  ni_row (ni_get (T := TX10) ni_dX10_enter_6 (by decide) rfl (by decide) ni_uX10 ni_w349) ni_muGet <|
  ni_row (ni_okP (ni_ic_ge ni_dX10_enter_9 (by decide))) (ni_muP ni_eqIc) <|
  ni_row (ni_aloadn ni_dX10_enter_12 rfl) ni_muLd <|
  ni_row (ni_get (T := TX10) ni_dX10_enter_13 (by decide) rfl (by decide) ni_uX10 ni_w344) ni_muGet <|
  ni_row (ni_iload ni_dX10_enter_16) ni_muLd <|
  ni_row (ni_iald ni_dX10_enter_18) ni_muAld <|
  ni_row (ni_iloadn ni_dX10_enter_19 rfl) ni_muLd <|
  ni_row (ni_okP (ni_ic_ge ni_dX10_enter_20 (by decide))) (ni_muP ni_eqIc) <|
  ni_row (ni_iinc (n := 1) ni_dX10_enter_23 (by decide)) ni_muInc <|
  ni_row (ni_okP (ni_goto ni_dX10_enter_26 (by decide))) (ni_muP ni_eqGo) <|
  ni_row (ni_iload ni_dX10_enter_29) ni_muLd <|
  ni_row (ni_aloadn ni_dX10_enter_31 rfl) ni_muLd <|
  ni_row (ni_get (T := TX10) ni_dX10_enter_32 (by decide) rfl (by decide) ni_uX10 ni_w349) ni_muGet <|
  ni_row (ni_okP (ni_ic_ge ni_dX10_enter_35 (by decide))) (ni_muP ni_eqIc) <|
  ni_row (ni_aloadn ni_dX10_enter_38 rfl) ni_muLd <|
  ni_row (ni_get (T := TX10) ni_dX10_enter_39 (by decide) rfl (by decide) ni_uX10 ni_w344) ni_muGet <|
  ni_row (ni_iload ni_dX10_enter_42) ni_muLd <|
  ni_row (ni_iald ni_dX10_enter_44) ni_muAld <|
  ni_row (ni_iloadn ni_dX10_enter_45 rfl) ni_muLd <|
  ni_row (ni_okP (ni_ic_ne ni_dX10_enter_46 (by decide))) (ni_muP ni_eqIc) <|
  ni_row (ni_okP (ni_iconst ni_dX10_enter_49 (by decide +kernel))) (ni_muP (ni_eqPush fun _ => rfl)) <|
  ni_row (ni_okP (ni_goto ni_dX10_enter_50 (by decide))) (ni_muP ni_eqGo) <|
  ni_row (ni_okP (ni_iconst ni_dX10_enter_53 (by decide +kernel))) (ni_muP (ni_eqPush fun _ => rfl)) <|
  ni_row (ni_istore ni_dX10_enter_54 (by decide)) ni_muSt <|
  ni_row (ni_iload ni_dX10_enter_56) ni_muLd <|
  ni_row (ni_okP (ni_if_ne ni_dX10_enter_58 (by decide))) (ni_muP ni_eqIf) <|
  ni_row (ni_aloadn ni_dX10_enter_61 rfl) ni_muLd <|
  ni_row (ni_get (T := TX10) ni_dX10_enter_62 (by decide) rfl (by decide) ni_uX10 ni_w349) ni_muGet <|
  ni_row (ni_okP (ni_sipush ni_dX10_enter_65 (by decide +kernel))) (ni_muP (ni_eqPush fun _ => rfl)) <|
  ni_row (ni_okP (ni_ic_lt ni_dX10_enter_68 (by decide))) (ni_muP ni_eqIc) <|
  ni_row (ni_ret ni_dX10_enter_71) ni_muR <|
  ni_row (ni_aloadn ni_dX10_enter_72 rfl) ni_muLd <|
  ni_row (ni_get (T := TX10) ni_dX10_enter_73 (by decide) rfl (by decide) ni_uX10 ni_w349) ni_muGet <|
  ni_row (ni_istore ni_dX10_enter_76 (by decide)) ni_muSt <|
  ni_row (ni_iload ni_dX10_enter_78) ni_muLd <|
  ni_row (ni_iload ni_dX10_enter_80) ni_muLd <|
  ni_row (ni_okP (ni_ic_le ni_dX10_enter_82 (by decide))) (ni_muP ni_eqIc) <|
  ni_row (ni_aloadn ni_dX10_enter_85 rfl) ni_muLd <|
  ni_row (ni_get (T := TX10) ni_dX10_enter_86 (by decide) rfl (by decide) ni_uX10 ni_w344) ni_muGet <|
  ni_row (ni_iload ni_dX10_enter_89) ni_muLd <|
  ni_row (ni_aloadn ni_dX10_enter_91 rfl) ni_muLd <|
  ni_row (ni_get (T := TX10) ni_dX10_enter_92 (by decide) rfl (by decide) ni_uX10 ni_w344) ni_muGet <|
  ni_row (ni_iload ni_dX10_enter_95) ni_muLd <|
  ni_row (ni_okP (ni_iconst ni_dX10_enter_97 (by decide +kernel))) (ni_muP (ni_eqPush fun _ => rfl)) <|
  ni_row (ni_okP (ni_isub ni_dX10_enter_98)) (ni_muP ni_eqI) <|
  ni_row (ni_iald ni_dX10_enter_99) ni_muAld <|
  ni_row (ni_iast ni_dX10_enter_100) ni_muAst <|
  ni_row (ni_aloadn ni_dX10_enter_101 rfl) ni_muLd <|
  ni_row (ni_get (T := TX10) ni_dX10_enter_102 (by decide) rfl (by decide) ni_uX10 ni_w345) ni_muGet <|
  ni_row (ni_iload ni_dX10_enter_105) ni_muLd <|
  ni_row (ni_aloadn ni_dX10_enter_107 rfl) ni_muLd <|
  ni_row (ni_get (T := TX10) ni_dX10_enter_108 (by decide) rfl (by decide) ni_uX10 ni_w345) ni_muGet <|
  ni_row (ni_iload ni_dX10_enter_111) ni_muLd <|
  ni_row (ni_okP (ni_iconst ni_dX10_enter_113 (by decide +kernel))) (ni_muP (ni_eqPush fun _ => rfl)) <|
  ni_row (ni_okP (ni_isub ni_dX10_enter_114)) (ni_muP ni_eqI) <|
  ni_row (ni_iald ni_dX10_enter_115) ni_muAld <|
  ni_row (ni_iast ni_dX10_enter_116) ni_muAst <|
  ni_row (ni_aloadn ni_dX10_enter_117 rfl) ni_muLd <|
  ni_row (ni_get (T := TX10) ni_dX10_enter_118 (by decide) rfl (by decide) ni_uX10 ni_w347) ni_muGet <|
  ni_row (ni_iload ni_dX10_enter_121) ni_muLd <|
  ni_row (ni_aloadn ni_dX10_enter_123 rfl) ni_muLd <|
  ni_row (ni_get (T := TX10) ni_dX10_enter_124 (by decide) rfl (by decide) ni_uX10 ni_w347) ni_muGet <|
  ni_row (ni_iload ni_dX10_enter_127) ni_muLd <|
  ni_row (ni_okP (ni_iconst ni_dX10_enter_129 (by decide +kernel))) (ni_muP (ni_eqPush fun _ => rfl)) <|
  ni_row (ni_okP (ni_isub ni_dX10_enter_130)) (ni_muP ni_eqI) <|
  ni_row (ni_iald ni_dX10_enter_131) ni_muAld <|
  ni_row (ni_iast ni_dX10_enter_132) ni_muAst <|
  ni_row (ni_iinc (n := -1) ni_dX10_enter_133 (by decide)) ni_muInc <|
  ni_row (ni_okP (ni_goto ni_dX10_enter_136 (by decide))) (ni_muP ni_eqGo) <|
  ni_row (ni_aloadn ni_dX10_enter_139 rfl) ni_muLd <|
  ni_row (ni_get (T := TX10) ni_dX10_enter_140 (by decide) rfl (by decide) ni_uX10 ni_w344) ni_muGet <|
  ni_row (ni_iload ni_dX10_enter_143) ni_muLd <|
  ni_row (ni_iloadn ni_dX10_enter_145 rfl) ni_muLd <|
  ni_row (ni_iast ni_dX10_enter_146) ni_muAst <|
  ni_row (ni_aloadn ni_dX10_enter_147 rfl) ni_muLd <|
  ni_row (ni_get (T := TX10) ni_dX10_enter_148 (by decide) rfl (by decide) ni_uX10 ni_w345) ni_muGet <|
  ni_row (ni_iload ni_dX10_enter_151) ni_muLd <|
  ni_row (ni_iloadn ni_dX10_enter_153 rfl) ni_muLd <|
  ni_row (ni_iast ni_dX10_enter_154) ni_muAst <|
  ni_row (ni_aloadn ni_dX10_enter_155 rfl) ni_muLd <|
  ni_row (ni_get (T := TX10) ni_dX10_enter_156 (by decide) rfl (by decide) ni_uX10 ni_w347) ni_muGet <|
  ni_row (ni_iload ni_dX10_enter_159) ni_muLd <|
  ni_row (ni_iloadn ni_dX10_enter_161 rfl) ni_muLd <|
  ni_row (ni_iast ni_dX10_enter_162) ni_muAst <|
  ni_row (ni_aloadn ni_dX10_enter_163 rfl) ni_muLd <|
  ni_row (ni_okP (ni_dup ni_dX10_enter_164)) (ni_muP ni_eqDup) <|
  ni_row (ni_get (T := TX10) ni_dX10_enter_165 (by decide) rfl (by decide) ni_uX10 ni_w349) ni_muGet <|
  ni_row (ni_okP (ni_iconst ni_dX10_enter_168 (by decide +kernel))) (ni_muP (ni_eqPush fun _ => rfl)) <|
  ni_row (ni_okP (ni_iadd ni_dX10_enter_169)) (ni_muP ni_eqI) <|
  ni_row (ni_putA (T := TX10) (ty0 := tyX10) (b := false) (Or.inl rfl) rfl ni_dX10_enter_170 (by decide) rfl (by decide) ni_uX10 tyX10_ok nmX10 ni_w349) ni_muPut <|
  ni_row (ni_ret ni_dX10_enter_173) ni_muR <|
  ni_row0
def ni_pr147 : List (Nat × ni_S) := [(0, ni_sP (ni_gPush (.int (-1)) 1)),
  (1, ni_sSt 0 2 2),
  (2, ni_sP (ni_gPush (.int (-1)) 3)),
  (3, ni_sSt 0 3 4),
  (4, ni_sP (ni_gPush (.int 0) 5)),
  (5, ni_sSt 0 4 7),
  (7, ni_sLd 0 4 9),
  (9, ni_sLd 3 0 10),
  (10, ni_sGet 8 3 13),
  (13, ni_sP (ni_gIc (fun x y => decide (y ≤ x)) 60 16)),
  (16, ni_sLd 3 0 17),
  (17, ni_sGet 8 0 20),
  (20, ni_sLd 0 4 22),
  (22, ni_sAld .int 0 23),
  (23, ni_sC 124 1 26),
  (26, ni_sSt 0 5 28),
  (28, ni_sLd 0 5 30),
  (30, ni_sLd 0 3 31),
  (31, ni_sP (ni_gIc (fun x y => decide (x ≤ y)) 54 34)),
  (34, ni_sLd 3 0 35),
  (35, ni_sGet 8 0 38),
  (38, ni_sLd 0 4 40),
  (40, ni_sAld .int 0 41),
  (41, ni_sLd 0 1 42),
  (42, ni_sC 121 2 45),
  (45, ni_sP (ni_gIf (fun x => decide (x = 0)) 54 48)),
  (48, ni_sLd 0 4 50),
  (50, ni_sSt 0 2 51),
  (51, ni_sLd 0 5 53),
  (53, ni_sSt 0 3 54),
  (54, ni_sInc 4 (1) 57),
  (57, ni_sP (ni_gGo 7)),
  (60, ni_sLd 0 2 61),
  (61, ni_sR (some .int))]
theorem ni_pk147 : ∀ r ∈ ni_pr147, ni_Ok xs yX10_find cX10_find 6 (some .int) [] r.1 r.2 ∧ ni_MU r.2 := ni_row (ni_okP (ni_iconst ni_dX10_find_0 (by decide +kernel))) (ni_muP (ni_eqPush fun _ => rfl)) <|
  ni_row (ni_istoren ni_dX10_find_1 rfl (by decide)) ni_muSt <|
  ni_row (ni_okP (ni_iconst ni_dX10_find_2 (by decide +kernel))) (ni_muP (ni_eqPush fun _ => rfl)) <|
  ni_row (ni_istoren ni_dX10_find_3 rfl (by decide)) ni_muSt <|
  ni_row (ni_okP (ni_iconst ni_dX10_find_4 (by decide +kernel))) (ni_muP (ni_eqPush fun _ => rfl)) <|
  ni_row (ni_istore ni_dX10_find_5 (by decide)) ni_muSt <|
  ni_row (ni_iload ni_dX10_find_7) ni_muLd <|
  ni_row (ni_aloadn ni_dX10_find_9 rfl) ni_muLd <|
  ni_row (ni_get (T := TX10) ni_dX10_find_10 (by decide) rfl (by decide) ni_uX10 ni_w349) ni_muGet <|
  ni_row (ni_okP (ni_ic_ge ni_dX10_find_13 (by decide))) (ni_muP ni_eqIc) <|
  ni_row (ni_aloadn ni_dX10_find_16 rfl) ni_muLd <|
  ni_row (ni_get (T := TX10) ni_dX10_find_17 (by decide) rfl (by decide) ni_uX10 ni_w344) ni_muGet <|
  ni_row (ni_iload ni_dX10_find_20) ni_muLd <|
  ni_row (ni_iald ni_dX10_find_22) ni_muAld <|
  ni_row (ni_stat (y := 124) ni_dX10_find_23 ni_w740 ni_w741 ni_w44 ni_w742 ⟨by decide +kernel, by decide +kernel, by decide +kernel⟩ (by decide) rfl) ni_muC <|
  ni_row (ni_istore ni_dX10_find_26 (by decide)) ni_muSt <|
  ni_row (ni_iload ni_dX10_find_28) ni_muLd <|
  ni_row (ni_iloadn ni_dX10_find_30 rfl) ni_muLd <|
  ni_row (ni_okP (ni_ic_le ni_dX10_find_31 (by decide))) (ni_muP ni_eqIc) <|
  ni_row (ni_aloadn ni_dX10_find_34 rfl) ni_muLd <|
  ni_row (ni_get (T := TX10) ni_dX10_find_35 (by decide) rfl (by decide) ni_uX10 ni_w344) ni_muGet <|
  ni_row (ni_iload ni_dX10_find_38) ni_muLd <|
  ni_row (ni_iald ni_dX10_find_40) ni_muAld <|
  ni_row (ni_iloadn ni_dX10_find_41 rfl) ni_muLd <|
  ni_row (ni_stat (y := 121) ni_dX10_find_42 ni_w743 ni_w744 ni_w44 ni_w745 ⟨by decide +kernel, by decide +kernel, by decide +kernel⟩ (by decide) rfl) ni_muC <|
  ni_row (ni_okP (ni_if_eq ni_dX10_find_45 (by decide))) (ni_muP ni_eqIf) <|
  ni_row (ni_iload ni_dX10_find_48) ni_muLd <|
  ni_row (ni_istoren ni_dX10_find_50 rfl (by decide)) ni_muSt <|
  ni_row (ni_iload ni_dX10_find_51) ni_muLd <|
  ni_row (ni_istoren ni_dX10_find_53 rfl (by decide)) ni_muSt <|
  ni_row (ni_iinc (n := 1) ni_dX10_find_54 (by decide)) ni_muInc <|
  ni_row (ni_okP (ni_goto ni_dX10_find_57 (by decide))) (ni_muP ni_eqGo) <|
  ni_row (ni_iloadn ni_dX10_find_60 rfl) ni_muLd <|
  ni_row (ni_ret ni_dX10_find_61) ni_muR <|
  ni_row0
def ni_pr148 : List (Nat × ni_S) := [(0, ni_sLd 0 1 1),
  (1, ni_sSt 0 4 3),
  (3, ni_sLd 0 4 5),
  (5, ni_sLd 0 2 6),
  (6, ni_sP (ni_gIc (fun x y => decide (y ≤ x)) 29 9)),
  (9, ni_sLd 3 0 10),
  (10, ni_sLd 0 4 12),
  (12, ni_sAld .int 0 13),
  (13, ni_sC 119 1 16),
  (16, ni_sLd 0 3 17),
  (17, ni_sC 122 2 20),
  (20, ni_sP (ni_gIf (fun x => decide (¬ x = 0)) 29 23)),
  (23, ni_sInc 4 (1) 26),
  (26, ni_sP (ni_gGo 3)),
  (29, ni_sLd 0 4 31),
  (31, ni_sR (some .int))]
theorem ni_pk148 : ∀ r ∈ ni_pr148, ni_Ok xs yX10_firstWithBit cX10_firstWithBit 5 (some .int) [] r.1 r.2 ∧ ni_MU r.2 := ni_row (ni_iloadn ni_dX10_firstWithBit_0 rfl) ni_muLd <|
  ni_row (ni_istore ni_dX10_firstWithBit_1 (by decide)) ni_muSt <|
  ni_row (ni_iload ni_dX10_firstWithBit_3) ni_muLd <|
  ni_row (ni_iloadn ni_dX10_firstWithBit_5 rfl) ni_muLd <|
  ni_row (ni_okP (ni_ic_ge ni_dX10_firstWithBit_6 (by decide))) (ni_muP ni_eqIc) <|
  ni_row (ni_aloadn ni_dX10_firstWithBit_9 rfl) ni_muLd <|
  ni_row (ni_iload ni_dX10_firstWithBit_10) ni_muLd <|
  ni_row (ni_iald ni_dX10_firstWithBit_12) ni_muAld <|
  ni_row (ni_stat (y := 119) ni_dX10_firstWithBit_13 ni_w978 ni_w747 ni_w44 ni_w748 ⟨by decide +kernel, by decide +kernel, by decide +kernel⟩ (by decide) rfl) ni_muC <|
  ni_row (ni_iloadn ni_dX10_firstWithBit_16 rfl) ni_muLd <|
  ni_row (ni_stat (y := 122) ni_dX10_firstWithBit_17 ni_w979 ni_w980 ni_w44 ni_w981 ⟨by decide +kernel, by decide +kernel, by decide +kernel⟩ (by decide) rfl) ni_muC <|
  ni_row (ni_okP (ni_if_ne ni_dX10_firstWithBit_20 (by decide))) (ni_muP ni_eqIf) <|
  ni_row (ni_iinc (n := 1) ni_dX10_firstWithBit_23 (by decide)) ni_muInc <|
  ni_row (ni_okP (ni_goto ni_dX10_firstWithBit_26 (by decide))) (ni_muP ni_eqGo) <|
  ni_row (ni_iload ni_dX10_firstWithBit_29) ni_muLd <|
  ni_row (ni_ret ni_dX10_firstWithBit_31) ni_muR <|
  ni_row0
def ni_pr149 : List (Nat × ni_S) := [(0, ni_sLd 0 4 2),
  (2, ni_sP (ni_gPush (.int 16) 4)),
  (4, ni_sP (ni_gIc (fun x y => decide (x ≤ y)) 9 7)),
  (7, ni_sP (ni_gPush (.int 0) 8)),
  (8, ni_sR (some .int)),
  (9, ni_sLd 3 0 10),
  (10, ni_sLd 0 1 11),
  (11, ni_sLd 0 2 12),
  (12, ni_sLd 0 3 13),
  (13, ni_sC 142 4 16),
  (16, ni_sSt 0 5 18),
  (18, ni_sLd 3 0 19),
  (19, ni_sLd 0 5 21),
  (21, ni_sLd 0 2 22),
  (22, ni_sLd 0 3 23),
  (23, ni_sC 148 4 26),
  (26, ni_sSt 0 6 28),
  (28, ni_sP (ni_gPush (.int 0) 29)),
  (29, ni_sSt 0 7 31),
  (31, ni_sLd 0 5 33),
  (33, ni_sLd 0 6 35),
  (35, ni_sP (ni_gIc (fun x y => decide (y ≤ x)) 60 38)),
  (38, ni_sLd 3 0 39),
  (39, ni_sLd 0 5 41),
  (41, ni_sLd 0 6 43),
  (43, ni_sLd 3 0 44),
  (44, ni_sLd 0 5 46),
  (46, ni_sLd 0 6 48),
  (48, ni_sC 150 3 51),
  (51, ni_sLd 0 4 53),
  (53, ni_sP (ni_gPush (.int 1) 54)),
  (54, ni_sP (ni_gI (fun x y => x + y) 55)),
  (55, ni_sC 149 5 58),
  (58, ni_sSt 0 7 60),
  (60, ni_sLd 0 6 62),
  (62, ni_sLd 0 2 63),
  (63, ni_sP (ni_gIc (fun x y => decide (y ≤ x)) 91 66)),
  (66, ni_sLd 0 7 68),
  (68, ni_sLd 3 0 69),
  (69, ni_sLd 0 6 71),
  (71, ni_sLd 0 2 72),
  (72, ni_sLd 3 0 73),
  (73, ni_sLd 0 6 75),
  (75, ni_sLd 0 2 76),
  (76, ni_sC 150 3 79),
  (79, ni_sLd 0 4 81),
  (81, ni_sP (ni_gPush (.int 1) 82)),
  (82, ni_sP (ni_gI (fun x y => x + y) 83)),
  (83, ni_sC 149 5 86),
  (86, ni_sP (ni_gIM (fun x y => if x < y then y else x) 89)),
  (89, ni_sSt 0 7 91),
  (91, ni_sP (ni_gPush (.int 1) 92)),
  (92, ni_sLd 0 7 94),
  (94, ni_sP (ni_gI (fun x y => x + y) 95)),
  (95, ni_sR (some .int))]
theorem ni_pk149 : ∀ r ∈ ni_pr149, ni_Ok xs yX10_levelsOf cX10_levelsOf 8 (some .int) [] r.1 r.2 ∧ ni_MU r.2 := ni_row (ni_iload ni_dX10_levelsOf_0) ni_muLd <|
  ni_row (ni_okP (ni_bipush ni_dX10_levelsOf_2 (by decide +kernel))) (ni_muP (ni_eqPush fun _ => rfl)) <|
  ni_row (ni_okP (ni_ic_le ni_dX10_levelsOf_4 (by decide))) (ni_muP ni_eqIc) <|
  ni_row (ni_okP (ni_iconst ni_dX10_levelsOf_7 (by decide +kernel))) (ni_muP (ni_eqPush fun _ => rfl)) <|
  ni_row (ni_ret ni_dX10_levelsOf_8) ni_muR <|
  ni_row (ni_aloadn ni_dX10_levelsOf_9 rfl) ni_muLd <|
  ni_row (ni_iloadn ni_dX10_levelsOf_10 rfl) ni_muLd <|
  ni_row (ni_iloadn ni_dX10_levelsOf_11 rfl) ni_muLd <|
  ni_row (ni_iloadn ni_dX10_levelsOf_12 rfl) ni_muLd <|
  ni_row (ni_stat (y := 142) ni_dX10_levelsOf_13 ni_w972 ni_w973 ni_w37 ni_w974 ⟨by decide +kernel, by decide +kernel, by decide +kernel⟩ (by decide) rfl) ni_muC <|
  ni_row (ni_istore ni_dX10_levelsOf_16 (by decide)) ni_muSt <|
  ni_row (ni_aloadn ni_dX10_levelsOf_18 rfl) ni_muLd <|
  ni_row (ni_iload ni_dX10_levelsOf_19) ni_muLd <|
  ni_row (ni_iloadn ni_dX10_levelsOf_21 rfl) ni_muLd <|
  ni_row (ni_iloadn ni_dX10_levelsOf_22 rfl) ni_muLd <|
  ni_row (ni_stat (y := 148) ni_dX10_levelsOf_23 ni_w975 ni_w976 ni_w37 ni_w977 ⟨by decide +kernel, by decide +kernel, by decide +kernel⟩ (by decide) rfl) ni_muC <|
  ni_row (ni_istore ni_dX10_levelsOf_26 (by decide)) ni_muSt <|
  ni_row (ni_okP (ni_iconst ni_dX10_levelsOf_28 (by decide +kernel))) (ni_muP (ni_eqPush fun _ => rfl)) <|
  ni_row (ni_istore ni_dX10_levelsOf_29 (by decide)) ni_muSt <|
  ni_row (ni_iload ni_dX10_levelsOf_31) ni_muLd <|
  ni_row (ni_iload ni_dX10_levelsOf_33) ni_muLd <|
  ni_row (ni_okP (ni_ic_ge ni_dX10_levelsOf_35 (by decide))) (ni_muP ni_eqIc) <|
  ni_row (ni_aloadn ni_dX10_levelsOf_38 rfl) ni_muLd <|
  ni_row (ni_iload ni_dX10_levelsOf_39) ni_muLd <|
  ni_row (ni_iload ni_dX10_levelsOf_41) ni_muLd <|
  ni_row (ni_aloadn ni_dX10_levelsOf_43 rfl) ni_muLd <|
  ni_row (ni_iload ni_dX10_levelsOf_44) ni_muLd <|
  ni_row (ni_iload ni_dX10_levelsOf_46) ni_muLd <|
  ni_row (ni_stat (y := 150) ni_dX10_levelsOf_48 ni_w982 ni_w983 ni_w37 ni_w984 ⟨by decide +kernel, by decide +kernel, by decide +kernel⟩ (by decide) rfl) ni_muC <|
  ni_row (ni_iload ni_dX10_levelsOf_51) ni_muLd <|
  ni_row (ni_okP (ni_iconst ni_dX10_levelsOf_53 (by decide +kernel))) (ni_muP (ni_eqPush fun _ => rfl)) <|
  ni_row (ni_okP (ni_iadd ni_dX10_levelsOf_54)) (ni_muP ni_eqI) <|
  ni_row (ni_stat (y := 149) ni_dX10_levelsOf_55 ni_w993 ni_w994 ni_w37 ni_w995 ⟨by decide +kernel, by decide +kernel, by decide +kernel⟩ (by decide) rfl) ni_muC <|
  ni_row (ni_istore ni_dX10_levelsOf_58 (by decide)) ni_muSt <|
  ni_row (ni_iload ni_dX10_levelsOf_60) ni_muLd <|
  ni_row (ni_iloadn ni_dX10_levelsOf_62 rfl) ni_muLd <|
  ni_row (ni_okP (ni_ic_ge ni_dX10_levelsOf_63 (by decide))) (ni_muP ni_eqIc) <|
  ni_row (ni_iload ni_dX10_levelsOf_66) ni_muLd <|
  ni_row (ni_aloadn ni_dX10_levelsOf_68 rfl) ni_muLd <|
  ni_row (ni_iload ni_dX10_levelsOf_69) ni_muLd <|
  ni_row (ni_iloadn ni_dX10_levelsOf_71 rfl) ni_muLd <|
  ni_row (ni_aloadn ni_dX10_levelsOf_72 rfl) ni_muLd <|
  ni_row (ni_iload ni_dX10_levelsOf_73) ni_muLd <|
  ni_row (ni_iloadn ni_dX10_levelsOf_75 rfl) ni_muLd <|
  ni_row (ni_stat (y := 150) ni_dX10_levelsOf_76 ni_w982 ni_w983 ni_w37 ni_w984 ⟨by decide +kernel, by decide +kernel, by decide +kernel⟩ (by decide) rfl) ni_muC <|
  ni_row (ni_iload ni_dX10_levelsOf_79) ni_muLd <|
  ni_row (ni_okP (ni_iconst ni_dX10_levelsOf_81 (by decide +kernel))) (ni_muP (ni_eqPush fun _ => rfl)) <|
  ni_row (ni_okP (ni_iadd ni_dX10_levelsOf_82)) (ni_muP ni_eqI) <|
  ni_row (ni_stat (y := 149) ni_dX10_levelsOf_83 ni_w993 ni_w994 ni_w37 ni_w995 ⟨by decide +kernel, by decide +kernel, by decide +kernel⟩ (by decide) rfl) ni_muC <|
  ni_row (ni_okP (ni_max ni_dX10_levelsOf_86 ni_w996 ni_w767 ni_w46 ni_w768)) (ni_muP ni_eqIM) <|
  ni_row (ni_istore ni_dX10_levelsOf_89 (by decide)) ni_muSt <|
  ni_row (ni_okP (ni_iconst ni_dX10_levelsOf_91 (by decide +kernel))) (ni_muP (ni_eqPush fun _ => rfl)) <|
  ni_row (ni_iload ni_dX10_levelsOf_92) ni_muLd <|
  ni_row (ni_okP (ni_iadd ni_dX10_levelsOf_94)) (ni_muP ni_eqI) <|
  ni_row (ni_ret ni_dX10_levelsOf_95) ni_muR <|
  ni_row0
def ni_pr150 : List (Nat × ni_S) := [(0, ni_sLd 3 0 1),
  (1, ni_sLd 0 1 2),
  (2, ni_sAld .int 0 3),
  (3, ni_sC 119 1 6),
  (6, ni_sSt 0 3 7),
  (7, ni_sLd 3 0 8),
  (8, ni_sLd 0 2 9),
  (9, ni_sP (ni_gPush (.int 1) 10)),
  (10, ni_sP (ni_gI (fun x y => x - y) 11)),
  (11, ni_sAld .int 0 12),
  (12, ni_sC 119 1 15),
  (15, ni_sSt 0 4 17),
  (17, ni_sLd 0 3 18),
  (18, ni_sLd 0 4 20),
  (20, ni_sC 120 2 23),
  (23, ni_sLd 3 0 24),
  (24, ni_sLd 0 1 25),
  (25, ni_sAld .int 0 26),
  (26, ni_sC 124 1 29),
  (29, ni_sP (ni_gIM (fun x y => if y < x then y else x) 32)),
  (32, ni_sR (some .int))]
theorem ni_pk150 : ∀ r ∈ ni_pr150, ni_Ok xs yX10_nodeLength cX10_nodeLength 5 (some .int) [] r.1 r.2 ∧ ni_MU r.2 := ni_row (ni_aloadn ni_dX10_nodeLength_0 rfl) ni_muLd <|
  ni_row (ni_iloadn ni_dX10_nodeLength_1 rfl) ni_muLd <|
  ni_row (ni_iald ni_dX10_nodeLength_2) ni_muAld <|
  ni_row (ni_stat (y := 119) ni_dX10_nodeLength_3 ni_w978 ni_w747 ni_w44 ni_w748 ⟨by decide +kernel, by decide +kernel, by decide +kernel⟩ (by decide) rfl) ni_muC <|
  ni_row (ni_istoren ni_dX10_nodeLength_6 rfl (by decide)) ni_muSt <|
  ni_row (ni_aloadn ni_dX10_nodeLength_7 rfl) ni_muLd <|
  ni_row (ni_iloadn ni_dX10_nodeLength_8 rfl) ni_muLd <|
  ni_row (ni_okP (ni_iconst ni_dX10_nodeLength_9 (by decide +kernel))) (ni_muP (ni_eqPush fun _ => rfl)) <|
  ni_row (ni_okP (ni_isub ni_dX10_nodeLength_10)) (ni_muP ni_eqI) <|
  ni_row (ni_iald ni_dX10_nodeLength_11) ni_muAld <|
  ni_row (ni_stat (y := 119) ni_dX10_nodeLength_12 ni_w978 ni_w747 ni_w44 ni_w748 ⟨by decide +kernel, by decide +kernel, by decide +kernel⟩ (by decide) rfl) ni_muC <|
  ni_row (ni_istore ni_dX10_nodeLength_15 (by decide)) ni_muSt <|
  ni_row (ni_iloadn ni_dX10_nodeLength_17 rfl) ni_muLd <|
  ni_row (ni_iload ni_dX10_nodeLength_18) ni_muLd <|
  ni_row (ni_stat (y := 120) ni_dX10_nodeLength_20 ni_w985 ni_w986 ni_w44 ni_w987 ⟨by decide +kernel, by decide +kernel, by decide +kernel⟩ (by decide) rfl) ni_muC <|
  ni_row (ni_aloadn ni_dX10_nodeLength_23 rfl) ni_muLd <|
  ni_row (ni_iloadn ni_dX10_nodeLength_24 rfl) ni_muLd <|
  ni_row (ni_iald ni_dX10_nodeLength_25) ni_muAld <|
  ni_row (ni_stat (y := 124) ni_dX10_nodeLength_26 ni_w740 ni_w741 ni_w44 ni_w742 ⟨by decide +kernel, by decide +kernel, by decide +kernel⟩ (by decide) rfl) ni_muC <|
  ni_row (ni_okP (ni_min ni_dX10_nodeLength_29 ni_w988 ni_w796 ni_w46 ni_w797)) (ni_muP ni_eqIM) <|
  ni_row (ni_ret ni_dX10_nodeLength_32) ni_muR <|
  ni_row0
def ni_pr151 : List (Nat × ni_S) := [(0, ni_sLd 0 4 2),
  (2, ni_sP (ni_gPush (.int 16) 4)),
  (4, ni_sP (ni_gIc (fun x y => decide (x ≤ y)) 9 7)),
  (7, ni_sP (ni_gPush (.int 0) 8)),
  (8, ni_sR (some .int)),
  (9, ni_sLd 3 0 10),
  (10, ni_sLd 0 1 11),
  (11, ni_sLd 0 2 12),
  (12, ni_sLd 0 3 13),
  (13, ni_sC 142 4 16),
  (16, ni_sSt 0 5 18),
  (18, ni_sLd 3 0 19),
  (19, ni_sLd 0 5 21),
  (21, ni_sLd 0 2 22),
  (22, ni_sLd 0 3 23),
  (23, ni_sC 148 4 26),
  (26, ni_sSt 0 6 28),
  (28, ni_sP (ni_gPush (.int 1) 29)),
  (29, ni_sSt 0 7 31),
  (31, ni_sLd 0 5 33),
  (33, ni_sLd 0 6 35),
  (35, ni_sP (ni_gIc (fun x y => decide (y ≤ x)) 63 38)),
  (38, ni_sLd 0 7 40),
  (40, ni_sLd 3 0 41),
  (41, ni_sLd 0 5 43),
  (43, ni_sLd 0 6 45),
  (45, ni_sLd 3 0 46),
  (46, ni_sLd 0 5 48),
  (48, ni_sLd 0 6 50),
  (50, ni_sC 150 3 53),
  (53, ni_sLd 0 4 55),
  (55, ni_sP (ni_gPush (.int 1) 56)),
  (56, ni_sP (ni_gI (fun x y => x + y) 57)),
  (57, ni_sC 151 5 60),
  (60, ni_sP (ni_gI (fun x y => x + y) 61)),
  (61, ni_sSt 0 7 63),
  (63, ni_sLd 0 6 65),
  (65, ni_sLd 0 2 66),
  (66, ni_sP (ni_gIc (fun x y => decide (y ≤ x)) 92 69)),
  (69, ni_sLd 0 7 71),
  (71, ni_sLd 3 0 72),
  (72, ni_sLd 0 6 74),
  (74, ni_sLd 0 2 75),
  (75, ni_sLd 3 0 76),
  (76, ni_sLd 0 6 78),
  (78, ni_sLd 0 2 79),
  (79, ni_sC 150 3 82),
  (82, ni_sLd 0 4 84),
  (84, ni_sP (ni_gPush (.int 1) 85)),
  (85, ni_sP (ni_gI (fun x y => x + y) 86)),
  (86, ni_sC 151 5 89),
  (89, ni_sP (ni_gI (fun x y => x + y) 90)),
  (90, ni_sSt 0 7 92),
  (92, ni_sLd 0 7 94),
  (94, ni_sR (some .int))]
theorem ni_pk151 : ∀ r ∈ ni_pr151, ni_Ok xs yX10_nodesOf cX10_nodesOf 8 (some .int) [] r.1 r.2 ∧ ni_MU r.2 := ni_row (ni_iload ni_dX10_nodesOf_0) ni_muLd <|
  ni_row (ni_okP (ni_bipush ni_dX10_nodesOf_2 (by decide +kernel))) (ni_muP (ni_eqPush fun _ => rfl)) <|
  ni_row (ni_okP (ni_ic_le ni_dX10_nodesOf_4 (by decide))) (ni_muP ni_eqIc) <|
  ni_row (ni_okP (ni_iconst ni_dX10_nodesOf_7 (by decide +kernel))) (ni_muP (ni_eqPush fun _ => rfl)) <|
  ni_row (ni_ret ni_dX10_nodesOf_8) ni_muR <|
  ni_row (ni_aloadn ni_dX10_nodesOf_9 rfl) ni_muLd <|
  ni_row (ni_iloadn ni_dX10_nodesOf_10 rfl) ni_muLd <|
  ni_row (ni_iloadn ni_dX10_nodesOf_11 rfl) ni_muLd <|
  ni_row (ni_iloadn ni_dX10_nodesOf_12 rfl) ni_muLd <|
  ni_row (ni_stat (y := 142) ni_dX10_nodesOf_13 ni_w972 ni_w973 ni_w37 ni_w974 ⟨by decide +kernel, by decide +kernel, by decide +kernel⟩ (by decide) rfl) ni_muC <|
  ni_row (ni_istore ni_dX10_nodesOf_16 (by decide)) ni_muSt <|
  ni_row (ni_aloadn ni_dX10_nodesOf_18 rfl) ni_muLd <|
  ni_row (ni_iload ni_dX10_nodesOf_19) ni_muLd <|
  ni_row (ni_iloadn ni_dX10_nodesOf_21 rfl) ni_muLd <|
  ni_row (ni_iloadn ni_dX10_nodesOf_22 rfl) ni_muLd <|
  ni_row (ni_stat (y := 148) ni_dX10_nodesOf_23 ni_w975 ni_w976 ni_w37 ni_w977 ⟨by decide +kernel, by decide +kernel, by decide +kernel⟩ (by decide) rfl) ni_muC <|
  ni_row (ni_istore ni_dX10_nodesOf_26 (by decide)) ni_muSt <|
  ni_row (ni_okP (ni_iconst ni_dX10_nodesOf_28 (by decide +kernel))) (ni_muP (ni_eqPush fun _ => rfl)) <|
  ni_row (ni_istore ni_dX10_nodesOf_29 (by decide)) ni_muSt <|
  ni_row (ni_iload ni_dX10_nodesOf_31) ni_muLd <|
  ni_row (ni_iload ni_dX10_nodesOf_33) ni_muLd <|
  ni_row (ni_okP (ni_ic_ge ni_dX10_nodesOf_35 (by decide))) (ni_muP ni_eqIc) <|
  ni_row (ni_iload ni_dX10_nodesOf_38) ni_muLd <|
  ni_row (ni_aloadn ni_dX10_nodesOf_40 rfl) ni_muLd <|
  ni_row (ni_iload ni_dX10_nodesOf_41) ni_muLd <|
  ni_row (ni_iload ni_dX10_nodesOf_43) ni_muLd <|
  ni_row (ni_aloadn ni_dX10_nodesOf_45 rfl) ni_muLd <|
  ni_row (ni_iload ni_dX10_nodesOf_46) ni_muLd <|
  ni_row (ni_iload ni_dX10_nodesOf_48) ni_muLd <|
  ni_row (ni_stat (y := 150) ni_dX10_nodesOf_50 ni_w982 ni_w983 ni_w37 ni_w984 ⟨by decide +kernel, by decide +kernel, by decide +kernel⟩ (by decide) rfl) ni_muC <|
  ni_row (ni_iload ni_dX10_nodesOf_53) ni_muLd <|
  ni_row (ni_okP (ni_iconst ni_dX10_nodesOf_55 (by decide +kernel))) (ni_muP (ni_eqPush fun _ => rfl)) <|
  ni_row (ni_okP (ni_iadd ni_dX10_nodesOf_56)) (ni_muP ni_eqI) <|
  ni_row (ni_stat (y := 151) ni_dX10_nodesOf_57 ni_w969 ni_w970 ni_w37 ni_w971 ⟨by decide +kernel, by decide +kernel, by decide +kernel⟩ (by decide) rfl) ni_muC <|
  ni_row (ni_okP (ni_iadd ni_dX10_nodesOf_60)) (ni_muP ni_eqI) <|
  ni_row (ni_istore ni_dX10_nodesOf_61 (by decide)) ni_muSt <|
  ni_row (ni_iload ni_dX10_nodesOf_63) ni_muLd <|
  ni_row (ni_iloadn ni_dX10_nodesOf_65 rfl) ni_muLd <|
  ni_row (ni_okP (ni_ic_ge ni_dX10_nodesOf_66 (by decide))) (ni_muP ni_eqIc) <|
  ni_row (ni_iload ni_dX10_nodesOf_69) ni_muLd <|
  ni_row (ni_aloadn ni_dX10_nodesOf_71 rfl) ni_muLd <|
  ni_row (ni_iload ni_dX10_nodesOf_72) ni_muLd <|
  ni_row (ni_iloadn ni_dX10_nodesOf_74 rfl) ni_muLd <|
  ni_row (ni_aloadn ni_dX10_nodesOf_75 rfl) ni_muLd <|
  ni_row (ni_iload ni_dX10_nodesOf_76) ni_muLd <|
  ni_row (ni_iloadn ni_dX10_nodesOf_78 rfl) ni_muLd <|
  ni_row (ni_stat (y := 150) ni_dX10_nodesOf_79 ni_w982 ni_w983 ni_w37 ni_w984 ⟨by decide +kernel, by decide +kernel, by decide +kernel⟩ (by decide) rfl) ni_muC <|
  ni_row (ni_iload ni_dX10_nodesOf_82) ni_muLd <|
  ni_row (ni_okP (ni_iconst ni_dX10_nodesOf_84 (by decide +kernel))) (ni_muP (ni_eqPush fun _ => rfl)) <|
  ni_row (ni_okP (ni_iadd ni_dX10_nodesOf_85)) (ni_muP ni_eqI) <|
  ni_row (ni_stat (y := 151) ni_dX10_nodesOf_86 ni_w969 ni_w970 ni_w37 ni_w971 ⟨by decide +kernel, by decide +kernel, by decide +kernel⟩ (by decide) rfl) ni_muC <|
  ni_row (ni_okP (ni_iadd ni_dX10_nodesOf_89)) (ni_muP ni_eqI) <|
  ni_row (ni_istore ni_dX10_nodesOf_90 (by decide)) ni_muSt <|
  ni_row (ni_iload ni_dX10_nodesOf_92) ni_muLd <|
  ni_row (ni_ret ni_dX10_nodesOf_94) ni_muR <|
  ni_row0
def ni_pr152 : List (Nat × ni_S) := [(0, ni_sLd 0 0 1),
  (1, ni_sP (ni_gPush (.int (2147483647)) 3)),
  (3, ni_sP (ni_gI (fun x y => x &&& y) 4)),
  (4, ni_sLd 0 1 5),
  (5, ni_sP (ni_gI0 (fun x y => x - x / y * y) 6)),
  (6, ni_sR (some .int))]
theorem ni_pk152 : ∀ r ∈ ni_pr152, ni_Ok xs yL_below cL_below 2 (some .int) [] r.1 r.2 ∧ ni_MU r.2 := ni_row (ni_iloadn ni_dL_below_0 rfl) ni_muLd <|
  ni_row (ni_okP (ni_ldc ni_dL_below_1 ni_w1024)) (ni_muP (ni_eqPush fun _ => rfl)) <|
  ni_row (ni_okP (ni_iand ni_dL_below_3)) (ni_muP ni_eqI) <|
  ni_row (ni_iloadn ni_dL_below_4 rfl) ni_muLd <|
  ni_row (ni_okP (ni_irem ni_dL_below_5)) (ni_muP ni_eqI0) <|
  ni_row (ni_ret ni_dL_below_6) ni_muR <|
  ni_row0
def ni_pr153 : List (Nat × ni_S) := [(0, ni_sP (ni_gPush (.int 0) 1)),
  (1, ni_sSt 0 3 2),
  (2, ni_sLd 0 3 3),
  (3, ni_sLd 0 2 4),
  (4, ni_sP (ni_gIc (fun x y => decide (y ≤ x)) 18 7)),
  (7, ni_sLd 3 0 8),
  (8, ni_sV 4 0 9 11),
  (11, ni_sP (ni_gPop 12)),
  (12, ni_sInc 3 (1) 15),
  (15, ni_sP (ni_gGo 2)),
  (18, ni_sLd 0 2 19),
  (19, ni_sP (ni_gPush (.int 1) 20)),
  (20, ni_sP (ni_gI (fun x y => x - y) 21)),
  (21, ni_sLd 3 1 22),
  (22, ni_sP (ni_gPush (.int 1) 23)),
  (23, ni_sC 154 2 26),
  (26, ni_sP (ni_gPush (.int 5) 27)),
  (27, ni_sC 152 2 30),
  (30, ni_sP (ni_gI (fun x y => x + y) 31)),
  (31, ni_sANew 5 34),
  (34, ni_sSt 3 3 35),
  (35, ni_sP (ni_gPush (.int 0) 36)),
  (36, ni_sSt 0 4 38),
  (38, ni_sLd 0 4 40),
  (40, ni_sLd 3 3 41),
  (41, ni_sLen 42),
  (42, ni_sP (ni_gIc (fun x y => decide (y ≤ x)) 198 45)),
  (45, ni_sLd 3 1 46),
  (46, ni_sP (ni_gPush (.int 2) 47)),
  (47, ni_sLd 0 4 49),
  (49, ni_sP (ni_gPush (.int 8) 51)),
  (51, ni_sP (ni_gI0 (fun x y => x - x / y * y) 52)),
  (52, ni_sP (ni_gI (fun x y => x + y) 53)),
  (53, ni_sC 154 2 56),
  (56, ni_sLd 0 4 58),
  (58, ni_sP (ni_gPush (.int 8) 60)),
  (60, ni_sP (ni_gI0 (fun x y => x / y) 61)),
  (61, ni_sP (ni_gPush (.int 6) 63)),
  (63, ni_sP (ni_gI (fun x y => x * y) 64)),
  (64, ni_sP (ni_gI (fun x y => x >>> (y &&& 31)) 65)),
  (65, ni_sSt 0 5 67),
  (67, ni_sLd 0 4 69),
  (69, ni_sLd 0 2 70),
  (70, ni_sP (ni_gPush (.int 1) 71)),
  (71, ni_sP (ni_gI (fun x y => x - y) 72)),
  (72, ni_sP (ni_gIc (fun x y => decide (y ≤ x)) 80 75)),
  (75, ni_sLd 0 4 77),
  (77, ni_sP (ni_gGo 86)),
  (80, ni_sLd 0 5 82),
  (82, ni_sLd 0 2 83),
  (83, ni_sC 152 2 86),
  (86, ni_sSt 0 6 88),
  (88, ni_sLd 0 4 90),
  (90, ni_sLd 0 2 91),
  (91, ni_sP (ni_gPush (.int 1) 92)),
  (92, ni_sP (ni_gI (fun x y => x - y) 93)),
  (93, ni_sP (ni_gIc (fun x y => decide (y ≤ x)) 103 96)),
  (96, ni_sLd 0 4 98),
  (98, ni_sP (ni_gPush (.int 1) 99)),
  (99, ni_sP (ni_gI (fun x y => x + y) 100)),
  (100, ni_sP (ni_gGo 120)),
  (103, ni_sLd 0 6 105),
  (105, ni_sP (ni_gPush (.int 1) 106)),
  (106, ni_sP (ni_gI (fun x y => x + y) 107)),
  (107, ni_sLd 0 5 109),
  (109, ni_sP (ni_gPush (.int 3) 110)),
  (110, ni_sP (ni_gI (fun x y => x >>> (y &&& 31)) 111)),
  (111, ni_sLd 0 2 112),
  (112, ni_sP (ni_gPush (.int 1) 113)),
  (113, ni_sP (ni_gI (fun x y => x - y) 114)),
  (114, ni_sC 152 2 117),
  (117, ni_sP (ni_gI (fun x y => x + y) 118)),
  (118, ni_sLd 0 2 119),
  (119, ni_sP (ni_gI0 (fun x y => x - x / y * y) 120)),
  (120, ni_sSt 0 7 122),
  (122, ni_sLd 3 3 123),
  (123, ni_sLd 0 4 125),
  (125, ni_sP (ni_gPush (.int 5) 126)),
  (126, ni_sNewa 0 .int 128),
  (128, ni_sP (ni_gDup 129)),
  (129, ni_sP (ni_gPush (.int 0) 130)),
  (130, ni_sLd 0 6 132),
  (132, ni_sAst .int 0 133),
  (133, ni_sP (ni_gDup 134)),
  (134, ni_sP (ni_gPush (.int 1) 135)),
  (135, ni_sLd 0 7 137),
  (137, ni_sAst .int 0 138),
  (138, ni_sP (ni_gDup 139)),
  (139, ni_sP (ni_gPush (.int 2) 140)),
  (140, ni_sP (ni_gPush (.int 1) 141)),
  (141, ni_sLd 0 5 143),
  (143, ni_sP (ni_gPush (.int 2) 144)),
  (144, ni_sP (ni_gI (fun x y => x >>> (y &&& 31)) 145)),
  (145, ni_sP (ni_gPush (.int 4) 146)),
  (146, ni_sC 152 2 149),
  (149, ni_sP (ni_gI (fun x y => x + y) 150)),
  (150, ni_sAst .int 0 151),
  (151, ni_sP (ni_gDup 152)),
  (152, ni_sP (ni_gPush (.int 3) 153)),
  (153, ni_sP (ni_gPush (.int 1) 154)),
  (154, ni_sAst .int 0 155),
  (155, ni_sP (ni_gDup 156)),
  (156, ni_sP (ni_gPush (.int 4) 157)),
  (157, ni_sP (ni_gPush (.int 1) 158)),
  (158, ni_sLd 0 5 160),
  (160, ni_sP (ni_gPush (.int 4) 161)),
  (161, ni_sP (ni_gI (fun x y => x >>> (y &&& 31)) 162)),
  (162, ni_sP (ni_gPush (.int 3) 163)),
  (163, ni_sC 152 2 166),
  (166, ni_sP (ni_gI (fun x y => x + y) 167)),
  (167, ni_sAst .int 0 168),
  (168, ni_sQsA 169),
  (169, ni_sLd 3 0 170),
  (170, ni_sLd 0 6 172),
  (172, ni_sLd 0 7 174),
  (174, ni_sLd 3 3 175),
  (175, ni_sLd 0 4 177),
  (177, ni_sQlA 178),
  (178, ni_sP (ni_gPush (.int 2) 179)),
  (179, ni_sAld .int 0 180),
  (180, ni_sP (ni_gPush (.int 100) 182)),
  (182, ni_sLd 3 3 183),
  (183, ni_sLd 0 4 185),
  (185, ni_sQlA 186),
  (186, ni_sP (ni_gPush (.int 4) 187)),
  (187, ni_sAld .int 0 188),
  (188, ni_sV 2 5 9 191),
  (191, ni_sP (ni_gPop 192)),
  (192, ni_sInc 4 (1) 195),
  (195, ni_sP (ni_gGo 38)),
  (198, ni_sLd 3 3 199),
  (199, ni_sR (some (.array (.array (.int)))))]
theorem ni_pk153 : ∀ r ∈ ni_pr153, ni_Ok xs yL_build cL_build 8 (some (.array (.array (.int)))) [] r.1 r.2 ∧ ni_MU r.2 := ni_row (ni_okP (ni_iconst ni_dL_build_0 (by decide +kernel))) (ni_muP (ni_eqPush fun _ => rfl)) <|
  ni_row (ni_istoren ni_dL_build_1 rfl (by decide)) ni_muSt <|
  ni_row (ni_iloadn ni_dL_build_2 rfl) ni_muLd <|
  ni_row (ni_iloadn ni_dL_build_3 rfl) ni_muLd <|
  ni_row (ni_okP (ni_ic_ge ni_dL_build_4 (by decide))) (ni_muP ni_eqIc) <|
  ni_row (ni_aloadn ni_dL_build_7 rfl) ni_muLd <|
  ni_row (ni_virt (y := 4) (T := TX11) ni_dL_build_8 (by decide) rfl rfl ni_w1032 ni_w1033 ni_w1034 ni_w28 ni_w1035 ⟨by decide +kernel, by decide +kernel, by decide +kernel⟩ (by decide) rfl) (ni_muV (by decide)) <|
  ni_row (ni_okP (ni_pop ni_dL_build_11)) (ni_muP ni_eqPop) <|
  ni_row (ni_iinc (n := 1) ni_dL_build_12 (by decide)) ni_muInc <|
  ni_row (ni_okP (ni_goto ni_dL_build_15 (by decide))) (ni_muP ni_eqGo) <|
  ni_row (ni_iloadn ni_dL_build_18 rfl) ni_muLd <|
  ni_row (ni_okP (ni_iconst ni_dL_build_19 (by decide +kernel))) (ni_muP (ni_eqPush fun _ => rfl)) <|
  ni_row (ni_okP (ni_isub ni_dL_build_20)) (ni_muP ni_eqI) <|
  ni_row (ni_aloadn ni_dL_build_21 rfl) ni_muLd <|
  ni_row (ni_okP (ni_iconst ni_dL_build_22 (by decide +kernel))) (ni_muP (ni_eqPush fun _ => rfl)) <|
  ni_row (ni_stat (y := 154) ni_dL_build_23 ni_w1025 ni_w1026 ni_w27 ni_w1027 ⟨by decide +kernel, by decide +kernel, by decide +kernel⟩ (by decide) rfl) ni_muC <|
  ni_row (ni_okP (ni_iconst ni_dL_build_26 (by decide +kernel))) (ni_muP (ni_eqPush fun _ => rfl)) <|
  ni_row (ni_stat (y := 152) ni_dL_build_27 ni_w1021 ni_w1022 ni_w27 ni_w1023 ⟨by decide +kernel, by decide +kernel, by decide +kernel⟩ (by decide) rfl) ni_muC <|
  ni_row (ni_okP (ni_iadd ni_dL_build_30)) (ni_muP ni_eqI) <|
  ni_row (ni_anewA (t := .int) (by decide +kernel) ni_dL_build_31 rfl ni_w1041 (by decide)) ni_muANew <|
  ni_row (ni_astoren ni_dL_build_34 rfl (by decide)) ni_muSt <|
  ni_row (ni_okP (ni_iconst ni_dL_build_35 (by decide +kernel))) (ni_muP (ni_eqPush fun _ => rfl)) <|
  ni_row (ni_istore ni_dL_build_36 (by decide)) ni_muSt <|
  ni_row (ni_iload ni_dL_build_38) ni_muLd <|
  ni_row (ni_aloadn ni_dL_build_40 rfl) ni_muLd <|
  ni_row (ni_len ni_dL_build_41) ni_muLen <|
  ni_row (ni_okP (ni_ic_ge ni_dL_build_42 (by decide))) (ni_muP ni_eqIc) <|
  ni_row (ni_aloadn ni_dL_build_45 rfl) ni_muLd <|
  ni_row (ni_okP (ni_iconst ni_dL_build_46 (by decide +kernel))) (ni_muP (ni_eqPush fun _ => rfl)) <|
  ni_row (ni_iload ni_dL_build_47) ni_muLd <|
  ni_row (ni_okP (ni_bipush ni_dL_build_49 (by decide +kernel))) (ni_muP (ni_eqPush fun _ => rfl)) <|
  ni_row (ni_okP (ni_irem ni_dL_build_51)) (ni_muP ni_eqI0) <|
  ni_row (ni_okP (ni_iadd ni_dL_build_52)) (ni_muP ni_eqI) <|
  ni_row (ni_stat (y := 154) ni_dL_build_53 ni_w1025 ni_w1026 ni_w27 ni_w1027 ⟨by decide +kernel, by decide +kernel, by decide +kernel⟩ (by decide) rfl) ni_muC <|
  ni_row (ni_iload ni_dL_build_56) ni_muLd <|
  ni_row (ni_okP (ni_bipush ni_dL_build_58 (by decide +kernel))) (ni_muP (ni_eqPush fun _ => rfl)) <|
  ni_row (ni_okP (ni_idiv ni_dL_build_60)) (ni_muP ni_eqI0) <|
  ni_row (ni_okP (ni_bipush ni_dL_build_61 (by decide +kernel))) (ni_muP (ni_eqPush fun _ => rfl)) <|
  ni_row (ni_okP (ni_imul ni_dL_build_63)) (ni_muP ni_eqI) <|
  ni_row (ni_okP (ni_ishr ni_dL_build_64)) (ni_muP ni_eqI) <|
  ni_row (ni_istore ni_dL_build_65 (by decide)) ni_muSt <|
  ni_row (ni_iload ni_dL_build_67) ni_muLd <|
  ni_row (ni_iloadn ni_dL_build_69 rfl) ni_muLd <|
  ni_row (ni_okP (ni_iconst ni_dL_build_70 (by decide +kernel))) (ni_muP (ni_eqPush fun _ => rfl)) <|
  ni_row (ni_okP (ni_isub ni_dL_build_71)) (ni_muP ni_eqI) <|
  ni_row (ni_okP (ni_ic_ge ni_dL_build_72 (by decide))) (ni_muP ni_eqIc) <|
  ni_row (ni_iload ni_dL_build_75) ni_muLd <|
  ni_row (ni_okP (ni_goto ni_dL_build_77 (by decide))) (ni_muP ni_eqGo) <|
  ni_row (ni_iload ni_dL_build_80) ni_muLd <|
  ni_row (ni_iloadn ni_dL_build_82 rfl) ni_muLd <|
  ni_row (ni_stat (y := 152) ni_dL_build_83 ni_w1021 ni_w1022 ni_w27 ni_w1023 ⟨by decide +kernel, by decide +kernel, by decide +kernel⟩ (by decide) rfl) ni_muC <|
  ni_row (ni_istore ni_dL_build_86 (by decide)) ni_muSt <|
  ni_row (ni_iload ni_dL_build_88) ni_muLd <|
  ni_row (ni_iloadn ni_dL_build_90 rfl) ni_muLd <|
  ni_row (ni_okP (ni_iconst ni_dL_build_91 (by decide +kernel))) (ni_muP (ni_eqPush fun _ => rfl)) <|
  ni_row (ni_okP (ni_isub ni_dL_build_92)) (ni_muP ni_eqI) <|
  ni_row (ni_okP (ni_ic_ge ni_dL_build_93 (by decide))) (ni_muP ni_eqIc) <|
  ni_row (ni_iload ni_dL_build_96) ni_muLd <|
  ni_row (ni_okP (ni_iconst ni_dL_build_98 (by decide +kernel))) (ni_muP (ni_eqPush fun _ => rfl)) <|
  ni_row (ni_okP (ni_iadd ni_dL_build_99)) (ni_muP ni_eqI) <|
  ni_row (ni_okP (ni_goto ni_dL_build_100 (by decide))) (ni_muP ni_eqGo) <|
  ni_row (ni_iload ni_dL_build_103) ni_muLd <|
  ni_row (ni_okP (ni_iconst ni_dL_build_105 (by decide +kernel))) (ni_muP (ni_eqPush fun _ => rfl)) <|
  ni_row (ni_okP (ni_iadd ni_dL_build_106)) (ni_muP ni_eqI) <|
  ni_row (ni_iload ni_dL_build_107) ni_muLd <|
  ni_row (ni_okP (ni_iconst ni_dL_build_109 (by decide +kernel))) (ni_muP (ni_eqPush fun _ => rfl)) <|
  ni_row (ni_okP (ni_ishr ni_dL_build_110)) (ni_muP ni_eqI) <|
  ni_row (ni_iloadn ni_dL_build_111 rfl) ni_muLd <|
  ni_row (ni_okP (ni_iconst ni_dL_build_112 (by decide +kernel))) (ni_muP (ni_eqPush fun _ => rfl)) <|
  ni_row (ni_okP (ni_isub ni_dL_build_113)) (ni_muP ni_eqI) <|
  ni_row (ni_stat (y := 152) ni_dL_build_114 ni_w1021 ni_w1022 ni_w27 ni_w1023 ⟨by decide +kernel, by decide +kernel, by decide +kernel⟩ (by decide) rfl) ni_muC <|
  ni_row (ni_okP (ni_iadd ni_dL_build_117)) (ni_muP ni_eqI) <|
  ni_row (ni_iloadn ni_dL_build_118 rfl) ni_muLd <|
  ni_row (ni_okP (ni_irem ni_dL_build_119)) (ni_muP ni_eqI0) <|
  ni_row (ni_istore ni_dL_build_120 (by decide)) ni_muSt <|
  ni_row (ni_aloadn ni_dL_build_122 rfl) ni_muLd <|
  ni_row (ni_iload ni_dL_build_123) ni_muLd <|
  ni_row (ni_okP (ni_iconst ni_dL_build_125 (by decide +kernel))) (ni_muP (ni_eqPush fun _ => rfl)) <|
  ni_row (ni_newa ni_dL_build_126 rfl rfl (by decide) ni_w93) ni_muNewa <|
  ni_row (ni_okP (ni_dup ni_dL_build_128)) (ni_muP ni_eqDup) <|
  ni_row (ni_okP (ni_iconst ni_dL_build_129 (by decide +kernel))) (ni_muP (ni_eqPush fun _ => rfl)) <|
  ni_row (ni_iload ni_dL_build_130) ni_muLd <|
  ni_row (ni_iast ni_dL_build_132) ni_muAst <|
  ni_row (ni_okP (ni_dup ni_dL_build_133)) (ni_muP ni_eqDup) <|
  ni_row (ni_okP (ni_iconst ni_dL_build_134 (by decide +kernel))) (ni_muP (ni_eqPush fun _ => rfl)) <|
  ni_row (ni_iload ni_dL_build_135) ni_muLd <|
  ni_row (ni_iast ni_dL_build_137) ni_muAst <|
  ni_row (ni_okP (ni_dup ni_dL_build_138)) (ni_muP ni_eqDup) <|
  ni_row (ni_okP (ni_iconst ni_dL_build_139 (by decide +kernel))) (ni_muP (ni_eqPush fun _ => rfl)) <|
  ni_row (ni_okP (ni_iconst ni_dL_build_140 (by decide +kernel))) (ni_muP (ni_eqPush fun _ => rfl)) <|
  ni_row (ni_iload ni_dL_build_141) ni_muLd <|
  ni_row (ni_okP (ni_iconst ni_dL_build_143 (by decide +kernel))) (ni_muP (ni_eqPush fun _ => rfl)) <|
  ni_row (ni_okP (ni_ishr ni_dL_build_144)) (ni_muP ni_eqI) <|
  ni_row (ni_okP (ni_iconst ni_dL_build_145 (by decide +kernel))) (ni_muP (ni_eqPush fun _ => rfl)) <|
  ni_row (ni_stat (y := 152) ni_dL_build_146 ni_w1021 ni_w1022 ni_w27 ni_w1023 ⟨by decide +kernel, by decide +kernel, by decide +kernel⟩ (by decide) rfl) ni_muC <|
  ni_row (ni_okP (ni_iadd ni_dL_build_149)) (ni_muP ni_eqI) <|
  ni_row (ni_iast ni_dL_build_150) ni_muAst <|
  ni_row (ni_okP (ni_dup ni_dL_build_151)) (ni_muP ni_eqDup) <|
  ni_row (ni_okP (ni_iconst ni_dL_build_152 (by decide +kernel))) (ni_muP (ni_eqPush fun _ => rfl)) <|
  ni_row (ni_okP (ni_iconst ni_dL_build_153 (by decide +kernel))) (ni_muP (ni_eqPush fun _ => rfl)) <|
  ni_row (ni_iast ni_dL_build_154) ni_muAst <|
  ni_row (ni_okP (ni_dup ni_dL_build_155)) (ni_muP ni_eqDup) <|
  ni_row (ni_okP (ni_iconst ni_dL_build_156 (by decide +kernel))) (ni_muP (ni_eqPush fun _ => rfl)) <|
  ni_row (ni_okP (ni_iconst ni_dL_build_157 (by decide +kernel))) (ni_muP (ni_eqPush fun _ => rfl)) <|
  ni_row (ni_iload ni_dL_build_158) ni_muLd <|
  ni_row (ni_okP (ni_iconst ni_dL_build_160 (by decide +kernel))) (ni_muP (ni_eqPush fun _ => rfl)) <|
  ni_row (ni_okP (ni_ishr ni_dL_build_161)) (ni_muP ni_eqI) <|
  ni_row (ni_okP (ni_iconst ni_dL_build_162 (by decide +kernel))) (ni_muP (ni_eqPush fun _ => rfl)) <|
  ni_row (ni_stat (y := 152) ni_dL_build_163 ni_w1021 ni_w1022 ni_w27 ni_w1023 ⟨by decide +kernel, by decide +kernel, by decide +kernel⟩ (by decide) rfl) ni_muC <|
  ni_row (ni_okP (ni_iadd ni_dL_build_166)) (ni_muP ni_eqI) <|
  ni_row (ni_iast ni_dL_build_167) ni_muAst <|
  ni_row (ni_aastA ni_dL_build_168) ni_muQsA <|
  ni_row (ni_aloadn ni_dL_build_169 rfl) ni_muLd <|
  ni_row (ni_iload ni_dL_build_170) ni_muLd <|
  ni_row (ni_iload ni_dL_build_172) ni_muLd <|
  ni_row (ni_aloadn ni_dL_build_174 rfl) ni_muLd <|
  ni_row (ni_iload ni_dL_build_175) ni_muLd <|
  ni_row (ni_aaldA ni_dL_build_177) ni_muQlA <|
  ni_row (ni_okP (ni_iconst ni_dL_build_178 (by decide +kernel))) (ni_muP (ni_eqPush fun _ => rfl)) <|
  ni_row (ni_iald ni_dL_build_179) ni_muAld <|
  ni_row (ni_okP (ni_bipush ni_dL_build_180 (by decide +kernel))) (ni_muP (ni_eqPush fun _ => rfl)) <|
  ni_row (ni_aloadn ni_dL_build_182 rfl) ni_muLd <|
  ni_row (ni_iload ni_dL_build_183) ni_muLd <|
  ni_row (ni_aaldA ni_dL_build_185) ni_muQlA <|
  ni_row (ni_okP (ni_iconst ni_dL_build_186 (by decide +kernel))) (ni_muP (ni_eqPush fun _ => rfl)) <|
  ni_row (ni_iald ni_dL_build_187) ni_muAld <|
  ni_row (ni_virt (y := 2) (T := TX11) ni_dL_build_188 (by decide) rfl rfl ni_w1043 ni_w1044 ni_w1045 ni_w28 ni_w1046 ⟨by decide +kernel, by decide +kernel, by decide +kernel⟩ (by decide) rfl) (ni_muV (by decide)) <|
  ni_row (ni_okP (ni_pop ni_dL_build_191)) (ni_muP ni_eqPop) <|
  ni_row (ni_iinc (n := 1) ni_dL_build_192 (by decide)) ni_muInc <|
  ni_row (ni_okP (ni_goto ni_dL_build_195 (by decide))) (ni_muP ni_eqGo) <|
  ni_row (ni_aloadn ni_dL_build_198 rfl) ni_muLd <|
  ni_row (ni_ret ni_dL_build_199) ni_muR <|
  ni_row0
end NIP
