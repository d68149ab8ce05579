section NIP
variable {xs : List Int32}
def ni_pr131 : List (Nat × ni_S) := [(0, ni_sLd 3 0 1),
  (1, ni_sP (ni_gObj 4)),
  (4, ni_sLd 3 0 5),
  (5, ni_sP (ni_gPush (.int 8) 7)),
  (7, ni_sANew 4 10),
  (10, ni_sPut 7 1 (.array (.object "Switchyard$Letter")) 13),
  (13, ni_sLd 3 0 14),
  (14, ni_sP (ni_gPush (.int 8) 16)),
  (16, ni_sNewa 0 .int 18),
  (18, ni_sPut 7 2 (.array (.int)) 21),
  (21, ni_sLd 3 0 22),
  (22, ni_sP (ni_gPush (.int 8) 24)),
  (24, ni_sNewa 0 .int 26),
  (26, ni_sPut 7 3 (.array (.int)) 29),
  (29, ni_sLd 3 0 30),
  (30, ni_sNew 8 [.null, .null, .null, .int 0] 33),
  (33, ni_sP (ni_gDup 34)),
  (34, ni_sI 141 0 37),
  (37, ni_sPut 7 4 (.object "Switchyard$Table") 40),
  (40, ni_sLd 3 0 41),
  (41, ni_sP (ni_gPush (.int 1) 42)),
  (42, ni_sPut 7 5 (.boolean) 45),
  (45, ni_sLd 3 0 46),
  (46, ni_sLd 0 1 47),
  (47, ni_sPut 7 0 (.int) 50),
  (50, ni_sP (ni_gPush (.int 0) 51)),
  (51, ni_sSt 0 3 52),
  (52, ni_sLd 0 3 53),
  (53, ni_sP (ni_gPush (.int 8) 55)),
  (55, ni_sP (ni_gIc (fun x y => decide (y ≤ x)) 87 58)),
  (58, ni_sLd 3 0 59),
  (59, ni_sGet 7 1 62),
  (62, ni_sLd 0 3 63),
  (63, ni_sLd 3 2 64),
  (64, ni_sQst 65),
  (65, ni_sLd 3 0 66),
  (66, ni_sGet 7 2 69),
  (69, ni_sLd 0 3 70),
  (70, ni_sLd 0 3 71),
  (71, ni_sLd 0 1 72),
  (72, ni_sP (ni_gIc (fun x y => decide (¬ x = y)) 79 75)),
  (75, ni_sP (ni_gPush (.int 0) 76)),
  (76, ni_sP (ni_gGo 80)),
  (79, ni_sP (ni_gPush (.int (-1)) 80)),
  (80, ni_sAst .int 0 81),
  (81, ni_sInc 3 (1) 84),
  (84, ni_sP (ni_gGo 52)),
  (87, ni_sR (none))]
theorem ni_pk131 : ∀ r ∈ ni_pr131, ni_Ok xs yX9_init cX9_init 4 (none) [] r.1 r.2 ∧ ni_MU r.2 := ni_row (ni_aloadn ni_dX9_init_0 rfl) ni_muLd <|
  ni_row (ni_okP (ni_objInit ni_dX9_init_1 ni_w336 ni_w55 ni_w56)) (ni_muP ni_eqObj) <|
  ni_row (ni_aloadn ni_dX9_init_4 rfl) ni_muLd <|
  ni_row (ni_okP (ni_bipush ni_dX9_init_5 (by decide +kernel))) (ni_muP (ni_eqPush fun _ => rfl)) <|
  ni_row (ni_anew ni_dX9_init_7 rfl ni_w337 (by decide)) ni_muANew <|
  ni_row (ni_putA (T := TX9) (ty0 := tyX9) (b := true) (Or.inr ⟨rfl, rfl, rfl⟩) rfl ni_dX9_init_10 (by decide) rfl (by decide) ni_uX9 tyX9_ok nmX9 ni_w362) ni_muPut <|
  ni_row (ni_aloadn ni_dX9_init_13 rfl) ni_muLd <|
  ni_row (ni_okP (ni_bipush ni_dX9_init_14 (by decide +kernel))) (ni_muP (ni_eqPush fun _ => rfl)) <|
  ni_row (ni_newa ni_dX9_init_16 rfl rfl (by decide) ni_w93) ni_muNewa <|
  ni_row (ni_putA (T := TX9) (ty0 := tyX9) (b := true) (Or.inr ⟨rfl, rfl, rfl⟩) rfl ni_dX9_init_18 (by decide) rfl (by decide) ni_uX9 tyX9_ok nmX9 ni_w365) ni_muPut <|
  ni_row (ni_aloadn ni_dX9_init_21 rfl) ni_muLd <|
  ni_row (ni_okP (ni_bipush ni_dX9_init_22 (by decide +kernel))) (ni_muP (ni_eqPush fun _ => rfl)) <|
  ni_row (ni_newa ni_dX9_init_24 rfl rfl (by decide) ni_w93) ni_muNewa <|
  ni_row (ni_putA (T := TX9) (ty0 := tyX9) (b := true) (Or.inr ⟨rfl, rfl, rfl⟩) rfl ni_dX9_init_26 (by decide) rfl (by decide) ni_uX9 tyX9_ok nmX9 ni_w367) ni_muPut <|
  ni_row (ni_aloadn ni_dX9_init_29 rfl) ni_muLd <|
  ni_row (ni_new (T := TX10) (ty0 := tyX10) ni_dX9_init_30 (by decide) rfl ni_uX10 tyX10_ok rfl (by decide +kernel) ni_w338 ni_w339 ni_w37) (ni_muNew fun _ => rfl) <|
  ni_row (ni_okP (ni_dup ni_dX9_init_33)) (ni_muP ni_eqDup) <|
  ni_row (ni_initN (y := 141) (host := "Switchyard") ni_dX9_init_34 rfl rfl (by decide) ni_w341 ni_w37 ni_w342 ⟨by decide +kernel, by decide +kernel, by decide +kernel⟩ (by decide) rfl) ni_muI <|
  ni_row (ni_putA (T := TX9) (ty0 := tyX9) (b := true) (Or.inr ⟨rfl, rfl, rfl⟩) rfl ni_dX9_init_37 (by decide) rfl (by decide) ni_uX9 tyX9_ok nmX9 ni_w369) ni_muPut <|
  ni_row (ni_aloadn ni_dX9_init_40 rfl) ni_muLd <|
  ni_row (ni_okP (ni_iconst ni_dX9_init_41 (by decide +kernel))) (ni_muP (ni_eqPush fun _ => rfl)) <|
  ni_row (ni_putA (T := TX9) (ty0 := tyX9) (b := false) (Or.inl rfl) rfl ni_dX9_init_42 (by decide) rfl (by decide) ni_uX9 tyX9_ok nmX9 ni_w372) ni_muPut <|
  ni_row (ni_aloadn ni_dX9_init_45 rfl) ni_muLd <|
  ni_row (ni_iloadn ni_dX9_init_46 rfl) ni_muLd <|
  ni_row (ni_putA (T := TX9) (ty0 := tyX9) (b := true) (Or.inr ⟨rfl, rfl, rfl⟩) rfl ni_dX9_init_47 (by decide) rfl (by decide) ni_uX9 tyX9_ok nmX9 ni_w361) ni_muPut <|
  ni_row (ni_okP (ni_iconst ni_dX9_init_50 (by decide +kernel))) (ni_muP (ni_eqPush fun _ => rfl)) <|
  ni_row (ni_istoren ni_dX9_init_51 rfl (by decide)) ni_muSt <|
  ni_row (ni_iloadn ni_dX9_init_52 rfl) ni_muLd <|
  ni_row (ni_okP (ni_bipush ni_dX9_init_53 (by decide +kernel))) (ni_muP (ni_eqPush fun _ => rfl)) <|
  ni_row (ni_okP (ni_ic_ge ni_dX9_init_55 (by decide))) (ni_muP ni_eqIc) <|
  ni_row (ni_aloadn ni_dX9_init_58 rfl) ni_muLd <|
  ni_row (ni_get (T := TX9) ni_dX9_init_59 (by decide) rfl (by decide) ni_uX9 ni_w362) ni_muGet <|
  ni_row (ni_iloadn ni_dX9_init_62 rfl) ni_muLd <|
  ni_row (ni_aloadn ni_dX9_init_63 rfl) ni_muLd <|
  ni_row (ni_aast ni_dX9_init_64) ni_muQst <|
  ni_row (ni_aloadn ni_dX9_init_65 rfl) ni_muLd <|
  ni_row (ni_get (T := TX9) ni_dX9_init_66 (by decide) rfl (by decide) ni_uX9 ni_w365) ni_muGet <|
  ni_row (ni_iloadn ni_dX9_init_69 rfl) ni_muLd <|
  ni_row (ni_iloadn ni_dX9_init_70 rfl) ni_muLd <|
  ni_row (ni_iloadn ni_dX9_init_71 rfl) ni_muLd <|
  ni_row (ni_okP (ni_ic_ne ni_dX9_init_72 (by decide))) (ni_muP ni_eqIc) <|
  ni_row (ni_okP (ni_iconst ni_dX9_init_75 (by decide +kernel))) (ni_muP (ni_eqPush fun _ => rfl)) <|
  ni_row (ni_okP (ni_goto ni_dX9_init_76 (by decide))) (ni_muP ni_eqGo) <|
  ni_row (ni_okP (ni_iconst ni_dX9_init_79 (by decide +kernel))) (ni_muP (ni_eqPush fun _ => rfl)) <|
  ni_row (ni_iast ni_dX9_init_80) ni_muAst <|
  ni_row (ni_iinc (n := 1) ni_dX9_init_81 (by decide)) ni_muInc <|
  ni_row (ni_okP (ni_goto ni_dX9_init_84 (by decide))) (ni_muP ni_eqGo) <|
  ni_row (ni_ret ni_dX9_init_87) ni_muR <|
  ni_row0
def ni_pr132 : List (Nat × ni_S) := [(0, ni_sP (ni_gPush (.int 0) 1)),
  (1, ni_sSt 0 2 2),
  (2, ni_sLd 0 2 3),
  (3, ni_sP (ni_gPush (.int 8) 5)),
  (5, ni_sP (ni_gIc (fun x y => decide (y ≤ x)) 26 8)),
  (8, ni_sLd 3 0 9),
  (9, ni_sGet 7 1 12),
  (12, ni_sLd 0 2 13),
  (13, ni_sLd 3 1 14),
  (14, ni_sGet 7 1 17),
  (17, ni_sLd 0 2 18),
  (18, ni_sQld 19),
  (19, ni_sQst 20),
  (20, ni_sInc 2 (1) 23),
  (23, ni_sP (ni_gGo 2)),
  (26, ni_sLd 3 1 27),
  (27, ni_sGet 7 2 30),
  (30, ni_sP (ni_gPush (.int 0) 31)),
  (31, ni_sLd 3 0 32),
  (32, ni_sGet 7 2 35),
  (35, ni_sP (ni_gPush (.int 0) 36)),
  (36, ni_sP (ni_gPush (.int 8) 38)),
  (38, ni_sCopy 41),
  (41, ni_sLd 3 1 42),
  (42, ni_sGet 7 3 45),
  (45, ni_sP (ni_gPush (.int 0) 46)),
  (46, ni_sLd 3 0 47),
  (47, ni_sGet 7 3 50),
  (50, ni_sP (ni_gPush (.int 0) 51)),
  (51, ni_sP (ni_gPush (.int 8) 53)),
  (53, ni_sCopy 56),
  (56, ni_sLd 3 0 57),
  (57, ni_sGet 7 4 60),
  (60, ni_sLd 3 1 61),
  (61, ni_sGet 7 4 64),
  (64, ni_sV 143 1 8 67),
  (67, ni_sLd 3 0 68),
  (68, ni_sLd 3 1 69),
  (69, ni_sGet 7 5 72),
  (72, ni_sPut 7 5 (.boolean) 75),
  (75, ni_sR (none))]
theorem ni_pk132 : ∀ r ∈ ni_pr132, ni_Ok xs yX9_copyFrom cX9_copyFrom 3 (none) [] r.1 r.2 ∧ ni_MU r.2 := ni_row (ni_okP (ni_iconst ni_dX9_copyFrom_0 (by decide +kernel))) (ni_muP (ni_eqPush fun _ => rfl)) <|
  ni_row (ni_istoren ni_dX9_copyFrom_1 rfl (by decide)) ni_muSt <|
  ni_row (ni_iloadn ni_dX9_copyFrom_2 rfl) ni_muLd <|
  ni_row (ni_okP (ni_bipush ni_dX9_copyFrom_3 (by decide +kernel))) (ni_muP (ni_eqPush fun _ => rfl)) <|
  ni_row (ni_okP (ni_ic_ge ni_dX9_copyFrom_5 (by decide))) (ni_muP ni_eqIc) <|
  ni_row (ni_aloadn ni_dX9_copyFrom_8 rfl) ni_muLd <|
  ni_row (ni_get (T := TX9) ni_dX9_copyFrom_9 (by decide) rfl (by decide) ni_uX9 ni_w362) ni_muGet <|
  ni_row (ni_iloadn ni_dX9_copyFrom_12 rfl) ni_muLd <|
  ni_row (ni_aloadn ni_dX9_copyFrom_13 rfl) ni_muLd <|
  ni_row (ni_get (T := TX9) ni_dX9_copyFrom_14 (by decide) rfl (by decide) ni_uX9 ni_w362) ni_muGet <|
  ni_row (ni_iloadn ni_dX9_copyFrom_17 rfl) ni_muLd <|
  ni_row (ni_aald ni_dX9_copyFrom_18) ni_muQld <|
  ni_row (ni_aast ni_dX9_copyFrom_19) ni_muQst <|
  ni_row (ni_iinc (n := 1) ni_dX9_copyFrom_20 (by decide)) ni_muInc <|
  ni_row (ni_okP (ni_goto ni_dX9_copyFrom_23 (by decide))) (ni_muP ni_eqGo) <|
  ni_row (ni_aloadn ni_dX9_copyFrom_26 rfl) ni_muLd <|
  ni_row (ni_get (T := TX9) ni_dX9_copyFrom_27 (by decide) rfl (by decide) ni_uX9 ni_w365) ni_muGet <|
  ni_row (ni_okP (ni_iconst ni_dX9_copyFrom_30 (by decide +kernel))) (ni_muP (ni_eqPush fun _ => rfl)) <|
  ni_row (ni_aloadn ni_dX9_copyFrom_31 rfl) ni_muLd <|
  ni_row (ni_get (T := TX9) ni_dX9_copyFrom_32 (by decide) rfl (by decide) ni_uX9 ni_w365) ni_muGet <|
  ni_row (ni_okP (ni_iconst ni_dX9_copyFrom_35 (by decide +kernel))) (ni_muP (ni_eqPush fun _ => rfl)) <|
  ni_row (ni_okP (ni_bipush ni_dX9_copyFrom_36 (by decide +kernel))) (ni_muP (ni_eqPush fun _ => rfl)) <|
  ni_row (ni_copy ni_dX9_copyFrom_38 ni_w918 ni_w920 ni_w919 ni_w48) ni_muCopy <|
  ni_row (ni_aloadn ni_dX9_copyFrom_41 rfl) ni_muLd <|
  ni_row (ni_get (T := TX9) ni_dX9_copyFrom_42 (by decide) rfl (by decide) ni_uX9 ni_w367) ni_muGet <|
  ni_row (ni_okP (ni_iconst ni_dX9_copyFrom_45 (by decide +kernel))) (ni_muP (ni_eqPush fun _ => rfl)) <|
  ni_row (ni_aloadn ni_dX9_copyFrom_46 rfl) ni_muLd <|
  ni_row (ni_get (T := TX9) ni_dX9_copyFrom_47 (by decide) rfl (by decide) ni_uX9 ni_w367) ni_muGet <|
  ni_row (ni_okP (ni_iconst ni_dX9_copyFrom_50 (by decide +kernel))) (ni_muP (ni_eqPush fun _ => rfl)) <|
  ni_row (ni_okP (ni_bipush ni_dX9_copyFrom_51 (by decide +kernel))) (ni_muP (ni_eqPush fun _ => rfl)) <|
  ni_row (ni_copy ni_dX9_copyFrom_53 ni_w918 ni_w920 ni_w919 ni_w48) ni_muCopy <|
  ni_row (ni_aloadn ni_dX9_copyFrom_56 rfl) ni_muLd <|
  ni_row (ni_get (T := TX9) ni_dX9_copyFrom_57 (by decide) rfl (by decide) ni_uX9 ni_w369) ni_muGet <|
  ni_row (ni_aloadn ni_dX9_copyFrom_60 rfl) ni_muLd <|
  ni_row (ni_get (T := TX9) ni_dX9_copyFrom_61 (by decide) rfl (by decide) ni_uX9 ni_w369) ni_muGet <|
  ni_row (ni_virt (y := 143) (T := TX10) ni_dX9_copyFrom_64 (by decide) rfl rfl ni_w921 ni_w922 ni_w923 ni_w37 ni_w924 ⟨by decide +kernel, by decide +kernel, by decide +kernel⟩ (by decide) rfl) (ni_muV (by decide)) <|
  ni_row (ni_aloadn ni_dX9_copyFrom_67 rfl) ni_muLd <|
  ni_row (ni_aloadn ni_dX9_copyFrom_68 rfl) ni_muLd <|
  ni_row (ni_get (T := TX9) ni_dX9_copyFrom_69 (by decide) rfl (by decide) ni_uX9 ni_w372) ni_muGet <|
  ni_row (ni_putA (T := TX9) (ty0 := tyX9) (b := false) (Or.inl rfl) rfl ni_dX9_copyFrom_72 (by decide) rfl (by decide) ni_uX9 tyX9_ok nmX9 ni_w372) ni_muPut <|
  ni_row (ni_ret ni_dX9_copyFrom_75) ni_muR <|
  ni_row0
def ni_pr133 : List (Nat × ni_S) := [(0, ni_sP (ni_gPush (.int 1) 1)),
  (1, ni_sLd 3 0 2),
  (2, ni_sGet 7 0 5),
  (5, ni_sP (ni_gI (fun x y => x <<< (y &&& 31)) 6)),
  (6, ni_sSt 0 1 7),
  (7, ni_sP (ni_gPush (.int 0) 8)),
  (8, ni_sSt 0 2 9),
  (9, ni_sLd 0 2 10),
  (10, ni_sP (ni_gPush (.int 8) 12)),
  (12, ni_sP (ni_gIc (fun x y => decide (y ≤ x)) 86 15)),
  (15, ni_sLd 3 0 16),
  (16, ni_sLd 0 1 17),
  (17, ni_sV 138 1 7 20),
  (20, ni_sSt 0 3 21),
  (21, ni_sLd 0 3 22),
  (22, ni_sP (ni_gPush (.int (-1)) 23)),
  (23, ni_sP (ni_gIc (fun x y => decide (¬ x = y)) 27 26)),
  (26, ni_sR (none)),
  (27, ni_sLd 0 1 28),
  (28, ni_sP (ni_gPush (.int 1) 29)),
  (29, ni_sLd 0 3 30),
  (30, ni_sP (ni_gI (fun x y => x <<< (y &&& 31)) 31)),
  (31, ni_sP (ni_gI (fun x y => x ||| y) 32)),
  (32, ni_sSt 0 1 33),
  (33, ni_sLd 3 0 34),
  (34, ni_sGet 7 1 37),
  (37, ni_sLd 0 3 38),
  (38, ni_sQld 39),
  (39, ni_sGet 1 4 42),
  (42, ni_sSt 3 4 44),
  (44, ni_sP (ni_gPush (.int 0) 45)),
  (45, ni_sSt 0 5 47),
  (47, ni_sLd 0 5 49),
  (49, ni_sLd 3 4 51),
  (51, ni_sLen 52),
  (52, ni_sP (ni_gIc (fun x y => decide (y ≤ x)) 80 55)),
  (55, ni_sLd 3 0 56),
  (56, ni_sGet 7 4 59),
  (59, ni_sLd 3 4 61),
  (61, ni_sLd 0 5 63),
  (63, ni_sAld .int 0 64),
  (64, ni_sP (ni_gPush (.int 2) 65)),
  (65, ni_sLd 3 0 66),
  (66, ni_sGet 7 3 69),
  (69, ni_sLd 0 3 70),
  (70, ni_sAld .int 0 71),
  (71, ni_sV 146 3 8 74),
  (74, ni_sInc 5 (1) 77),
  (77, ni_sP (ni_gGo 47)),
  (80, ni_sInc 2 (1) 83),
  (83, ni_sP (ni_gGo 9)),
  (86, ni_sR (none))]
theorem ni_pk133 : ∀ r ∈ ni_pr133, ni_Ok xs yX9_enterLearned cX9_enterLearned 6 (none) [] r.1 r.2 ∧ ni_MU r.2 := ni_row (ni_okP (ni_iconst ni_dX9_enterLearned_0 (by decide +kernel))) (ni_muP (ni_eqPush fun _ => rfl)) <|
  ni_row (ni_aloadn ni_dX9_enterLearned_1 rfl) ni_muLd <|
  ni_row (ni_get (T := TX9) ni_dX9_enterLearned_2 (by decide) rfl (by decide) ni_uX9 ni_w361) ni_muGet <|
  ni_row (ni_okP (ni_ishl ni_dX9_enterLearned_5)) (ni_muP ni_eqI) <|
  ni_row (ni_istoren ni_dX9_enterLearned_6 rfl (by decide)) ni_muSt <|
  ni_row (ni_okP (ni_iconst ni_dX9_enterLearned_7 (by decide +kernel))) (ni_muP (ni_eqPush fun _ => rfl)) <|
  ni_row (ni_istoren ni_dX9_enterLearned_8 rfl (by decide)) ni_muSt <|
  ni_row (ni_iloadn ni_dX9_enterLearned_9 rfl) ni_muLd <|
  ni_row (ni_okP (ni_bipush ni_dX9_enterLearned_10 (by decide +kernel))) (ni_muP (ni_eqPush fun _ => rfl)) <|
  ni_row (ni_okP (ni_ic_ge ni_dX9_enterLearned_12 (by decide))) (ni_muP ni_eqIc) <|
  ni_row (ni_aloadn ni_dX9_enterLearned_15 rfl) ni_muLd <|
  ni_row (ni_iloadn ni_dX9_enterLearned_16 rfl) ni_muLd <|
  ni_row (ni_virt (y := 138) (T := TX9) ni_dX9_enterLearned_17 (by decide) rfl rfl ni_w826 ni_w828 ni_w15 ni_w35 ni_w829 ⟨by decide +kernel, by decide +kernel, by decide +kernel⟩ (by decide) rfl) (ni_muV (by decide)) <|
  ni_row (ni_istoren ni_dX9_enterLearned_20 rfl (by decide)) ni_muSt <|
  ni_row (ni_iloadn ni_dX9_enterLearned_21 rfl) ni_muLd <|
  ni_row (ni_okP (ni_iconst ni_dX9_enterLearned_22 (by decide +kernel))) (ni_muP (ni_eqPush fun _ => rfl)) <|
  ni_row (ni_okP (ni_ic_ne ni_dX9_enterLearned_23 (by decide))) (ni_muP ni_eqIc) <|
  ni_row (ni_ret ni_dX9_enterLearned_26) ni_muR <|
  ni_row (ni_iloadn ni_dX9_enterLearned_27 rfl) ni_muLd <|
  ni_row (ni_okP (ni_iconst ni_dX9_enterLearned_28 (by decide +kernel))) (ni_muP (ni_eqPush fun _ => rfl)) <|
  ni_row (ni_iloadn ni_dX9_enterLearned_29 rfl) ni_muLd <|
  ni_row (ni_okP (ni_ishl ni_dX9_enterLearned_30)) (ni_muP ni_eqI) <|
  ni_row (ni_okP (ni_ior ni_dX9_enterLearned_31)) (ni_muP ni_eqI) <|
  ni_row (ni_istoren ni_dX9_enterLearned_32 rfl (by decide)) ni_muSt <|
  ni_row (ni_aloadn ni_dX9_enterLearned_33 rfl) ni_muLd <|
  ni_row (ni_get (T := TX9) ni_dX9_enterLearned_34 (by decide) rfl (by decide) ni_uX9 ni_w362) ni_muGet <|
  ni_row (ni_iloadn ni_dX9_enterLearned_37 rfl) ni_muLd <|
  ni_row (ni_aald ni_dX9_enterLearned_38) ni_muQld <|
  ni_row (ni_get (T := TX1) ni_dX9_enterLearned_39 (by decide) rfl (by decide) ni_uX1 ni_w321) ni_muGet <|
  ni_row (ni_astore ni_dX9_enterLearned_42 (by decide)) ni_muSt <|
  ni_row (ni_okP (ni_iconst ni_dX9_enterLearned_44 (by decide +kernel))) (ni_muP (ni_eqPush fun _ => rfl)) <|
  ni_row (ni_istore ni_dX9_enterLearned_45 (by decide)) ni_muSt <|
  ni_row (ni_iload ni_dX9_enterLearned_47) ni_muLd <|
  ni_row (ni_aload ni_dX9_enterLearned_49) ni_muLd <|
  ni_row (ni_len ni_dX9_enterLearned_51) ni_muLen <|
  ni_row (ni_okP (ni_ic_ge ni_dX9_enterLearned_52 (by decide))) (ni_muP ni_eqIc) <|
  ni_row (ni_aloadn ni_dX9_enterLearned_55 rfl) ni_muLd <|
  ni_row (ni_get (T := TX9) ni_dX9_enterLearned_56 (by decide) rfl (by decide) ni_uX9 ni_w369) ni_muGet <|
  ni_row (ni_aload ni_dX9_enterLearned_59) ni_muLd <|
  ni_row (ni_iload ni_dX9_enterLearned_61) ni_muLd <|
  ni_row (ni_iald ni_dX9_enterLearned_63) ni_muAld <|
  ni_row (ni_okP (ni_iconst ni_dX9_enterLearned_64 (by decide +kernel))) (ni_muP (ni_eqPush fun _ => rfl)) <|
  ni_row (ni_aloadn ni_dX9_enterLearned_65 rfl) ni_muLd <|
  ni_row (ni_get (T := TX9) ni_dX9_enterLearned_66 (by decide) rfl (by decide) ni_uX9 ni_w367) ni_muGet <|
  ni_row (ni_iloadn ni_dX9_enterLearned_69 rfl) ni_muLd <|
  ni_row (ni_iald ni_dX9_enterLearned_70) ni_muAld <|
  ni_row (ni_virt (y := 146) (T := TX10) ni_dX9_enterLearned_71 (by decide) rfl rfl ni_w846 ni_w847 ni_w848 ni_w37 ni_w849 ⟨by decide +kernel, by decide +kernel, by decide +kernel⟩ (by decide) rfl) (ni_muV (by decide)) <|
  ni_row (ni_iinc (n := 1) ni_dX9_enterLearned_74 (by decide)) ni_muInc <|
  ni_row (ni_okP (ni_goto ni_dX9_enterLearned_77 (by decide))) (ni_muP ni_eqGo) <|
  ni_row (ni_iinc (n := 1) ni_dX9_enterLearned_80 (by decide)) ni_muInc <|
  ni_row (ni_okP (ni_goto ni_dX9_enterLearned_83 (by decide))) (ni_muP ni_eqGo) <|
  ni_row (ni_ret ni_dX9_enterLearned_86) ni_muR <|
  ni_row0
def ni_pr134 : List (Nat × ni_S) := [(0, ni_sP (ni_gPush (.int 0) 1)),
  (1, ni_sSt 0 2 2),
  (2, ni_sLd 0 2 3),
  (3, ni_sLd 3 1 4),
  (4, ni_sGet 6 3 7),
  (7, ni_sP (ni_gIc (fun x y => decide (y ≤ x)) 44 10)),
  (10, ni_sLd 3 1 11),
  (11, ni_sGet 6 0 14),
  (14, ni_sLd 0 2 15),
  (15, ni_sAld .int 0 16),
  (16, ni_sLd 3 0 17),
  (17, ni_sGet 7 0 20),
  (20, ni_sP (ni_gIc (fun x y => decide (¬ x = y)) 38 23)),
  (23, ni_sLd 3 0 24),
  (24, ni_sGet 7 4 27),
  (27, ni_sLd 3 1 28),
  (28, ni_sGet 6 1 31),
  (31, ni_sLd 0 2 32),
  (32, ni_sAld .int 0 33),
  (33, ni_sP (ni_gPush (.int 0) 34)),
  (34, ni_sP (ni_gPush (.int 0) 35)),
  (35, ni_sV 146 3 8 38),
  (38, ni_sInc 2 (1) 41),
  (41, ni_sP (ni_gGo 2)),
  (44, ni_sR (none))]
theorem ni_pk134 : ∀ r ∈ ni_pr134, ni_Ok xs yX9_enterNetworks cX9_enterNetworks 3 (none) [] r.1 r.2 ∧ ni_MU r.2 := ni_row (ni_okP (ni_iconst ni_dX9_enterNetworks_0 (by decide +kernel))) (ni_muP (ni_eqPush fun _ => rfl)) <|
  ni_row (ni_istoren ni_dX9_enterNetworks_1 rfl (by decide)) ni_muSt <|
  ni_row (ni_iloadn ni_dX9_enterNetworks_2 rfl) ni_muLd <|
  ni_row (ni_aloadn ni_dX9_enterNetworks_3 rfl) ni_muLd <|
  ni_row (ni_get (T := TX8) ni_dX9_enterNetworks_4 (by decide) rfl (by decide) ni_uX8 ni_w83) ni_muGet <|
  ni_row (ni_okP (ni_ic_ge ni_dX9_enterNetworks_7 (by decide))) (ni_muP ni_eqIc) <|
  ni_row (ni_aloadn ni_dX9_enterNetworks_10 rfl) ni_muLd <|
  ni_row (ni_get (T := TX8) ni_dX9_enterNetworks_11 (by decide) rfl (by decide) ni_uX8 ni_w76) ni_muGet <|
  ni_row (ni_iloadn ni_dX9_enterNetworks_14 rfl) ni_muLd <|
  ni_row (ni_iald ni_dX9_enterNetworks_15) ni_muAld <|
  ni_row (ni_aloadn ni_dX9_enterNetworks_16 rfl) ni_muLd <|
  ni_row (ni_get (T := TX9) ni_dX9_enterNetworks_17 (by decide) rfl (by decide) ni_uX9 ni_w361) ni_muGet <|
  ni_row (ni_okP (ni_ic_ne ni_dX9_enterNetworks_20 (by decide))) (ni_muP ni_eqIc) <|
  ni_row (ni_aloadn ni_dX9_enterNetworks_23 rfl) ni_muLd <|
  ni_row (ni_get (T := TX9) ni_dX9_enterNetworks_24 (by decide) rfl (by decide) ni_uX9 ni_w369) ni_muGet <|
  ni_row (ni_aloadn ni_dX9_enterNetworks_27 rfl) ni_muLd <|
  ni_row (ni_get (T := TX8) ni_dX9_enterNetworks_28 (by decide) rfl (by decide) ni_uX8 ni_w78) ni_muGet <|
  ni_row (ni_iloadn ni_dX9_enterNetworks_31 rfl) ni_muLd <|
  ni_row (ni_iald ni_dX9_enterNetworks_32) ni_muAld <|
  ni_row (ni_okP (ni_iconst ni_dX9_enterNetworks_33 (by decide +kernel))) (ni_muP (ni_eqPush fun _ => rfl)) <|
  ni_row (ni_okP (ni_iconst ni_dX9_enterNetworks_34 (by decide +kernel))) (ni_muP (ni_eqPush fun _ => rfl)) <|
  ni_row (ni_virt (y := 146) (T := TX10) ni_dX9_enterNetworks_35 (by decide) rfl rfl ni_w846 ni_w847 ni_w848 ni_w37 ni_w849 ⟨by decide +kernel, by decide +kernel, by decide +kernel⟩ (by decide) rfl) (ni_muV (by decide)) <|
  ni_row (ni_iinc (n := 1) ni_dX9_enterNetworks_38 (by decide)) ni_muInc <|
  ni_row (ni_okP (ni_goto ni_dX9_enterNetworks_41 (by decide))) (ni_muP ni_eqGo) <|
  ni_row (ni_ret ni_dX9_enterNetworks_44) ni_muR <|
  ni_row0
def ni_pr135 : List (Nat × ni_S) := [(0, ni_sP (ni_gPush (.int 0) 1)),
  (1, ni_sSt 0 3 2),
  (2, ni_sLd 0 3 3),
  (3, ni_sLd 3 1 4),
  (4, ni_sGet 6 3 7),
  (7, ni_sP (ni_gIc (fun x y => decide (y ≤ x)) 65 10)),
  (10, ni_sLd 3 1 11),
  (11, ni_sGet 6 2 14),
  (14, ni_sLd 0 3 15),
  (15, ni_sAld .int 0 16),
  (16, ni_sSt 0 4 18),
  (18, ni_sLd 3 1 19),
  (19, ni_sGet 6 0 22),
  (22, ni_sLd 0 3 23),
  (23, ni_sAld .int 0 24),
  (24, ni_sLd 3 0 25),
  (25, ni_sGet 7 0 28),
  (28, ni_sP (ni_gIc (fun x y => decide (¬ x = y)) 59 31)),
  (31, ni_sLd 3 2 32),
  (32, ni_sLd 0 4 34),
  (34, ni_sQld 35),
  (35, ni_sGet 3 5 38),
  (38, ni_sP (ni_gIf (fun x => decide (x = 0)) 59 41)),
  (41, ni_sLd 3 0 42),
  (42, ni_sGet 7 4 45),
  (45, ni_sLd 3 1 46),
  (46, ni_sGet 6 1 49),
  (49, ni_sLd 0 3 50),
  (50, ni_sAld .int 0 51),
  (51, ni_sP (ni_gPush (.int 1) 52)),
  (52, ni_sP (ni_gPush (.int 1) 53)),
  (53, ni_sLd 0 4 55),
  (55, ni_sP (ni_gI (fun x y => x <<< (y &&& 31)) 56)),
  (56, ni_sV 146 3 8 59),
  (59, ni_sInc 3 (1) 62),
  (62, ni_sP (ni_gGo 2)),
  (65, ni_sR (none))]
theorem ni_pk135 : ∀ r ∈ ni_pr135, ni_Ok xs yX9_enterStatics cX9_enterStatics 5 (none) [] r.1 r.2 ∧ ni_MU r.2 := ni_row (ni_okP (ni_iconst ni_dX9_enterStatics_0 (by decide +kernel))) (ni_muP (ni_eqPush fun _ => rfl)) <|
  ni_row (ni_istoren ni_dX9_enterStatics_1 rfl (by decide)) ni_muSt <|
  ni_row (ni_iloadn ni_dX9_enterStatics_2 rfl) ni_muLd <|
  ni_row (ni_aloadn ni_dX9_enterStatics_3 rfl) ni_muLd <|
  ni_row (ni_get (T := TX8) ni_dX9_enterStatics_4 (by decide) rfl (by decide) ni_uX8 ni_w83) ni_muGet <|
  ni_row (ni_okP (ni_ic_ge ni_dX9_enterStatics_7 (by decide))) (ni_muP ni_eqIc) <|
  ni_row (ni_aloadn ni_dX9_enterStatics_10 rfl) ni_muLd <|
  ni_row (ni_get (T := TX8) ni_dX9_enterStatics_11 (by decide) rfl (by decide) ni_uX8 ni_w80) ni_muGet <|
  ni_row (ni_iloadn ni_dX9_enterStatics_14 rfl) ni_muLd <|
  ni_row (ni_iald ni_dX9_enterStatics_15) ni_muAld <|
  ni_row (ni_istore ni_dX9_enterStatics_16 (by decide)) ni_muSt <|
  ni_row (ni_aloadn ni_dX9_enterStatics_18 rfl) ni_muLd <|
  ni_row (ni_get (T := TX8) ni_dX9_enterStatics_19 (by decide) rfl (by decide) ni_uX8 ni_w76) ni_muGet <|
  ni_row (ni_iloadn ni_dX9_enterStatics_22 rfl) ni_muLd <|
  ni_row (ni_iald ni_dX9_enterStatics_23) ni_muAld <|
  ni_row (ni_aloadn ni_dX9_enterStatics_24 rfl) ni_muLd <|
  ni_row (ni_get (T := TX9) ni_dX9_enterStatics_25 (by decide) rfl (by decide) ni_uX9 ni_w361) ni_muGet <|
  ni_row (ni_okP (ni_ic_ne ni_dX9_enterStatics_28 (by decide))) (ni_muP ni_eqIc) <|
  ni_row (ni_aloadn ni_dX9_enterStatics_31 rfl) ni_muLd <|
  ni_row (ni_iload ni_dX9_enterStatics_32) ni_muLd <|
  ni_row (ni_aald ni_dX9_enterStatics_34) ni_muQld <|
  ni_row (ni_get (T := TX3) ni_dX9_enterStatics_35 (by decide) rfl (by decide) ni_uX3 ni_w280) ni_muGet <|
  ni_row (ni_okP (ni_if_eq ni_dX9_enterStatics_38 (by decide))) (ni_muP ni_eqIf) <|
  ni_row (ni_aloadn ni_dX9_enterStatics_41 rfl) ni_muLd <|
  ni_row (ni_get (T := TX9) ni_dX9_enterStatics_42 (by decide) rfl (by decide) ni_uX9 ni_w369) ni_muGet <|
  ni_row (ni_aloadn ni_dX9_enterStatics_45 rfl) ni_muLd <|
  ni_row (ni_get (T := TX8) ni_dX9_enterStatics_46 (by decide) rfl (by decide) ni_uX8 ni_w78) ni_muGet <|
  ni_row (ni_iloadn ni_dX9_enterStatics_49 rfl) ni_muLd <|
  ni_row (ni_iald ni_dX9_enterStatics_50) ni_muAld <|
  ni_row (ni_okP (ni_iconst ni_dX9_enterStatics_51 (by decide +kernel))) (ni_muP (ni_eqPush fun _ => rfl)) <|
  ni_row (ni_okP (ni_iconst ni_dX9_enterStatics_52 (by decide +kernel))) (ni_muP (ni_eqPush fun _ => rfl)) <|
  ni_row (ni_iload ni_dX9_enterStatics_53) ni_muLd <|
  ni_row (ni_okP (ni_ishl ni_dX9_enterStatics_55)) (ni_muP ni_eqI) <|
  ni_row (ni_virt (y := 146) (T := TX10) ni_dX9_enterStatics_56 (by decide) rfl rfl ni_w846 ni_w847 ni_w848 ni_w37 ni_w849 ⟨by decide +kernel, by decide +kernel, by decide +kernel⟩ (by decide) rfl) (ni_muV (by decide)) <|
  ni_row (ni_iinc (n := 1) ni_dX9_enterStatics_59 (by decide)) ni_muInc <|
  ni_row (ni_okP (ni_goto ni_dX9_enterStatics_62 (by decide))) (ni_muP ni_eqGo) <|
  ni_row (ni_ret ni_dX9_enterStatics_65) ni_muR <|
  ni_row0
def ni_pr136 : List (Nat × ni_S) := [(0, ni_sLd 3 0 1),
  (1, ni_sGet 7 1 4),
  (4, ni_sLd 0 3 5),
  (5, ni_sQld 6),
  (6, ni_sLd 0 2 7),
  (7, ni_sV 60 1 1 10),
  (10, ni_sP (ni_gIf (fun x => decide (¬ x = 0)) 14 13)),
  (13, ni_sR (none)),
  (14, ni_sLd 3 0 15),
  (15, ni_sGet 7 2 18),
  (18, ni_sLd 0 1 19),
  (19, ni_sAld .int 0 20),
  (20, ni_sLd 3 0 21),
  (21, ni_sGet 7 1 24),
  (24, ni_sLd 0 1 25),
  (25, ni_sQld 26),
  (26, ni_sGet 1 3 29),
  (29, ni_sLd 0 2 30),
  (30, ni_sAld .int 0 31),
  (31, ni_sP (ni_gI (fun x y => x + y) 32)),
  (32, ni_sSt 0 4 34),
  (34, ni_sLd 0 1 35),
  (35, ni_sLd 3 0 36),
  (36, ni_sGet 7 0 39),
  (39, ni_sP (ni_gIc (fun x y => decide (¬ x = y)) 48 42)),
  (42, ni_sP (ni_gPush (.int 1) 43)),
  (43, ni_sLd 0 2 44),
  (44, ni_sP (ni_gI (fun x y => x <<< (y &&& 31)) 45)),
  (45, ni_sP (ni_gGo 54)),
  (48, ni_sLd 3 0 49),
  (49, ni_sGet 7 3 52),
  (52, ni_sLd 0 1 53),
  (53, ni_sAld .int 0 54),
  (54, ni_sSt 0 5 56),
  (56, ni_sLd 3 0 57),
  (57, ni_sGet 7 2 60),
  (60, ni_sLd 0 3 61),
  (61, ni_sAld .int 0 62),
  (62, ni_sP (ni_gPush (.int (-1)) 63)),
  (63, ni_sP (ni_gIc (fun x y => decide (x = y)) 77 66)),
  (66, ni_sLd 0 4 68),
  (68, ni_sLd 3 0 69),
  (69, ni_sGet 7 2 72),
  (72, ni_sLd 0 3 73),
  (73, ni_sAld .int 0 74),
  (74, ni_sP (ni_gIc (fun x y => decide (y ≤ x)) 96 77)),
  (77, ni_sLd 3 0 78),
  (78, ni_sGet 7 2 81),
  (81, ni_sLd 0 3 82),
  (82, ni_sLd 0 4 84),
  (84, ni_sAst .int 0 85),
  (85, ni_sLd 3 0 86),
  (86, ni_sGet 7 3 89),
  (89, ni_sLd 0 3 90),
  (90, ni_sLd 0 5 92),
  (92, ni_sAst .int 0 93),
  (93, ni_sP (ni_gGo 118)),
  (96, ni_sLd 0 4 98),
  (98, ni_sLd 3 0 99),
  (99, ni_sGet 7 2 102),
  (102, ni_sLd 0 3 103),
  (103, ni_sAld .int 0 104),
  (104, ni_sP (ni_gIc (fun x y => decide (¬ x = y)) 118 107)),
  (107, ni_sLd 3 0 108),
  (108, ni_sGet 7 3 111),
  (111, ni_sLd 0 3 112),
  (112, ni_sP (ni_gDup2 113)),
  (113, ni_sAld .int 0 114),
  (114, ni_sLd 0 5 116),
  (116, ni_sP (ni_gI (fun x y => x ||| y) 117)),
  (117, ni_sAst .int 0 118),
  (118, ni_sR (none))]
theorem ni_pk136 : ∀ r ∈ ni_pr136, ni_Ok xs yX9_goOn cX9_goOn 6 (none) [] r.1 r.2 ∧ ni_MU r.2 := ni_row (ni_aloadn ni_dX9_goOn_0 rfl) ni_muLd <|
  ni_row (ni_get (T := TX9) ni_dX9_goOn_1 (by decide) rfl (by decide) ni_uX9 ni_w362) ni_muGet <|
  ni_row (ni_iloadn ni_dX9_goOn_4 rfl) ni_muLd <|
  ni_row (ni_aald ni_dX9_goOn_5) ni_muQld <|
  ni_row (ni_iloadn ni_dX9_goOn_6 rfl) ni_muLd <|
  ni_row (ni_virt (y := 60) (T := TX1) ni_dX9_goOn_7 (by decide) rfl rfl ni_w830 ni_w831 ni_w832 ni_w36 ni_w833 ⟨by decide +kernel, by decide +kernel, by decide +kernel⟩ (by decide) rfl) (ni_muV (by decide)) <|
  ni_row (ni_okP (ni_if_ne ni_dX9_goOn_10 (by decide))) (ni_muP ni_eqIf) <|
  ni_row (ni_ret ni_dX9_goOn_13) ni_muR <|
  ni_row (ni_aloadn ni_dX9_goOn_14 rfl) ni_muLd <|
  ni_row (ni_get (T := TX9) ni_dX9_goOn_15 (by decide) rfl (by decide) ni_uX9 ni_w365) ni_muGet <|
  ni_row (ni_iloadn ni_dX9_goOn_18 rfl) ni_muLd <|
  ni_row (ni_iald ni_dX9_goOn_19) ni_muAld <|
  ni_row (ni_aloadn ni_dX9_goOn_20 rfl) ni_muLd <|
  ni_row (ni_get (T := TX9) ni_dX9_goOn_21 (by decide) rfl (by decide) ni_uX9 ni_w362) ni_muGet <|
  ni_row (ni_iloadn ni_dX9_goOn_24 rfl) ni_muLd <|
  ni_row (ni_aald ni_dX9_goOn_25) ni_muQld <|
  ni_row (ni_get (T := TX1) ni_dX9_goOn_26 (by decide) rfl (by decide) ni_uX1 ni_w319) ni_muGet <|
  ni_row (ni_iloadn ni_dX9_goOn_29 rfl) ni_muLd <|
  ni_row (ni_iald ni_dX9_goOn_30) ni_muAld <|
  ni_row (ni_okP (ni_iadd ni_dX9_goOn_31)) (ni_muP ni_eqI) <|
  ni_row (ni_istore ni_dX9_goOn_32 (by decide)) ni_muSt <|
  ni_row (ni_iloadn ni_dX9_goOn_34 rfl) ni_muLd <|
  ni_row (ni_aloadn ni_dX9_goOn_35 rfl) ni_muLd <|
  ni_row (ni_get (T := TX9) ni_dX9_goOn_36 (by decide) rfl (by decide) ni_uX9 ni_w361) ni_muGet <|
  ni_row (ni_okP (ni_ic_ne ni_dX9_goOn_39 (by decide))) (ni_muP ni_eqIc) <|
  ni_row (ni_okP (ni_iconst ni_dX9_goOn_42 (by decide +kernel))) (ni_muP (ni_eqPush fun _ => rfl)) <|
  ni_row (ni_iloadn ni_dX9_goOn_43 rfl) ni_muLd <|
  ni_row (ni_okP (ni_ishl ni_dX9_goOn_44)) (ni_muP ni_eqI) <|
  ni_row (ni_okP (ni_goto ni_dX9_goOn_45 (by decide))) (ni_muP ni_eqGo) <|
  ni_row (ni_aloadn ni_dX9_goOn_48 rfl) ni_muLd <|
  ni_row (ni_get (T := TX9) ni_dX9_goOn_49 (by decide) rfl (by decide) ni_uX9 ni_w367) ni_muGet <|
  ni_row (ni_iloadn ni_dX9_goOn_52 rfl) ni_muLd <|
  ni_row (ni_iald ni_dX9_goOn_53) ni_muAld <|
  ni_row (ni_istore ni_dX9_goOn_54 (by decide)) ni_muSt <|
  ni_row (ni_aloadn ni_dX9_goOn_56 rfl) ni_muLd <|
  ni_row (ni_get (T := TX9) ni_dX9_goOn_57 (by decide) rfl (by decide) ni_uX9 ni_w365) ni_muGet <|
  ni_row (ni_iloadn ni_dX9_goOn_60 rfl) ni_muLd <|
  ni_row (ni_iald ni_dX9_goOn_61) ni_muAld <|
  ni_row (ni_okP (ni_iconst ni_dX9_goOn_62 (by decide +kernel))) (ni_muP (ni_eqPush fun _ => rfl)) <|
  ni_row (ni_okP (ni_ic_eq ni_dX9_goOn_63 (by decide))) (ni_muP ni_eqIc) <|
  ni_row (ni_iload ni_dX9_goOn_66) ni_muLd <|
  ni_row (ni_aloadn ni_dX9_goOn_68 rfl) ni_muLd <|
  ni_row (ni_get (T := TX9) ni_dX9_goOn_69 (by decide) rfl (by decide) ni_uX9 ni_w365) ni_muGet <|
  ni_row (ni_iloadn ni_dX9_goOn_72 rfl) ni_muLd <|
  ni_row (ni_iald ni_dX9_goOn_73) ni_muAld <|
  ni_row (ni_okP (ni_ic_ge ni_dX9_goOn_74 (by decide))) (ni_muP ni_eqIc) <|
  ni_row (ni_aloadn ni_dX9_goOn_77 rfl) ni_muLd <|
  ni_row (ni_get (T := TX9) ni_dX9_goOn_78 (by decide) rfl (by decide) ni_uX9 ni_w365) ni_muGet <|
  ni_row (ni_iloadn ni_dX9_goOn_81 rfl) ni_muLd <|
  ni_row (ni_iload ni_dX9_goOn_82) ni_muLd <|
  ni_row (ni_iast ni_dX9_goOn_84) ni_muAst <|
  ni_row (ni_aloadn ni_dX9_goOn_85 rfl) ni_muLd <|
  ni_row (ni_get (T := TX9) ni_dX9_goOn_86 (by decide) rfl (by decide) ni_uX9 ni_w367) ni_muGet <|
  ni_row (ni_iloadn ni_dX9_goOn_89 rfl) ni_muLd <|
  ni_row (ni_iload ni_dX9_goOn_90) ni_muLd <|
  ni_row (ni_iast ni_dX9_goOn_92) ni_muAst <|
  ni_row (ni_okP (ni_goto ni_dX9_goOn_93 (by decide))) (ni_muP ni_eqGo) <|
  ni_row (ni_iload ni_dX9_goOn_96) ni_muLd <|
  ni_row (ni_aloadn ni_dX9_goOn_98 rfl) ni_muLd <|
  ni_row (ni_get (T := TX9) ni_dX9_goOn_99 (by decide) rfl (by decide) ni_uX9 ni_w365) ni_muGet <|
  ni_row (ni_iloadn ni_dX9_goOn_102 rfl) ni_muLd <|
  ni_row (ni_iald ni_dX9_goOn_103) ni_muAld <|
  ni_row (ni_okP (ni_ic_ne ni_dX9_goOn_104 (by decide))) (ni_muP ni_eqIc) <|
  ni_row (ni_aloadn ni_dX9_goOn_107 rfl) ni_muLd <|
  ni_row (ni_get (T := TX9) ni_dX9_goOn_108 (by decide) rfl (by decide) ni_uX9 ni_w367) ni_muGet <|
  ni_row (ni_iloadn ni_dX9_goOn_111 rfl) ni_muLd <|
  ni_row (ni_okP (ni_dup2 ni_dX9_goOn_112)) (ni_muP ni_eqDup2) <|
  ni_row (ni_iald ni_dX9_goOn_113) ni_muAld <|
  ni_row (ni_iload ni_dX9_goOn_114) ni_muLd <|
  ni_row (ni_okP (ni_ior ni_dX9_goOn_116)) (ni_muP ni_eqI) <|
  ni_row (ni_iast ni_dX9_goOn_117) ni_muAst <|
  ni_row (ni_ret ni_dX9_goOn_118) ni_muR <|
  ni_row0
def ni_pr137 : List (Nat × ni_S) := [(0, ni_sLd 3 0 1),
  (1, ni_sGet 7 1 4),
  (4, ni_sLd 3 1 5),
  (5, ni_sGet 1 0 8),
  (8, ni_sLd 3 1 9),
  (9, ni_sQst 10),
  (10, ni_sLd 3 0 11),
  (11, ni_sP (ni_gPush (.int 1) 12)),
  (12, ni_sPut 7 5 (.boolean) 15),
  (15, ni_sR (none))]
theorem ni_pk137 : ∀ r ∈ ni_pr137, ni_Ok xs yX9_keep cX9_keep 2 (none) [] r.1 r.2 ∧ ni_MU r.2 := ni_row (ni_aloadn ni_dX9_keep_0 rfl) ni_muLd <|
  ni_row (ni_get (T := TX9) ni_dX9_keep_1 (by decide) rfl (by decide) ni_uX9 ni_w362) ni_muGet <|
  ni_row (ni_aloadn ni_dX9_keep_4 rfl) ni_muLd <|
  ni_row (ni_get (T := TX1) ni_dX9_keep_5 (by decide) rfl (by decide) ni_uX1 ni_w312) ni_muGet <|
  ni_row (ni_aloadn ni_dX9_keep_8 rfl) ni_muLd <|
  ni_row (ni_aast ni_dX9_keep_9) ni_muQst <|
  ni_row (ni_aloadn ni_dX9_keep_10 rfl) ni_muLd <|
  ni_row (ni_okP (ni_iconst ni_dX9_keep_11 (by decide +kernel))) (ni_muP (ni_eqPush fun _ => rfl)) <|
  ni_row (ni_putA (T := TX9) (ty0 := tyX9) (b := false) (Or.inl rfl) rfl ni_dX9_keep_12 (by decide) rfl (by decide) ni_uX9 tyX9_ok nmX9 ni_w372) ni_muPut <|
  ni_row (ni_ret ni_dX9_keep_15) ni_muR <|
  ni_row0
def ni_pr138 : List (Nat × ni_S) := [(0, ni_sP (ni_gPush (.int (-1)) 1)),
  (1, ni_sSt 0 2 2),
  (2, ni_sP (ni_gPush (.int 0) 3)),
  (3, ni_sSt 0 3 4),
  (4, ni_sLd 0 3 5),
  (5, ni_sP (ni_gPush (.int 8) 7)),
  (7, ni_sP (ni_gIc (fun x y => decide (y ≤ x)) 68 10)),
  (10, ni_sLd 0 1 11),
  (11, ni_sLd 0 3 12),
  (12, ni_sP (ni_gI (fun x y => x >>> (y &&& 31)) 13)),
  (13, ni_sP (ni_gPush (.int 1) 14)),
  (14, ni_sP (ni_gI (fun x y => x &&& y) 15)),
  (15, ni_sP (ni_gIf (fun x => decide (¬ x = 0)) 32 18)),
  (18, ni_sLd 3 0 19),
  (19, ni_sGet 7 2 22),
  (22, ni_sLd 0 3 23),
  (23, ni_sAld .int 0 24),
  (24, ni_sP (ni_gPush (.int (-1)) 25)),
  (25, ni_sP (ni_gIc (fun x y => decide (x = y)) 32 28)),
  (28, ni_sP (ni_gPush (.int 1) 29)),
  (29, ni_sP (ni_gGo 33)),
  (32, ni_sP (ni_gPush (.int 0) 33)),
  (33, ni_sSt 0 4 35),
  (35, ni_sLd 0 4 37),
  (37, ni_sP (ni_gIf (fun x => decide (x = 0)) 62 40)),
  (40, ni_sLd 0 2 41),
  (41, ni_sP (ni_gPush (.int (-1)) 42)),
  (42, ni_sP (ni_gIc (fun x y => decide (x = y)) 60 45)),
  (45, ni_sLd 3 0 46),
  (46, ni_sGet 7 2 49),
  (49, ni_sLd 0 3 50),
  (50, ni_sAld .int 0 51),
  (51, ni_sLd 3 0 52),
  (52, ni_sGet 7 2 55),
  (55, ni_sLd 0 2 56),
  (56, ni_sAld .int 0 57),
  (57, ni_sP (ni_gIc (fun x y => decide (y ≤ x)) 62 60)),
  (60, ni_sLd 0 3 61),
  (61, ni_sSt 0 2 62),
  (62, ni_sInc 3 (1) 65),
  (65, ni_sP (ni_gGo 4)),
  (68, ni_sLd 0 2 69),
  (69, ni_sR (some .int))]
theorem ni_pk138 : ∀ r ∈ ni_pr138, ni_Ok xs yX9_nearestBut cX9_nearestBut 5 (some .int) [] r.1 r.2 ∧ ni_MU r.2 := ni_row (ni_okP (ni_iconst ni_dX9_nearestBut_0 (by decide +kernel))) (ni_muP (ni_eqPush fun _ => rfl)) <|
  ni_row (ni_istoren ni_dX9_nearestBut_1 rfl (by decide)) ni_muSt <|
  ni_row (ni_okP (ni_iconst ni_dX9_nearestBut_2 (by decide +kernel))) (ni_muP (ni_eqPush fun _ => rfl)) <|
  ni_row (ni_istoren ni_dX9_nearestBut_3 rfl (by decide)) ni_muSt <|
  ni_row (ni_iloadn ni_dX9_nearestBut_4 rfl) ni_muLd <|
  ni_row (ni_okP (ni_bipush ni_dX9_nearestBut_5 (by decide +kernel))) (ni_muP (ni_eqPush fun _ => rfl)) <|
  ni_row (ni_okP (ni_ic_ge ni_dX9_nearestBut_7 (by decide))) (ni_muP ni_eqIc) <|
  ni_row (ni_iloadn ni_dX9_nearestBut_10 rfl) ni_muLd <|
  ni_row (ni_iloadn ni_dX9_nearestBut_11 rfl) ni_muLd <|
  ni_row (ni_okP (ni_ishr ni_dX9_nearestBut_12)) (ni_muP ni_eqI) <|
  ni_row (ni_okP (ni_iconst ni_dX9_nearestBut_13 (by decide +kernel))) (ni_muP (ni_eqPush fun _ => rfl)) <|
  ni_row (ni_okP (ni_iand ni_dX9_nearestBut_14)) (ni_muP ni_eqI) <|
  ni_row (ni_okP (ni_if_ne ni_dX9_nearestBut_15 (by decide))) (ni_muP ni_eqIf) <|
  ni_row (ni_aloadn ni_dX9_nearestBut_18 rfl) ni_muLd <|
  ni_row (ni_get (T := TX9) ni_dX9_nearestBut_19 (by decide) rfl (by decide) ni_uX9 ni_w365) ni_muGet <|
  ni_row (ni_iloadn ni_dX9_nearestBut_22 rfl) ni_muLd <|
  ni_row (ni_iald ni_dX9_nearestBut_23) ni_muAld <|
  ni_row (ni_okP (ni_iconst ni_dX9_nearestBut_24 (by decide +kernel))) (ni_muP (ni_eqPush fun _ => rfl)) <|
  ni_row (ni_okP (ni_ic_eq ni_dX9_nearestBut_25 (by decide))) (ni_muP ni_eqIc) <|
  ni_row (ni_okP (ni_iconst ni_dX9_nearestBut_28 (by decide +kernel))) (ni_muP (ni_eqPush fun _ => rfl)) <|
  ni_row (ni_okP (ni_goto ni_dX9_nearestBut_29 (by decide))) (ni_muP ni_eqGo) <|
  ni_row (ni_okP (ni_iconst ni_dX9_nearestBut_32 (by decide +kernel))) (ni_muP (ni_eqPush fun _ => rfl)) <|
  ni_row (ni_istore ni_dX9_nearestBut_33 (by decide)) ni_muSt <|
  ni_row (ni_iload ni_dX9_nearestBut_35) ni_muLd <|
  ni_row (ni_okP (ni_if_eq ni_dX9_nearestBut_37 (by decide))) (ni_muP ni_eqIf) <|
  ni_row (ni_iloadn ni_dX9_nearestBut_40 rfl) ni_muLd <|
  ni_row (ni_okP (ni_iconst ni_dX9_nearestBut_41 (by decide +kernel))) (ni_muP (ni_eqPush fun _ => rfl)) <|
  ni_row (ni_okP (ni_ic_eq ni_dX9_nearestBut_42 (by decide))) (ni_muP ni_eqIc) <|
  ni_row (ni_aloadn ni_dX9_nearestBut_45 rfl) ni_muLd <|
  ni_row (ni_get (T := TX9) ni_dX9_nearestBut_46 (by decide) rfl (by decide) ni_uX9 ni_w365) ni_muGet <|
  ni_row (ni_iloadn ni_dX9_nearestBut_49 rfl) ni_muLd <|
  ni_row (ni_iald ni_dX9_nearestBut_50) ni_muAld <|
  ni_row (ni_aloadn ni_dX9_nearestBut_51 rfl) ni_muLd <|
  ni_row (ni_get (T := TX9) ni_dX9_nearestBut_52 (by decide) rfl (by decide) ni_uX9 ni_w365) ni_muGet <|
  ni_row (ni_iloadn ni_dX9_nearestBut_55 rfl) ni_muLd <|
  ni_row (ni_iald ni_dX9_nearestBut_56) ni_muAld <|
  ni_row (ni_okP (ni_ic_ge ni_dX9_nearestBut_57 (by decide))) (ni_muP ni_eqIc) <|
  ni_row (ni_iloadn ni_dX9_nearestBut_60 rfl) ni_muLd <|
  ni_row (ni_istoren ni_dX9_nearestBut_61 rfl (by decide)) ni_muSt <|
  ni_row (ni_iinc (n := 1) ni_dX9_nearestBut_62 (by decide)) ni_muInc <|
  ni_row (ni_okP (ni_goto ni_dX9_nearestBut_65 (by decide))) (ni_muP ni_eqGo) <|
  ni_row (ni_iloadn ni_dX9_nearestBut_68 rfl) ni_muLd <|
  ni_row (ni_ret ni_dX9_nearestBut_69) ni_muR <|
  ni_row0
def ni_pr139 : List (Nat × ni_S) := [(0, ni_sLd 3 0 1),
  (1, ni_sGet 7 5 4),
  (4, ni_sP (ni_gIf (fun x => decide (¬ x = 0)) 8 7)),
  (7, ni_sR (none)),
  (8, ni_sLd 3 0 9),
  (9, ni_sP (ni_gPush (.int 0) 10)),
  (10, ni_sPut 7 5 (.boolean) 13),
  (13, ni_sLd 3 0 14),
  (14, ni_sLd 3 1 15),
  (15, ni_sV 140 1 7 18),
  (18, ni_sLd 3 0 19),
  (19, ni_sGet 7 4 22),
  (22, ni_sP (ni_gPush (.int 0) 23)),
  (23, ni_sPut 8 3 (.int) 26),
  (26, ni_sLd 3 0 27),
  (27, ni_sLd 3 2 28),
  (28, ni_sV 134 1 7 31),
  (31, ni_sLd 3 0 32),
  (32, ni_sLd 3 3 33),
  (33, ni_sLd 3 1 34),
  (34, ni_sV 135 2 7 37),
  (37, ni_sLd 3 0 38),
  (38, ni_sV 133 0 7 41),
  (41, ni_sR (none))]
theorem ni_pk139 : ∀ r ∈ ni_pr139, ni_Ok xs yX9_reckon cX9_reckon 4 (none) [] r.1 r.2 ∧ ni_MU r.2 := ni_row (ni_aloadn ni_dX9_reckon_0 rfl) ni_muLd <|
  ni_row (ni_get (T := TX9) ni_dX9_reckon_1 (by decide) rfl (by decide) ni_uX9 ni_w372) ni_muGet <|
  ni_row (ni_okP (ni_if_ne ni_dX9_reckon_4 (by decide))) (ni_muP ni_eqIf) <|
  ni_row (ni_ret ni_dX9_reckon_7) ni_muR <|
  ni_row (ni_aloadn ni_dX9_reckon_8 rfl) ni_muLd <|
  ni_row (ni_okP (ni_iconst ni_dX9_reckon_9 (by decide +kernel))) (ni_muP (ni_eqPush fun _ => rfl)) <|
  ni_row (ni_putA (T := TX9) (ty0 := tyX9) (b := false) (Or.inl rfl) rfl ni_dX9_reckon_10 (by decide) rfl (by decide) ni_uX9 tyX9_ok nmX9 ni_w372) ni_muPut <|
  ni_row (ni_aloadn ni_dX9_reckon_13 rfl) ni_muLd <|
  ni_row (ni_aloadn ni_dX9_reckon_14 rfl) ni_muLd <|
  ni_row (ni_virt (y := 140) (T := TX9) ni_dX9_reckon_15 (by decide) rfl rfl ni_w822 ni_w824 ni_w14 ni_w35 ni_w825 ⟨by decide +kernel, by decide +kernel, by decide +kernel⟩ (by decide) rfl) (ni_muV (by decide)) <|
  ni_row (ni_aloadn ni_dX9_reckon_18 rfl) ni_muLd <|
  ni_row (ni_get (T := TX9) ni_dX9_reckon_19 (by decide) rfl (by decide) ni_uX9 ni_w369) ni_muGet <|
  ni_row (ni_okP (ni_iconst ni_dX9_reckon_22 (by decide +kernel))) (ni_muP (ni_eqPush fun _ => rfl)) <|
  ni_row (ni_putA (T := TX10) (ty0 := tyX10) (b := false) (Or.inl rfl) rfl ni_dX9_reckon_23 (by decide) rfl (by decide) ni_uX10 tyX10_ok nmX10 ni_w350) ni_muPut <|
  ni_row (ni_aloadn ni_dX9_reckon_26 rfl) ni_muLd <|
  ni_row (ni_aloadn ni_dX9_reckon_27 rfl) ni_muLd <|
  ni_row (ni_virt (y := 134) (T := TX9) ni_dX9_reckon_28 (by decide) rfl rfl ni_w842 ni_w844 ni_w17 ni_w35 ni_w845 ⟨by decide +kernel, by decide +kernel, by decide +kernel⟩ (by decide) rfl) (ni_muV (by decide)) <|
  ni_row (ni_aloadn ni_dX9_reckon_31 rfl) ni_muLd <|
  ni_row (ni_aloadn ni_dX9_reckon_32 rfl) ni_muLd <|
  ni_row (ni_aloadn ni_dX9_reckon_33 rfl) ni_muLd <|
  ni_row (ni_virt (y := 135) (T := TX9) ni_dX9_reckon_34 (by decide) rfl rfl ni_w850 ni_w852 ni_w18 ni_w35 ni_w853 ⟨by decide +kernel, by decide +kernel, by decide +kernel⟩ (by decide) rfl) (ni_muV (by decide)) <|
  ni_row (ni_aloadn ni_dX9_reckon_37 rfl) ni_muLd <|
  ni_row (ni_virt (y := 133) (T := TX9) ni_dX9_reckon_38 (by decide) rfl rfl ni_w854 ni_w856 ni_w19 ni_w35 ni_w857 ⟨by decide +kernel, by decide +kernel, by decide +kernel⟩ (by decide) rfl) (ni_muV (by decide)) <|
  ni_row (ni_ret ni_dX9_reckon_41) ni_muR <|
  ni_row0
def ni_pr140 : List (Nat × ni_S) := [(0, ni_sP (ni_gPush (.int 0) 1)),
  (1, ni_sSt 0 2 2),
  (2, ni_sLd 0 2 3),
  (3, ni_sP (ni_gPush (.int 8) 5)),
  (5, ni_sP (ni_gIc (fun x y => decide (y ≤ x)) 40 8)),
  (8, ni_sLd 3 0 9),
  (9, ni_sGet 7 2 12),
  (12, ni_sLd 0 2 13),
  (13, ni_sLd 0 2 14),
  (14, ni_sLd 3 0 15),
  (15, ni_sGet 7 0 18),
  (18, ni_sP (ni_gIc (fun x y => decide (¬ x = y)) 25 21)),
  (21, ni_sP (ni_gPush (.int 0) 22)),
  (22, ni_sP (ni_gGo 26)),
  (25, ni_sP (ni_gPush (.int (-1)) 26)),
  (26, ni_sAst .int 0 27),
  (27, ni_sLd 3 0 28),
  (28, ni_sGet 7 3 31),
  (31, ni_sLd 0 2 32),
  (32, ni_sP (ni_gPush (.int 0) 33)),
  (33, ni_sAst .int 0 34),
  (34, ni_sInc 2 (1) 37),
  (37, ni_sP (ni_gGo 2)),
  (40, ni_sP (ni_gPush (.int 0) 41)),
  (41, ni_sSt 0 2 42),
  (42, ni_sP (ni_gPush (.int 0) 43)),
  (43, ni_sSt 0 3 44),
  (44, ni_sLd 0 3 45),
  (45, ni_sP (ni_gPush (.int 8) 47)),
  (47, ni_sP (ni_gIc (fun x y => decide (y ≤ x)) 125 50)),
  (50, ni_sLd 3 0 51),
  (51, ni_sLd 0 2 52),
  (52, ni_sV 138 1 7 55),
  (55, ni_sSt 0 4 57),
  (57, ni_sLd 0 4 59),
  (59, ni_sP (ni_gPush (.int (-1)) 60)),
  (60, ni_sP (ni_gIc (fun x y => decide (¬ x = y)) 64 63)),
  (63, ni_sR (none)),
  (64, ni_sLd 0 2 65),
  (65, ni_sP (ni_gPush (.int 1) 66)),
  (66, ni_sLd 0 4 68),
  (68, ni_sP (ni_gI (fun x y => x <<< (y &&& 31)) 69)),
  (69, ni_sP (ni_gI (fun x y => x ||| y) 70)),
  (70, ni_sSt 0 2 71),
  (71, ni_sP (ni_gPush (.int 0) 72)),
  (72, ni_sSt 0 5 74),
  (74, ni_sLd 0 5 76),
  (76, ni_sLd 3 1 77),
  (77, ni_sLen 78),
  (78, ni_sP (ni_gIc (fun x y => decide (y ≤ x)) 119 81)),
  (81, ni_sLd 3 0 82),
  (82, ni_sGet 7 1 85),
  (85, ni_sLd 0 4 87),
  (87, ni_sQld 88),
  (88, ni_sLd 0 5 90),
  (90, ni_sV 60 1 1 93),
  (93, ni_sP (ni_gIf (fun x => decide (x = 0)) 113 96)),
  (96, ni_sLd 3 0 97),
  (97, ni_sLd 0 4 99),
  (99, ni_sLd 0 5 101),
  (101, ni_sLd 3 1 102),
  (102, ni_sLd 0 5 104),
  (104, ni_sQld 105),
  (105, ni_sLd 0 4 107),
  (107, ni_sV 72 1 3 110),
  (110, ni_sV 136 3 7 113),
  (113, ni_sInc 5 (1) 116),
  (116, ni_sP (ni_gGo 74)),
  (119, ni_sInc 3 (1) 122),
  (122, ni_sP (ni_gGo 44)),
  (125, ni_sR (none))]
theorem ni_pk140 : ∀ r ∈ ni_pr140, ni_Ok xs yX9_reckonWays cX9_reckonWays 6 (none) [] r.1 r.2 ∧ ni_MU r.2 := ni_row (ni_okP (ni_iconst ni_dX9_reckonWays_0 (by decide +kernel))) (ni_muP (ni_eqPush fun _ => rfl)) <|
  ni_row (ni_istoren ni_dX9_reckonWays_1 rfl (by decide)) ni_muSt <|
  ni_row (ni_iloadn ni_dX9_reckonWays_2 rfl) ni_muLd <|
  ni_row (ni_okP (ni_bipush ni_dX9_reckonWays_3 (by decide +kernel))) (ni_muP (ni_eqPush fun _ => rfl)) <|
  ni_row (ni_okP (ni_ic_ge ni_dX9_reckonWays_5 (by decide))) (ni_muP ni_eqIc) <|
  ni_row (ni_aloadn ni_dX9_reckonWays_8 rfl) ni_muLd <|
  ni_row (ni_get (T := TX9) ni_dX9_reckonWays_9 (by decide) rfl (by decide) ni_uX9 ni_w365) ni_muGet <|
  ni_row (ni_iloadn ni_dX9_reckonWays_12 rfl) ni_muLd <|
  ni_row (ni_iloadn ni_dX9_reckonWays_13 rfl) ni_muLd <|
  ni_row (ni_aloadn ni_dX9_reckonWays_14 rfl) ni_muLd <|
  ni_row (ni_get (T := TX9) ni_dX9_reckonWays_15 (by decide) rfl (by decide) ni_uX9 ni_w361) ni_muGet <|
  ni_row (ni_okP (ni_ic_ne ni_dX9_reckonWays_18 (by decide))) (ni_muP ni_eqIc) <|
  ni_row (ni_okP (ni_iconst ni_dX9_reckonWays_21 (by decide +kernel))) (ni_muP (ni_eqPush fun _ => rfl)) <|
  ni_row (ni_okP (ni_goto ni_dX9_reckonWays_22 (by decide))) (ni_muP ni_eqGo) <|
  ni_row (ni_okP (ni_iconst ni_dX9_reckonWays_25 (by decide +kernel))) (ni_muP (ni_eqPush fun _ => rfl)) <|
  ni_row (ni_iast ni_dX9_reckonWays_26) ni_muAst <|
  ni_row (ni_aloadn ni_dX9_reckonWays_27 rfl) ni_muLd <|
  ni_row (ni_get (T := TX9) ni_dX9_reckonWays_28 (by decide) rfl (by decide) ni_uX9 ni_w367) ni_muGet <|
  ni_row (ni_iloadn ni_dX9_reckonWays_31 rfl) ni_muLd <|
  ni_row (ni_okP (ni_iconst ni_dX9_reckonWays_32 (by decide +kernel))) (ni_muP (ni_eqPush fun _ => rfl)) <|
  ni_row (ni_iast ni_dX9_reckonWays_33) ni_muAst <|
  ni_row (ni_iinc (n := 1) ni_dX9_reckonWays_34 (by decide)) ni_muInc <|
  ni_row (ni_okP (ni_goto ni_dX9_reckonWays_37 (by decide))) (ni_muP ni_eqGo) <|
  ni_row (ni_okP (ni_iconst ni_dX9_reckonWays_40 (by decide +kernel))) (ni_muP (ni_eqPush fun _ => rfl)) <|
  ni_row (ni_istoren ni_dX9_reckonWays_41 rfl (by decide)) ni_muSt <|
  ni_row (ni_okP (ni_iconst ni_dX9_reckonWays_42 (by decide +kernel))) (ni_muP (ni_eqPush fun _ => rfl)) <|
  ni_row (ni_istoren ni_dX9_reckonWays_43 rfl (by decide)) ni_muSt <|
  ni_row (ni_iloadn ni_dX9_reckonWays_44 rfl) ni_muLd <|
  ni_row (ni_okP (ni_bipush ni_dX9_reckonWays_45 (by decide +kernel))) (ni_muP (ni_eqPush fun _ => rfl)) <|
  ni_row (ni_okP (ni_ic_ge ni_dX9_reckonWays_47 (by decide))) (ni_muP ni_eqIc) <|
  ni_row (ni_aloadn ni_dX9_reckonWays_50 rfl) ni_muLd <|
  ni_row (ni_iloadn ni_dX9_reckonWays_51 rfl) ni_muLd <|
  ni_row (ni_virt (y := 138) (T := TX9) ni_dX9_reckonWays_52 (by decide) rfl rfl ni_w826 ni_w828 ni_w15 ni_w35 ni_w829 ⟨by decide +kernel, by decide +kernel, by decide +kernel⟩ (by decide) rfl) (ni_muV (by decide)) <|
  ni_row (ni_istore ni_dX9_reckonWays_55 (by decide)) ni_muSt <|
  ni_row (ni_iload ni_dX9_reckonWays_57) ni_muLd <|
  ni_row (ni_okP (ni_iconst ni_dX9_reckonWays_59 (by decide +kernel))) (ni_muP (ni_eqPush fun _ => rfl)) <|
  ni_row (ni_okP (ni_ic_ne ni_dX9_reckonWays_60 (by decide))) (ni_muP ni_eqIc) <|
  ni_row (ni_ret ni_dX9_reckonWays_63) ni_muR <|
  ni_row (ni_iloadn ni_dX9_reckonWays_64 rfl) ni_muLd <|
  ni_row (ni_okP (ni_iconst ni_dX9_reckonWays_65 (by decide +kernel))) (ni_muP (ni_eqPush fun _ => rfl)) <|
  ni_row (ni_iload ni_dX9_reckonWays_66) ni_muLd <|
  ni_row (ni_okP (ni_ishl ni_dX9_reckonWays_68)) (ni_muP ni_eqI) <|
  ni_row (ni_okP (ni_ior ni_dX9_reckonWays_69)) (ni_muP ni_eqI) <|
  ni_row (ni_istoren ni_dX9_reckonWays_70 rfl (by decide)) ni_muSt <|
  ni_row (ni_okP (ni_iconst ni_dX9_reckonWays_71 (by decide +kernel))) (ni_muP (ni_eqPush fun _ => rfl)) <|
  ni_row (ni_istore ni_dX9_reckonWays_72 (by decide)) ni_muSt <|
  ni_row (ni_iload ni_dX9_reckonWays_74) ni_muLd <|
  ni_row (ni_aloadn ni_dX9_reckonWays_76 rfl) ni_muLd <|
  ni_row (ni_len ni_dX9_reckonWays_77) ni_muLen <|
  ni_row (ni_okP (ni_ic_ge ni_dX9_reckonWays_78 (by decide))) (ni_muP ni_eqIc) <|
  ni_row (ni_aloadn ni_dX9_reckonWays_81 rfl) ni_muLd <|
  ni_row (ni_get (T := TX9) ni_dX9_reckonWays_82 (by decide) rfl (by decide) ni_uX9 ni_w362) ni_muGet <|
  ni_row (ni_iload ni_dX9_reckonWays_85) ni_muLd <|
  ni_row (ni_aald ni_dX9_reckonWays_87) ni_muQld <|
  ni_row (ni_iload ni_dX9_reckonWays_88) ni_muLd <|
  ni_row (ni_virt (y := 60) (T := TX1) ni_dX9_reckonWays_90 (by decide) rfl rfl ni_w830 ni_w831 ni_w832 ni_w36 ni_w833 ⟨by decide +kernel, by decide +kernel, by decide +kernel⟩ (by decide) rfl) (ni_muV (by decide)) <|
  ni_row (ni_okP (ni_if_eq ni_dX9_reckonWays_93 (by decide))) (ni_muP ni_eqIf) <|
  ni_row (ni_aloadn ni_dX9_reckonWays_96 rfl) ni_muLd <|
  ni_row (ni_iload ni_dX9_reckonWays_97) ni_muLd <|
  ni_row (ni_iload ni_dX9_reckonWays_99) ni_muLd <|
  ni_row (ni_aloadn ni_dX9_reckonWays_101 rfl) ni_muLd <|
  ni_row (ni_iload ni_dX9_reckonWays_102) ni_muLd <|
  ni_row (ni_aald ni_dX9_reckonWays_104) ni_muQld <|
  ni_row (ni_iload ni_dX9_reckonWays_105) ni_muLd <|
  ni_row (ni_virt (y := 72) (T := TX3) ni_dX9_reckonWays_107 (by decide) rfl rfl ni_w834 ni_w835 ni_w836 ni_w32 ni_w837 ⟨by decide +kernel, by decide +kernel, by decide +kernel⟩ (by decide) rfl) (ni_muV (by decide)) <|
  ni_row (ni_virt (y := 136) (T := TX9) ni_dX9_reckonWays_110 (by decide) rfl rfl ni_w838 ni_w840 ni_w16 ni_w35 ni_w841 ⟨by decide +kernel, by decide +kernel, by decide +kernel⟩ (by decide) rfl) (ni_muV (by decide)) <|
  ni_row (ni_iinc (n := 1) ni_dX9_reckonWays_113 (by decide)) ni_muInc <|
  ni_row (ni_okP (ni_goto ni_dX9_reckonWays_116 (by decide))) (ni_muP ni_eqGo) <|
  ni_row (ni_iinc (n := 1) ni_dX9_reckonWays_119 (by decide)) ni_muInc <|
  ni_row (ni_okP (ni_goto ni_dX9_reckonWays_122 (by decide))) (ni_muP ni_eqGo) <|
  ni_row (ni_ret ni_dX9_reckonWays_125) ni_muR <|
  ni_row0
end NIP
