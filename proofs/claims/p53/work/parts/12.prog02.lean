section NIP
variable {xs : List Int32}
def ni_pr39 : List (Nat × ni_S) := [(0, ni_sLd 3 0 1),
  (1, ni_sLd 0 1 2),
  (2, ni_sV 9 1 9 5),
  (5, ni_sLd 0 2 6),
  (6, ni_sP (ni_gPush (.int 1) 7)),
  (7, ni_sP (ni_gPush (.int 50) 9)),
  (9, ni_sC 11 3 12),
  (12, ni_sLd 3 0 13),
  (13, ni_sGet 9 0 16),
  (16, ni_sLd 0 1 17),
  (17, ni_sLd 0 2 18),
  (18, ni_sV 76 2 4 21),
  (21, ni_sR (some .int))]
theorem ni_pk39 : ∀ r ∈ ni_pr39, ni_Ok xs yX11_setCost cX11_setCost 3 (some .int) [] r.1 r.2 ∧ ni_MU r.2 := ni_row (ni_aloadn ni_dX11_setCost_0 rfl) ni_muLd <|
  ni_row (ni_iloadn ni_dX11_setCost_1 rfl) ni_muLd <|
  ni_row (ni_virt (y := 9) (T := TX11) ni_dX11_setCost_2 (by decide) rfl rfl ni_w435 ni_w437 ni_w0 ni_w28 ni_w438 ⟨by decide +kernel, by decide +kernel, by decide +kernel⟩ (by decide) rfl) (ni_muV (by decide)) <|
  ni_row (ni_iloadn ni_dX11_setCost_5 rfl) ni_muLd <|
  ni_row (ni_okP (ni_iconst ni_dX11_setCost_6 (by decide +kernel))) (ni_muP (ni_eqPush fun _ => rfl)) <|
  ni_row (ni_okP (ni_bipush ni_dX11_setCost_7 (by decide +kernel))) (ni_muP (ni_eqPush fun _ => rfl)) <|
  ni_row (ni_stat (y := 11) ni_dX11_setCost_9 ni_w510 ni_w511 ni_w28 ni_w512 ⟨by decide +kernel, by decide +kernel, by decide +kernel⟩ (by decide) rfl) ni_muC <|
  ni_row (ni_aloadn ni_dX11_setCost_12 rfl) ni_muLd <|
  ni_row (ni_get (T := TX11) ni_dX11_setCost_13 (by decide) rfl (by decide) ni_uX11 ni_w424) ni_muGet <|
  ni_row (ni_iloadn ni_dX11_setCost_16 rfl) ni_muLd <|
  ni_row (ni_iloadn ni_dX11_setCost_17 rfl) ni_muLd <|
  ni_row (ni_virt (y := 76) (T := TX4) ni_dX11_setCost_18 (by decide) rfl rfl ni_w529 ni_w530 ni_w531 ni_w29 ni_w532 ⟨by decide +kernel, by decide +kernel, by decide +kernel⟩ (by decide) rfl) (ni_muV (by decide)) <|
  ni_row (ni_ret ni_dX11_setCost_21) ni_muR <|
  ni_row0
def ni_pr40 : List (Nat × ni_S) := [(0, ni_sLd 3 0 1),
  (1, ni_sLd 0 1 2),
  (2, ni_sV 9 1 9 5),
  (5, ni_sLd 0 3 6),
  (6, ni_sP (ni_gPush (.int 0) 7)),
  (7, ni_sP (ni_gPush (.int 2) 8)),
  (8, ni_sC 11 3 11),
  (11, ni_sLd 0 4 13),
  (13, ni_sP (ni_gPush (.int 50) 15)),
  (15, ni_sP (ni_gPush (.int 5000) 18)),
  (18, ni_sC 11 3 21),
  (21, ni_sLd 3 0 22),
  (22, ni_sLd 0 1 23),
  (23, ni_sLd 0 2 24),
  (24, ni_sV 33 2 9 27),
  (27, ni_sSt 3 6 29),
  (29, ni_sLd 3 6 31),
  (31, ni_sLd 0 3 32),
  (32, ni_sLd 0 4 34),
  (34, ni_sLd 0 5 36),
  (36, ni_sV 108 3 5 39),
  (39, ni_sLd 3 6 41),
  (41, ni_sGet 5 10 44),
  (44, ni_sR (some .int))]
theorem ni_pk40 : ∀ r ∈ ni_pr40, ni_Ok xs yX11_setPort cX11_setPort 7 (some .int) [] r.1 r.2 ∧ ni_MU r.2 := ni_row (ni_aloadn ni_dX11_setPort_0 rfl) ni_muLd <|
  ni_row (ni_iloadn ni_dX11_setPort_1 rfl) ni_muLd <|
  ni_row (ni_virt (y := 9) (T := TX11) ni_dX11_setPort_2 (by decide) rfl rfl ni_w435 ni_w437 ni_w0 ni_w28 ni_w438 ⟨by decide +kernel, by decide +kernel, by decide +kernel⟩ (by decide) rfl) (ni_muV (by decide)) <|
  ni_row (ni_iloadn ni_dX11_setPort_5 rfl) ni_muLd <|
  ni_row (ni_okP (ni_iconst ni_dX11_setPort_6 (by decide +kernel))) (ni_muP (ni_eqPush fun _ => rfl)) <|
  ni_row (ni_okP (ni_iconst ni_dX11_setPort_7 (by decide +kernel))) (ni_muP (ni_eqPush fun _ => rfl)) <|
  ni_row (ni_stat (y := 11) ni_dX11_setPort_8 ni_w510 ni_w511 ni_w28 ni_w512 ⟨by decide +kernel, by decide +kernel, by decide +kernel⟩ (by decide) rfl) ni_muC <|
  ni_row (ni_iload ni_dX11_setPort_11) ni_muLd <|
  ni_row (ni_okP (ni_bipush ni_dX11_setPort_13 (by decide +kernel))) (ni_muP (ni_eqPush fun _ => rfl)) <|
  ni_row (ni_okP (ni_sipush ni_dX11_setPort_15 (by decide +kernel))) (ni_muP (ni_eqPush fun _ => rfl)) <|
  ni_row (ni_stat (y := 11) ni_dX11_setPort_18 ni_w510 ni_w511 ni_w28 ni_w512 ⟨by decide +kernel, by decide +kernel, by decide +kernel⟩ (by decide) rfl) ni_muC <|
  ni_row (ni_aloadn ni_dX11_setPort_21 rfl) ni_muLd <|
  ni_row (ni_iloadn ni_dX11_setPort_22 rfl) ni_muLd <|
  ni_row (ni_iloadn ni_dX11_setPort_23 rfl) ni_muLd <|
  ni_row (ni_virt (y := 33) (T := TX11) ni_dX11_setPort_24 (by decide) rfl rfl ni_w672 ni_w674 ni_w8 ni_w28 ni_w675 ⟨by decide +kernel, by decide +kernel, by decide +kernel⟩ (by decide) rfl) (ni_muV (by decide)) <|
  ni_row (ni_astore ni_dX11_setPort_27 (by decide)) ni_muSt <|
  ni_row (ni_aload ni_dX11_setPort_29) ni_muLd <|
  ni_row (ni_iloadn ni_dX11_setPort_31 rfl) ni_muLd <|
  ni_row (ni_iload ni_dX11_setPort_32) ni_muLd <|
  ni_row (ni_iload ni_dX11_setPort_34) ni_muLd <|
  ni_row (ni_virt (y := 108) (T := TX6) ni_dX11_setPort_36 (by decide) rfl rfl ni_w676 ni_w677 ni_w678 ni_w33 ni_w679 ⟨by decide +kernel, by decide +kernel, by decide +kernel⟩ (by decide) rfl) (ni_muV (by decide)) <|
  ni_row (ni_aload ni_dX11_setPort_39) ni_muLd <|
  ni_row (ni_get (T := TX6) ni_dX11_setPort_41 (by decide) rfl (by decide) ni_uX6 ni_w232) ni_muGet <|
  ni_row (ni_ret ni_dX11_setPort_44) ni_muR <|
  ni_row0
def ni_pr41 : List (Nat × ni_S) := [(0, ni_sLd 3 0 1),
  (1, ni_sLd 0 1 2),
  (2, ni_sV 9 1 9 5),
  (5, ni_sLd 3 0 6),
  (6, ni_sGet 9 0 9),
  (9, ni_sGet 4 5 12),
  (12, ni_sLd 0 1 13),
  (13, ni_sQld 14),
  (14, ni_sGet 3 5 17),
  (17, ni_sSt 0 3 18),
  (18, ni_sLd 0 2 19),
  (19, ni_sP (ni_gIf (fun x => decide (x = 0)) 34 22)),
  (22, ni_sLd 0 3 23),
  (23, ni_sP (ni_gIf (fun x => decide (¬ x = 0)) 34 26)),
  (26, ni_sLd 3 0 27),
  (27, ni_sGet 9 0 30),
  (30, ni_sLd 0 1 31),
  (31, ni_sV 89 1 4 34),
  (34, ni_sLd 0 2 35),
  (35, ni_sP (ni_gIf (fun x => decide (¬ x = 0)) 50 38)),
  (38, ni_sLd 0 3 39),
  (39, ni_sP (ni_gIf (fun x => decide (x = 0)) 50 42)),
  (42, ni_sLd 3 0 43),
  (43, ni_sGet 9 0 46),
  (46, ni_sLd 0 1 47),
  (47, ni_sV 78 1 4 50),
  (50, ni_sLd 0 3 51),
  (51, ni_sR (some .boolean))]
theorem ni_pk41 : ∀ r ∈ ni_pr41, ni_Ok xs yX11_setUp cX11_setUp 4 (some .boolean) [] r.1 r.2 ∧ ni_MU r.2 := ni_row (ni_aloadn ni_dX11_setUp_0 rfl) ni_muLd <|
  ni_row (ni_iloadn ni_dX11_setUp_1 rfl) ni_muLd <|
  ni_row (ni_virt (y := 9) (T := TX11) ni_dX11_setUp_2 (by decide) rfl rfl ni_w435 ni_w437 ni_w0 ni_w28 ni_w438 ⟨by decide +kernel, by decide +kernel, by decide +kernel⟩ (by decide) rfl) (ni_muV (by decide)) <|
  ni_row (ni_aloadn ni_dX11_setUp_5 rfl) ni_muLd <|
  ni_row (ni_get (T := TX11) ni_dX11_setUp_6 (by decide) rfl (by decide) ni_uX11 ni_w424) ni_muGet <|
  ni_row (ni_get (T := TX4) ni_dX11_setUp_9 (by decide) rfl (by decide) ni_uX4 ni_w398) ni_muGet <|
  ni_row (ni_iloadn ni_dX11_setUp_12 rfl) ni_muLd <|
  ni_row (ni_aald ni_dX11_setUp_13) ni_muQld <|
  ni_row (ni_get (T := TX3) ni_dX11_setUp_14 (by decide) rfl (by decide) ni_uX3 ni_w278) ni_muGet <|
  ni_row (ni_istoren ni_dX11_setUp_17 rfl (by decide)) ni_muSt <|
  ni_row (ni_iloadn ni_dX11_setUp_18 rfl) ni_muLd <|
  ni_row (ni_okP (ni_if_eq ni_dX11_setUp_19 (by decide))) (ni_muP ni_eqIf) <|
  ni_row (ni_iloadn ni_dX11_setUp_22 rfl) ni_muLd <|
  ni_row (ni_okP (ni_if_ne ni_dX11_setUp_23 (by decide))) (ni_muP ni_eqIf) <|
  ni_row (ni_aloadn ni_dX11_setUp_26 rfl) ni_muLd <|
  ni_row (ni_get (T := TX11) ni_dX11_setUp_27 (by decide) rfl (by decide) ni_uX11 ni_w424) ni_muGet <|
  ni_row (ni_iloadn ni_dX11_setUp_30 rfl) ni_muLd <|
  ni_row (ni_virt (y := 89) (T := TX4) ni_dX11_setUp_31 (by decide) rfl rfl ni_w573 ni_w574 ni_w575 ni_w29 ni_w576 ⟨by decide +kernel, by decide +kernel, by decide +kernel⟩ (by decide) rfl) (ni_muV (by decide)) <|
  ni_row (ni_iloadn ni_dX11_setUp_34 rfl) ni_muLd <|
  ni_row (ni_okP (ni_if_ne ni_dX11_setUp_35 (by decide))) (ni_muP ni_eqIf) <|
  ni_row (ni_iloadn ni_dX11_setUp_38 rfl) ni_muLd <|
  ni_row (ni_okP (ni_if_eq ni_dX11_setUp_39 (by decide))) (ni_muP ni_eqIf) <|
  ni_row (ni_aloadn ni_dX11_setUp_42 rfl) ni_muLd <|
  ni_row (ni_get (T := TX11) ni_dX11_setUp_43 (by decide) rfl (by decide) ni_uX11 ni_w424) ni_muGet <|
  ni_row (ni_iloadn ni_dX11_setUp_46 rfl) ni_muLd <|
  ni_row (ni_virt (y := 78) (T := TX4) ni_dX11_setUp_47 (by decide) rfl rfl ni_w581 ni_w582 ni_w583 ni_w29 ni_w584 ⟨by decide +kernel, by decide +kernel, by decide +kernel⟩ (by decide) rfl) (ni_muV (by decide)) <|
  ni_row (ni_iloadn ni_dX11_setUp_50 rfl) ni_muLd <|
  ni_row (ni_ret ni_dX11_setUp_51) ni_muR <|
  ni_row0
def ni_pr42 : List (Nat × ni_S) := [(0, ni_sLd 3 0 1),
  (1, ni_sLd 0 1 2),
  (2, ni_sV 9 1 9 5),
  (5, ni_sLd 0 3 6),
  (6, ni_sP (ni_gPush (.int 4) 7)),
  (7, ni_sC 8 2 10),
  (10, ni_sLd 0 4 12),
  (12, ni_sP (ni_gPush (.int 1) 13)),
  (13, ni_sP (ni_gPush (.int 4) 14)),
  (14, ni_sC 11 3 17),
  (17, ni_sLd 3 0 18),
  (18, ni_sLd 0 1 19),
  (19, ni_sLd 0 2 20),
  (20, ni_sV 33 2 9 23),
  (23, ni_sSt 3 5 25),
  (25, ni_sLd 3 5 27),
  (27, ni_sGet 5 5 30),
  (30, ni_sLd 0 3 31),
  (31, ni_sAld .int 0 32),
  (32, ni_sSt 0 6 34),
  (34, ni_sLd 3 5 36),
  (36, ni_sGet 5 5 39),
  (39, ni_sLd 0 3 40),
  (40, ni_sLd 0 4 42),
  (42, ni_sAst .int 0 43),
  (43, ni_sLd 0 6 45),
  (45, ni_sR (some .int))]
theorem ni_pk42 : ∀ r ∈ ni_pr42, ni_Ok xs yX11_setWeight cX11_setWeight 7 (some .int) [] r.1 r.2 ∧ ni_MU r.2 := ni_row (ni_aloadn ni_dX11_setWeight_0 rfl) ni_muLd <|
  ni_row (ni_iloadn ni_dX11_setWeight_1 rfl) ni_muLd <|
  ni_row (ni_virt (y := 9) (T := TX11) ni_dX11_setWeight_2 (by decide) rfl rfl ni_w435 ni_w437 ni_w0 ni_w28 ni_w438 ⟨by decide +kernel, by decide +kernel, by decide +kernel⟩ (by decide) rfl) (ni_muV (by decide)) <|
  ni_row (ni_iloadn ni_dX11_setWeight_5 rfl) ni_muLd <|
  ni_row (ni_okP (ni_iconst ni_dX11_setWeight_6 (by decide +kernel))) (ni_muP (ni_eqPush fun _ => rfl)) <|
  ni_row (ni_stat (y := 8) ni_dX11_setWeight_7 ni_w439 ni_w440 ni_w28 ni_w441 ⟨by decide +kernel, by decide +kernel, by decide +kernel⟩ (by decide) rfl) ni_muC <|
  ni_row (ni_iload ni_dX11_setWeight_10) ni_muLd <|
  ni_row (ni_okP (ni_iconst ni_dX11_setWeight_12 (by decide +kernel))) (ni_muP (ni_eqPush fun _ => rfl)) <|
  ni_row (ni_okP (ni_iconst ni_dX11_setWeight_13 (by decide +kernel))) (ni_muP (ni_eqPush fun _ => rfl)) <|
  ni_row (ni_stat (y := 11) ni_dX11_setWeight_14 ni_w510 ni_w511 ni_w28 ni_w512 ⟨by decide +kernel, by decide +kernel, by decide +kernel⟩ (by decide) rfl) ni_muC <|
  ni_row (ni_aloadn ni_dX11_setWeight_17 rfl) ni_muLd <|
  ni_row (ni_iloadn ni_dX11_setWeight_18 rfl) ni_muLd <|
  ni_row (ni_iloadn ni_dX11_setWeight_19 rfl) ni_muLd <|
  ni_row (ni_virt (y := 33) (T := TX11) ni_dX11_setWeight_20 (by decide) rfl rfl ni_w672 ni_w674 ni_w8 ni_w28 ni_w675 ⟨by decide +kernel, by decide +kernel, by decide +kernel⟩ (by decide) rfl) (ni_muV (by decide)) <|
  ni_row (ni_astore ni_dX11_setWeight_23 (by decide)) ni_muSt <|
  ni_row (ni_aload ni_dX11_setWeight_25) ni_muLd <|
  ni_row (ni_get (T := TX6) ni_dX11_setWeight_27 (by decide) rfl (by decide) ni_uX6 ni_w225) ni_muGet <|
  ni_row (ni_iloadn ni_dX11_setWeight_30 rfl) ni_muLd <|
  ni_row (ni_iald ni_dX11_setWeight_31) ni_muAld <|
  ni_row (ni_istore ni_dX11_setWeight_32 (by decide)) ni_muSt <|
  ni_row (ni_aload ni_dX11_setWeight_34) ni_muLd <|
  ni_row (ni_get (T := TX6) ni_dX11_setWeight_36 (by decide) rfl (by decide) ni_uX6 ni_w225) ni_muGet <|
  ni_row (ni_iloadn ni_dX11_setWeight_39 rfl) ni_muLd <|
  ni_row (ni_iload ni_dX11_setWeight_40) ni_muLd <|
  ni_row (ni_iast ni_dX11_setWeight_42) ni_muAst <|
  ni_row (ni_iload ni_dX11_setWeight_43) ni_muLd <|
  ni_row (ni_ret ni_dX11_setWeight_45) ni_muR <|
  ni_row0
def ni_pr43 : List (Nat × ni_S) := [(0, ni_sLd 0 1 1),
  (1, ni_sP (ni_gPush (.int 1) 2)),
  (2, ni_sP (ni_gPush (.int 60) 4)),
  (4, ni_sC 11 3 7),
  (7, ni_sLd 3 0 8),
  (8, ni_sGet 9 0 11),
  (11, ni_sV 81 0 4 14),
  (14, ni_sP (ni_gIf (fun x => decide (¬ x = 0)) 19 17)),
  (17, ni_sP (ni_gPush (.int 0) 18)),
  (18, ni_sR (some .int)),
  (19, ni_sLd 3 0 20),
  (20, ni_sGet 9 1 23),
  (23, ni_sLd 3 0 24),
  (24, ni_sGet 9 0 27),
  (27, ni_sV 77 1 4 30),
  (30, ni_sP (ni_gPush (.int 1) 31)),
  (31, ni_sSt 0 2 32),
  (32, ni_sLd 0 2 33),
  (33, ni_sLd 0 1 34),
  (34, ni_sP (ni_gIc (fun x y => decide (y < x)) 62 37)),
  (37, ni_sLd 3 0 38),
  (38, ni_sGet 9 1 41),
  (41, ni_sV 96 0 4 44),
  (44, ni_sLd 3 0 45),
  (45, ni_sGet 9 1 48),
  (48, ni_sV 81 0 4 51),
  (51, ni_sP (ni_gIf (fun x => decide (¬ x = 0)) 56 54)),
  (54, ni_sLd 0 2 55),
  (55, ni_sR (some .int)),
  (56, ni_sInc 2 (1) 59),
  (59, ni_sP (ni_gGo 32)),
  (62, ni_sP (ni_gPush (.int (-1)) 63)),
  (63, ni_sR (some .int))]
theorem ni_pk43 : ∀ r ∈ ni_pr43, ni_Ok xs yX11_settledIn cX11_settledIn 3 (some .int) [] r.1 r.2 ∧ ni_MU r.2 := ni_row (ni_iloadn ni_dX11_settledIn_0 rfl) ni_muLd <|
  ni_row (ni_okP (ni_iconst ni_dX11_settledIn_1 (by decide +kernel))) (ni_muP (ni_eqPush fun _ => rfl)) <|
  ni_row (ni_okP (ni_bipush ni_dX11_settledIn_2 (by decide +kernel))) (ni_muP (ni_eqPush fun _ => rfl)) <|
  ni_row (ni_stat (y := 11) ni_dX11_settledIn_4 ni_w510 ni_w511 ni_w28 ni_w512 ⟨by decide +kernel, by decide +kernel, by decide +kernel⟩ (by decide) rfl) ni_muC <|
  ni_row (ni_aloadn ni_dX11_settledIn_7 rfl) ni_muLd <|
  ni_row (ni_get (T := TX11) ni_dX11_settledIn_8 (by decide) rfl (by decide) ni_uX11 ni_w424) ni_muGet <|
  ni_row (ni_virt (y := 81) (T := TX4) ni_dX11_settledIn_11 (by decide) rfl rfl ni_w898 ni_w899 ni_w900 ni_w29 ni_w901 ⟨by decide +kernel, by decide +kernel, by decide +kernel⟩ (by decide) rfl) (ni_muV (by decide)) <|
  ni_row (ni_okP (ni_if_ne ni_dX11_settledIn_14 (by decide))) (ni_muP ni_eqIf) <|
  ni_row (ni_okP (ni_iconst ni_dX11_settledIn_17 (by decide +kernel))) (ni_muP (ni_eqPush fun _ => rfl)) <|
  ni_row (ni_ret ni_dX11_settledIn_18) ni_muR <|
  ni_row (ni_aloadn ni_dX11_settledIn_19 rfl) ni_muLd <|
  ni_row (ni_get (T := TX11) ni_dX11_settledIn_20 (by decide) rfl (by decide) ni_uX11 ni_w425) ni_muGet <|
  ni_row (ni_aloadn ni_dX11_settledIn_23 rfl) ni_muLd <|
  ni_row (ni_get (T := TX11) ni_dX11_settledIn_24 (by decide) rfl (by decide) ni_uX11 ni_w424) ni_muGet <|
  ni_row (ni_virt (y := 77) (T := TX4) ni_dX11_settledIn_27 (by decide) rfl rfl ni_w910 ni_w911 ni_w912 ni_w29 ni_w913 ⟨by decide +kernel, by decide +kernel, by decide +kernel⟩ (by decide) rfl) (ni_muV (by decide)) <|
  ni_row (ni_okP (ni_iconst ni_dX11_settledIn_30 (by decide +kernel))) (ni_muP (ni_eqPush fun _ => rfl)) <|
  ni_row (ni_istoren ni_dX11_settledIn_31 rfl (by decide)) ni_muSt <|
  ni_row (ni_iloadn ni_dX11_settledIn_32 rfl) ni_muLd <|
  ni_row (ni_iloadn ni_dX11_settledIn_33 rfl) ni_muLd <|
  ni_row (ni_okP (ni_ic_gt ni_dX11_settledIn_34 (by decide))) (ni_muP ni_eqIc) <|
  ni_row (ni_aloadn ni_dX11_settledIn_37 rfl) ni_muLd <|
  ni_row (ni_get (T := TX11) ni_dX11_settledIn_38 (by decide) rfl (by decide) ni_uX11 ni_w425) ni_muGet <|
  ni_row (ni_virt (y := 96) (T := TX4) ni_dX11_settledIn_41 (by decide) rfl rfl ni_w710 ni_w711 ni_w712 ni_w29 ni_w713 ⟨by decide +kernel, by decide +kernel, by decide +kernel⟩ (by decide) rfl) (ni_muV (by decide)) <|
  ni_row (ni_aloadn ni_dX11_settledIn_44 rfl) ni_muLd <|
  ni_row (ni_get (T := TX11) ni_dX11_settledIn_45 (by decide) rfl (by decide) ni_uX11 ni_w425) ni_muGet <|
  ni_row (ni_virt (y := 81) (T := TX4) ni_dX11_settledIn_48 (by decide) rfl rfl ni_w898 ni_w899 ni_w900 ni_w29 ni_w901 ⟨by decide +kernel, by decide +kernel, by decide +kernel⟩ (by decide) rfl) (ni_muV (by decide)) <|
  ni_row (ni_okP (ni_if_ne ni_dX11_settledIn_51 (by decide))) (ni_muP ni_eqIf) <|
  ni_row (ni_iloadn ni_dX11_settledIn_54 rfl) ni_muLd <|
  ni_row (ni_ret ni_dX11_settledIn_55) ni_muR <|
  ni_row (ni_iinc (n := 1) ni_dX11_settledIn_56 (by decide)) ni_muInc <|
  ni_row (ni_okP (ni_goto ni_dX11_settledIn_59 (by decide))) (ni_muP ni_eqGo) <|
  ni_row (ni_okP (ni_iconst ni_dX11_settledIn_62 (by decide +kernel))) (ni_muP (ni_eqPush fun _ => rfl)) <|
  ni_row (ni_ret ni_dX11_settledIn_63) ni_muR <|
  ni_row0
def ni_pr44 : List (Nat × ni_S) := [(0, ni_sLd 3 0 1),
  (1, ni_sLd 0 1 2),
  (2, ni_sV 7 1 9 5),
  (5, ni_sLd 3 0 6),
  (6, ni_sGet 9 0 9),
  (9, ni_sGet 4 6 12),
  (12, ni_sLd 0 1 13),
  (13, ni_sQld 14),
  (14, ni_sSt 3 4 16),
  (16, ni_sLd 0 2 17),
  (17, ni_sP (ni_gPush (.int 1) 18)),
  (18, ni_sP (ni_gPush (.int 500) 21)),
  (21, ni_sC 11 3 24),
  (24, ni_sLd 0 3 25),
  (25, ni_sLd 3 4 27),
  (27, ni_sGet 0 2 30),
  (30, ni_sP (ni_gPush (.int 5000) 33)),
  (33, ni_sC 11 3 36),
  (36, ni_sLd 3 4 38),
  (38, ni_sLd 0 2 39),
  (39, ni_sPut 0 7 (.int) 42),
  (42, ni_sLd 3 4 44),
  (44, ni_sLd 0 3 45),
  (45, ni_sPut 0 8 (.int) 48),
  (48, ni_sLd 3 4 50),
  (50, ni_sLd 0 3 51),
  (51, ni_sPut 0 9 (.int) 54),
  (54, ni_sLd 3 4 56),
  (56, ni_sGet 0 11 59),
  (59, ni_sR (some .int))]
theorem ni_pk44 : ∀ r ∈ ni_pr44, ni_Ok xs yX11_shape cX11_shape 5 (some .int) [] r.1 r.2 ∧ ni_MU r.2 := ni_row (ni_aloadn ni_dX11_shape_0 rfl) ni_muLd <|
  ni_row (ni_iloadn ni_dX11_shape_1 rfl) ni_muLd <|
  ni_row (ni_virt (y := 7) (T := TX11) ni_dX11_shape_2 (by decide) rfl rfl ni_w697 ni_w699 ni_w9 ni_w28 ni_w700 ⟨by decide +kernel, by decide +kernel, by decide +kernel⟩ (by decide) rfl) (ni_muV (by decide)) <|
  ni_row (ni_aloadn ni_dX11_shape_5 rfl) ni_muLd <|
  ni_row (ni_get (T := TX11) ni_dX11_shape_6 (by decide) rfl (by decide) ni_uX11 ni_w424) ni_muGet <|
  ni_row (ni_get (T := TX4) ni_dX11_shape_9 (by decide) rfl (by decide) ni_uX4 ni_w400) ni_muGet <|
  ni_row (ni_iloadn ni_dX11_shape_12 rfl) ni_muLd <|
  ni_row (ni_aald ni_dX11_shape_13) ni_muQld <|
  ni_row (ni_astore ni_dX11_shape_14 (by decide)) ni_muSt <|
  ni_row (ni_iloadn ni_dX11_shape_16 rfl) ni_muLd <|
  ni_row (ni_okP (ni_iconst ni_dX11_shape_17 (by decide +kernel))) (ni_muP (ni_eqPush fun _ => rfl)) <|
  ni_row (ni_okP (ni_sipush ni_dX11_shape_18 (by decide +kernel))) (ni_muP (ni_eqPush fun _ => rfl)) <|
  ni_row (ni_stat (y := 11) ni_dX11_shape_21 ni_w510 ni_w511 ni_w28 ni_w512 ⟨by decide +kernel, by decide +kernel, by decide +kernel⟩ (by decide) rfl) ni_muC <|
  ni_row (ni_iloadn ni_dX11_shape_24 rfl) ni_muLd <|
  ni_row (ni_aload ni_dX11_shape_25) ni_muLd <|
  ni_row (ni_get (T := TX0) ni_dX11_shape_27 (by decide) rfl (by decide) ni_uX0 ni_w105) ni_muGet <|
  ni_row (ni_okP (ni_sipush ni_dX11_shape_30 (by decide +kernel))) (ni_muP (ni_eqPush fun _ => rfl)) <|
  ni_row (ni_stat (y := 11) ni_dX11_shape_33 ni_w510 ni_w511 ni_w28 ni_w512 ⟨by decide +kernel, by decide +kernel, by decide +kernel⟩ (by decide) rfl) ni_muC <|
  ni_row (ni_aload ni_dX11_shape_36) ni_muLd <|
  ni_row (ni_iloadn ni_dX11_shape_38 rfl) ni_muLd <|
  ni_row (ni_putA (T := TX0) (ty0 := tyX0) (b := false) (Or.inl rfl) rfl ni_dX11_shape_39 (by decide) rfl (by decide) ni_uX0 tyX0_ok nmX0 ni_w115) ni_muPut <|
  ni_row (ni_aload ni_dX11_shape_42) ni_muLd <|
  ni_row (ni_iloadn ni_dX11_shape_44 rfl) ni_muLd <|
  ni_row (ni_putA (T := TX0) (ty0 := tyX0) (b := false) (Or.inl rfl) rfl ni_dX11_shape_45 (by decide) rfl (by decide) ni_uX0 tyX0_ok nmX0 ni_w117) ni_muPut <|
  ni_row (ni_aload ni_dX11_shape_48) ni_muLd <|
  ni_row (ni_iloadn ni_dX11_shape_50 rfl) ni_muLd <|
  ni_row (ni_putA (T := TX0) (ty0 := tyX0) (b := false) (Or.inl rfl) rfl ni_dX11_shape_51 (by decide) rfl (by decide) ni_uX0 tyX0_ok nmX0 ni_w119) ni_muPut <|
  ni_row (ni_aload ni_dX11_shape_54) ni_muLd <|
  ni_row (ni_get (T := TX0) ni_dX11_shape_56 (by decide) rfl (by decide) ni_uX0 ni_w122) ni_muGet <|
  ni_row (ni_ret ni_dX11_shape_59) ni_muR <|
  ni_row0
def ni_pr45 : List (Nat × ni_S) := [(0, ni_sLd 3 0 1),
  (1, ni_sLd 0 1 2),
  (2, ni_sV 7 1 9 5),
  (5, ni_sLd 3 0 6),
  (6, ni_sGet 9 0 9),
  (9, ni_sGet 4 6 12),
  (12, ni_sLd 0 1 13),
  (13, ni_sQld 14),
  (14, ni_sGet 0 11 17),
  (17, ni_sR (some .int))]
theorem ni_pk45 : ∀ r ∈ ni_pr45, ni_Ok xs yX11_shaping cX11_shaping 2 (some .int) [] r.1 r.2 ∧ ni_MU r.2 := ni_row (ni_aloadn ni_dX11_shaping_0 rfl) ni_muLd <|
  ni_row (ni_iloadn ni_dX11_shaping_1 rfl) ni_muLd <|
  ni_row (ni_virt (y := 7) (T := TX11) ni_dX11_shaping_2 (by decide) rfl rfl ni_w697 ni_w699 ni_w9 ni_w28 ni_w700 ⟨by decide +kernel, by decide +kernel, by decide +kernel⟩ (by decide) rfl) (ni_muV (by decide)) <|
  ni_row (ni_aloadn ni_dX11_shaping_5 rfl) ni_muLd <|
  ni_row (ni_get (T := TX11) ni_dX11_shaping_6 (by decide) rfl (by decide) ni_uX11 ni_w424) ni_muGet <|
  ni_row (ni_get (T := TX4) ni_dX11_shaping_9 (by decide) rfl (by decide) ni_uX4 ni_w400) ni_muGet <|
  ni_row (ni_iloadn ni_dX11_shaping_12 rfl) ni_muLd <|
  ni_row (ni_aald ni_dX11_shaping_13) ni_muQld <|
  ni_row (ni_get (T := TX0) ni_dX11_shaping_14 (by decide) rfl (by decide) ni_uX0 ni_w122) ni_muGet <|
  ni_row (ni_ret ni_dX11_shaping_17) ni_muR <|
  ni_row0
def ni_pr46 : List (Nat × ni_S) := [(0, ni_sLd 0 1 1),
  (1, ni_sP (ni_gPush (.int 1) 2)),
  (2, ni_sP (ni_gPush (.int 60) 4)),
  (4, ni_sC 11 3 7),
  (7, ni_sP (ni_gPush (.int 0) 8)),
  (8, ni_sSt 0 2 9),
  (9, ni_sLd 0 2 10),
  (10, ni_sLd 0 1 11),
  (11, ni_sP (ni_gIc (fun x y => decide (y ≤ x)) 27 14)),
  (14, ni_sLd 3 0 15),
  (15, ni_sGet 9 0 18),
  (18, ni_sV 96 0 4 21),
  (21, ni_sInc 2 (1) 24),
  (24, ni_sP (ni_gGo 9)),
  (27, ni_sLd 3 0 28),
  (28, ni_sGet 9 0 31),
  (31, ni_sGet 4 0 34),
  (34, ni_sR (some .int))]
theorem ni_pk46 : ∀ r ∈ ni_pr46, ni_Ok xs yX11_step cX11_step 3 (some .int) [] r.1 r.2 ∧ ni_MU r.2 := ni_row (ni_iloadn ni_dX11_step_0 rfl) ni_muLd <|
  ni_row (ni_okP (ni_iconst ni_dX11_step_1 (by decide +kernel))) (ni_muP (ni_eqPush fun _ => rfl)) <|
  ni_row (ni_okP (ni_bipush ni_dX11_step_2 (by decide +kernel))) (ni_muP (ni_eqPush fun _ => rfl)) <|
  ni_row (ni_stat (y := 11) ni_dX11_step_4 ni_w510 ni_w511 ni_w28 ni_w512 ⟨by decide +kernel, by decide +kernel, by decide +kernel⟩ (by decide) rfl) ni_muC <|
  ni_row (ni_okP (ni_iconst ni_dX11_step_7 (by decide +kernel))) (ni_muP (ni_eqPush fun _ => rfl)) <|
  ni_row (ni_istoren ni_dX11_step_8 rfl (by decide)) ni_muSt <|
  ni_row (ni_iloadn ni_dX11_step_9 rfl) ni_muLd <|
  ni_row (ni_iloadn ni_dX11_step_10 rfl) ni_muLd <|
  ni_row (ni_okP (ni_ic_ge ni_dX11_step_11 (by decide))) (ni_muP ni_eqIc) <|
  ni_row (ni_aloadn ni_dX11_step_14 rfl) ni_muLd <|
  ni_row (ni_get (T := TX11) ni_dX11_step_15 (by decide) rfl (by decide) ni_uX11 ni_w424) ni_muGet <|
  ni_row (ni_virt (y := 96) (T := TX4) ni_dX11_step_18 (by decide) rfl rfl ni_w710 ni_w711 ni_w712 ni_w29 ni_w713 ⟨by decide +kernel, by decide +kernel, by decide +kernel⟩ (by decide) rfl) (ni_muV (by decide)) <|
  ni_row (ni_iinc (n := 1) ni_dX11_step_21 (by decide)) ni_muInc <|
  ni_row (ni_okP (ni_goto ni_dX11_step_24 (by decide))) (ni_muP ni_eqGo) <|
  ni_row (ni_aloadn ni_dX11_step_27 rfl) ni_muLd <|
  ni_row (ni_get (T := TX11) ni_dX11_step_28 (by decide) rfl (by decide) ni_uX11 ni_w424) ni_muGet <|
  ni_row (ni_get (T := TX4) ni_dX11_step_31 (by decide) rfl (by decide) ni_uX4 ni_w387) ni_muGet <|
  ni_row (ni_ret ni_dX11_step_34) ni_muR <|
  ni_row0
def ni_pr47 : List (Nat × ni_S) := [(0, ni_sLd 3 0 1),
  (1, ni_sGet 9 0 4),
  (4, ni_sGet 4 0 7),
  (7, ni_sR (some .int))]
theorem ni_pk47 : ∀ r ∈ ni_pr47, ni_Ok xs yX11_time cX11_time 1 (some .int) [] r.1 r.2 ∧ ni_MU r.2 := ni_row (ni_aloadn ni_dX11_time_0 rfl) ni_muLd <|
  ni_row (ni_get (T := TX11) ni_dX11_time_1 (by decide) rfl (by decide) ni_uX11 ni_w424) ni_muGet <|
  ni_row (ni_get (T := TX4) ni_dX11_time_4 (by decide) rfl (by decide) ni_uX4 ni_w387) ni_muGet <|
  ni_row (ni_ret ni_dX11_time_7) ni_muR <|
  ni_row0
def ni_pr48 : List (Nat × ni_S) := [(0, ni_sLd 3 0 1),
  (1, ni_sLd 0 1 2),
  (2, ni_sV 12 1 9 5),
  (5, ni_sLd 3 0 6),
  (6, ni_sGet 9 0 9),
  (9, ni_sGet 4 4 12),
  (12, ni_sLd 0 1 13),
  (13, ni_sQld 14),
  (14, ni_sGet 7 4 17),
  (17, ni_sV 144 0 8 20),
  (20, ni_sR (some .int))]
theorem ni_pk48 : ∀ r ∈ ni_pr48, ni_Ok xs yX11_trieDepth cX11_trieDepth 2 (some .int) [] r.1 r.2 ∧ ni_MU r.2 := ni_row (ni_aloadn ni_dX11_trieDepth_0 rfl) ni_muLd <|
  ni_row (ni_iloadn ni_dX11_trieDepth_1 rfl) ni_muLd <|
  ni_row (ni_virt (y := 12) (T := TX11) ni_dX11_trieDepth_2 (by decide) rfl rfl ni_w610 ni_w612 ni_w7 ni_w28 ni_w613 ⟨by decide +kernel, by decide +kernel, by decide +kernel⟩ (by decide) rfl) (ni_muV (by decide)) <|
  ni_row (ni_aloadn ni_dX11_trieDepth_5 rfl) ni_muLd <|
  ni_row (ni_get (T := TX11) ni_dX11_trieDepth_6 (by decide) rfl (by decide) ni_uX11 ni_w424) ni_muGet <|
  ni_row (ni_get (T := TX4) ni_dX11_trieDepth_9 (by decide) rfl (by decide) ni_uX4 ni_w396) ni_muGet <|
  ni_row (ni_iloadn ni_dX11_trieDepth_12 rfl) ni_muLd <|
  ni_row (ni_aald ni_dX11_trieDepth_13) ni_muQld <|
  ni_row (ni_get (T := TX9) ni_dX11_trieDepth_14 (by decide) rfl (by decide) ni_uX9 ni_w371) ni_muGet <|
  ni_row (ni_virt (y := 144) (T := TX10) ni_dX11_trieDepth_17 (by decide) rfl rfl ni_w989 ni_w990 ni_w991 ni_w37 ni_w992 ⟨by decide +kernel, by decide +kernel, by decide +kernel⟩ (by decide) rfl) (ni_muV (by decide)) <|
  ni_row (ni_ret ni_dX11_trieDepth_20) ni_muR <|
  ni_row0
def ni_pr49 : List (Nat × ni_S) := [(0, ni_sLd 3 0 1),
  (1, ni_sLd 0 1 2),
  (2, ni_sV 12 1 9 5),
  (5, ni_sLd 3 0 6),
  (6, ni_sGet 9 0 9),
  (9, ni_sGet 4 4 12),
  (12, ni_sLd 0 1 13),
  (13, ni_sQld 14),
  (14, ni_sGet 7 4 17),
  (17, ni_sV 145 0 8 20),
  (20, ni_sR (some .int))]
theorem ni_pk49 : ∀ r ∈ ni_pr49, ni_Ok xs yX11_trieNodes cX11_trieNodes 2 (some .int) [] r.1 r.2 ∧ ni_MU r.2 := ni_row (ni_aloadn ni_dX11_trieNodes_0 rfl) ni_muLd <|
  ni_row (ni_iloadn ni_dX11_trieNodes_1 rfl) ni_muLd <|
  ni_row (ni_virt (y := 12) (T := TX11) ni_dX11_trieNodes_2 (by decide) rfl rfl ni_w610 ni_w612 ni_w7 ni_w28 ni_w613 ⟨by decide +kernel, by decide +kernel, by decide +kernel⟩ (by decide) rfl) (ni_muV (by decide)) <|
  ni_row (ni_aloadn ni_dX11_trieNodes_5 rfl) ni_muLd <|
  ni_row (ni_get (T := TX11) ni_dX11_trieNodes_6 (by decide) rfl (by decide) ni_uX11 ni_w424) ni_muGet <|
  ni_row (ni_get (T := TX4) ni_dX11_trieNodes_9 (by decide) rfl (by decide) ni_uX4 ni_w396) ni_muGet <|
  ni_row (ni_iloadn ni_dX11_trieNodes_12 rfl) ni_muLd <|
  ni_row (ni_aald ni_dX11_trieNodes_13) ni_muQld <|
  ni_row (ni_get (T := TX9) ni_dX11_trieNodes_14 (by decide) rfl (by decide) ni_uX9 ni_w371) ni_muGet <|
  ni_row (ni_virt (y := 145) (T := TX10) ni_dX11_trieNodes_17 (by decide) rfl rfl ni_w965 ni_w966 ni_w967 ni_w37 ni_w968 ⟨by decide +kernel, by decide +kernel, by decide +kernel⟩ (by decide) rfl) (ni_muV (by decide)) <|
  ni_row (ni_ret ni_dX11_trieNodes_20) ni_muR <|
  ni_row0
def ni_pr50 : List (Nat × ni_S) := [(0, ni_sLd 3 0 1),
  (1, ni_sLd 0 1 2),
  (2, ni_sV 9 1 9 5),
  (5, ni_sLd 3 0 6),
  (6, ni_sLd 0 1 7),
  (7, ni_sLd 0 2 8),
  (8, ni_sV 33 2 9 11),
  (11, ni_sGet 5 11 14),
  (14, ni_sR (some .int))]
theorem ni_pk50 : ∀ r ∈ ni_pr50, ni_Ok xs yX11_waiting cX11_waiting 3 (some .int) [] r.1 r.2 ∧ ni_MU r.2 := ni_row (ni_aloadn ni_dX11_waiting_0 rfl) ni_muLd <|
  ni_row (ni_iloadn ni_dX11_waiting_1 rfl) ni_muLd <|
  ni_row (ni_virt (y := 9) (T := TX11) ni_dX11_waiting_2 (by decide) rfl rfl ni_w435 ni_w437 ni_w0 ni_w28 ni_w438 ⟨by decide +kernel, by decide +kernel, by decide +kernel⟩ (by decide) rfl) (ni_muV (by decide)) <|
  ni_row (ni_aloadn ni_dX11_waiting_5 rfl) ni_muLd <|
  ni_row (ni_iloadn ni_dX11_waiting_6 rfl) ni_muLd <|
  ni_row (ni_iloadn ni_dX11_waiting_7 rfl) ni_muLd <|
  ni_row (ni_virt (y := 33) (T := TX11) ni_dX11_waiting_8 (by decide) rfl rfl ni_w672 ni_w674 ni_w8 ni_w28 ni_w675 ⟨by decide +kernel, by decide +kernel, by decide +kernel⟩ (by decide) rfl) (ni_muV (by decide)) <|
  ni_row (ni_get (T := TX6) ni_dX11_waiting_11 (by decide) rfl (by decide) ni_uX6 ni_w234) ni_muGet <|
  ni_row (ni_ret ni_dX11_waiting_14) ni_muR <|
  ni_row0
def ni_pr51 : List (Nat × ni_S) := [(0, ni_sLd 3 0 1),
  (1, ni_sP (ni_gObj 4)),
  (4, ni_sLd 3 0 5),
  (5, ni_sP (ni_gPush (.int (-1)) 6)),
  (6, ni_sPut 0 4 (.int) 9),
  (9, ni_sLd 3 0 10),
  (10, ni_sP (ni_gPush (.int 10) 12)),
  (12, ni_sNewa 0 .int 14),
  (14, ni_sPut 0 10 (.array (.int)) 17),
  (17, ni_sLd 3 0 18),
  (18, ni_sP (ni_gPush (.int 7) 20)),
  (20, ni_sNewa 0 .int 22),
  (22, ni_sPut 0 14 (.array (.int)) 25),
  (25, ni_sLd 3 0 26),
  (26, ni_sP (ni_gPush (.int (-1)) 27)),
  (27, ni_sPut 0 16 (.int) 30),
  (30, ni_sLd 3 0 31),
  (31, ni_sP (ni_gPush (.int (-1)) 32)),
  (32, ni_sPut 0 17 (.int) 35),
  (35, ni_sR (none))]
theorem ni_pk51 : ∀ r ∈ ni_pr51, ni_Ok xs yX0_init cX0_init 1 (none) [] r.1 r.2 ∧ ni_MU r.2 := ni_row (ni_aloadn ni_dX0_init_0 rfl) ni_muLd <|
  ni_row (ni_okP (ni_objInit ni_dX0_init_1 ni_w98 ni_w55 ni_w56)) (ni_muP ni_eqObj) <|
  ni_row (ni_aloadn ni_dX0_init_4 rfl) ni_muLd <|
  ni_row (ni_okP (ni_iconst ni_dX0_init_5 (by decide +kernel))) (ni_muP (ni_eqPush fun _ => rfl)) <|
  ni_row (ni_putA (T := TX0) (ty0 := tyX0) (b := false) (Or.inl rfl) rfl ni_dX0_init_6 (by decide) rfl (by decide) ni_uX0 tyX0_ok nmX0 ni_w108) ni_muPut <|
  ni_row (ni_aloadn ni_dX0_init_9 rfl) ni_muLd <|
  ni_row (ni_okP (ni_bipush ni_dX0_init_10 (by decide +kernel))) (ni_muP (ni_eqPush fun _ => rfl)) <|
  ni_row (ni_newa ni_dX0_init_12 rfl rfl (by decide) ni_w93) ni_muNewa <|
  ni_row (ni_putA (T := TX0) (ty0 := tyX0) (b := true) (Or.inr ⟨rfl, rfl, rfl⟩) rfl ni_dX0_init_14 (by decide) rfl (by decide) ni_uX0 tyX0_ok nmX0 ni_w120) ni_muPut <|
  ni_row (ni_aloadn ni_dX0_init_17 rfl) ni_muLd <|
  ni_row (ni_okP (ni_bipush ni_dX0_init_18 (by decide +kernel))) (ni_muP (ni_eqPush fun _ => rfl)) <|
  ni_row (ni_newa ni_dX0_init_20 rfl rfl (by decide) ni_w93) ni_muNewa <|
  ni_row (ni_putA (T := TX0) (ty0 := tyX0) (b := true) (Or.inr ⟨rfl, rfl, rfl⟩) rfl ni_dX0_init_22 (by decide) rfl (by decide) ni_uX0 tyX0_ok nmX0 ni_w128) ni_muPut <|
  ni_row (ni_aloadn ni_dX0_init_25 rfl) ni_muLd <|
  ni_row (ni_okP (ni_iconst ni_dX0_init_26 (by decide +kernel))) (ni_muP (ni_eqPush fun _ => rfl)) <|
  ni_row (ni_putA (T := TX0) (ty0 := tyX0) (b := false) (Or.inl rfl) rfl ni_dX0_init_27 (by decide) rfl (by decide) ni_uX0 tyX0_ok nmX0 ni_w134) ni_muPut <|
  ni_row (ni_aloadn ni_dX0_init_30 rfl) ni_muLd <|
  ni_row (ni_okP (ni_iconst ni_dX0_init_31 (by decide +kernel))) (ni_muP (ni_eqPush fun _ => rfl)) <|
  ni_row (ni_putA (T := TX0) (ty0 := tyX0) (b := false) (Or.inl rfl) rfl ni_dX0_init_32 (by decide) rfl (by decide) ni_uX0 tyX0_ok nmX0 ni_w136) ni_muPut <|
  ni_row (ni_ret ni_dX0_init_35) ni_muR <|
  ni_row0
def ni_pr52 : List (Nat × ni_S) := [(0, ni_sLd 3 0 1),
  (1, ni_sLd 3 1 2),
  (2, ni_sGet 0 0 5),
  (5, ni_sPut 0 0 (.int) 8),
  (8, ni_sLd 3 0 9),
  (9, ni_sLd 3 1 10),
  (10, ni_sGet 0 1 13),
  (13, ni_sPut 0 1 (.int) 16),
  (16, ni_sLd 3 0 17),
  (17, ni_sLd 3 1 18),
  (18, ni_sGet 0 2 21),
  (21, ni_sPut 0 2 (.int) 24),
  (24, ni_sLd 3 0 25),
  (25, ni_sLd 3 1 26),
  (26, ni_sGet 0 3 29),
  (29, ni_sPut 0 3 (.int) 32),
  (32, ni_sLd 3 0 33),
  (33, ni_sLd 3 1 34),
  (34, ni_sGet 0 4 37),
  (37, ni_sPut 0 4 (.int) 40),
  (40, ni_sLd 3 0 41),
  (41, ni_sLd 3 1 42),
  (42, ni_sGet 0 5 45),
  (45, ni_sPut 0 5 (.int) 48),
  (48, ni_sLd 3 0 49),
  (49, ni_sLd 3 1 50),
  (50, ni_sGet 0 6 53),
  (53, ni_sPut 0 6 (.int) 56),
  (56, ni_sLd 3 0 57),
  (57, ni_sLd 3 1 58),
  (58, ni_sGet 0 7 61),
  (61, ni_sPut 0 7 (.int) 64),
  (64, ni_sLd 3 0 65),
  (65, ni_sLd 3 1 66),
  (66, ni_sGet 0 8 69),
  (69, ni_sPut 0 8 (.int) 72),
  (72, ni_sLd 3 0 73),
  (73, ni_sLd 3 1 74),
  (74, ni_sGet 0 9 77),
  (77, ni_sPut 0 9 (.int) 80),
  (80, ni_sLd 3 1 81),
  (81, ni_sGet 0 10 84),
  (84, ni_sP (ni_gPush (.int 0) 85)),
  (85, ni_sLd 3 0 86),
  (86, ni_sGet 0 10 89),
  (89, ni_sP (ni_gPush (.int 0) 90)),
  (90, ni_sP (ni_gPush (.int 10) 92)),
  (92, ni_sCopy 95),
  (95, ni_sLd 3 0 96),
  (96, ni_sLd 3 1 97),
  (97, ni_sGet 0 11 100),
  (100, ni_sPut 0 11 (.int) 103),
  (103, ni_sLd 3 0 104),
  (104, ni_sLd 3 1 105),
  (105, ni_sGet 0 12 108),
  (108, ni_sPut 0 12 (.int) 111),
  (111, ni_sLd 3 0 112),
  (112, ni_sLd 3 1 113),
  (113, ni_sGet 0 13 116),
  (116, ni_sPut 0 13 (.int) 119),
  (119, ni_sLd 3 1 120),
  (120, ni_sGet 0 14 123),
  (123, ni_sP (ni_gPush (.int 0) 124)),
  (124, ni_sLd 3 0 125),
  (125, ni_sGet 0 14 128),
  (128, ni_sP (ni_gPush (.int 0) 129)),
  (129, ni_sP (ni_gPush (.int 7) 131)),
  (131, ni_sCopy 134),
  (134, ni_sLd 3 0 135),
  (135, ni_sLd 3 1 136),
  (136, ni_sGet 0 15 139),
  (139, ni_sPut 0 15 (.int) 142),
  (142, ni_sLd 3 0 143),
  (143, ni_sLd 3 1 144),
  (144, ni_sGet 0 16 147),
  (147, ni_sPut 0 16 (.int) 150),
  (150, ni_sLd 3 0 151),
  (151, ni_sLd 3 1 152),
  (152, ni_sGet 0 17 155),
  (155, ni_sPut 0 17 (.int) 158),
  (158, ni_sLd 3 0 159),
  (159, ni_sLd 3 1 160),
  (160, ni_sGet 0 18 163),
  (163, ni_sPut 0 18 (.int) 166),
  (166, ni_sR (none))]
theorem ni_pk52 : ∀ r ∈ ni_pr52, ni_Ok xs yX0_copyFrom cX0_copyFrom 2 (none) [] r.1 r.2 ∧ ni_MU r.2 := ni_row (ni_aloadn ni_dX0_copyFrom_0 rfl) ni_muLd <|
  ni_row (ni_aloadn ni_dX0_copyFrom_1 rfl) ni_muLd <|
  ni_row (ni_get (T := TX0) ni_dX0_copyFrom_2 (by decide) rfl (by decide) ni_uX0 ni_w99) ni_muGet <|
  ni_row (ni_putA (T := TX0) (ty0 := tyX0) (b := false) (Or.inl rfl) rfl ni_dX0_copyFrom_5 (by decide) rfl (by decide) ni_uX0 tyX0_ok nmX0 ni_w99) ni_muPut <|
  ni_row (ni_aloadn ni_dX0_copyFrom_8 rfl) ni_muLd <|
  ni_row (ni_aloadn ni_dX0_copyFrom_9 rfl) ni_muLd <|
  ni_row (ni_get (T := TX0) ni_dX0_copyFrom_10 (by decide) rfl (by decide) ni_uX0 ni_w101) ni_muGet <|
  ni_row (ni_putA (T := TX0) (ty0 := tyX0) (b := false) (Or.inl rfl) rfl ni_dX0_copyFrom_13 (by decide) rfl (by decide) ni_uX0 tyX0_ok nmX0 ni_w101) ni_muPut <|
  ni_row (ni_aloadn ni_dX0_copyFrom_16 rfl) ni_muLd <|
  ni_row (ni_aloadn ni_dX0_copyFrom_17 rfl) ni_muLd <|
  ni_row (ni_get (T := TX0) ni_dX0_copyFrom_18 (by decide) rfl (by decide) ni_uX0 ni_w103) ni_muGet <|
  ni_row (ni_putA (T := TX0) (ty0 := tyX0) (b := false) (Or.inl rfl) rfl ni_dX0_copyFrom_21 (by decide) rfl (by decide) ni_uX0 tyX0_ok nmX0 ni_w103) ni_muPut <|
  ni_row (ni_aloadn ni_dX0_copyFrom_24 rfl) ni_muLd <|
  ni_row (ni_aloadn ni_dX0_copyFrom_25 rfl) ni_muLd <|
  ni_row (ni_get (T := TX0) ni_dX0_copyFrom_26 (by decide) rfl (by decide) ni_uX0 ni_w106) ni_muGet <|
  ni_row (ni_putA (T := TX0) (ty0 := tyX0) (b := false) (Or.inl rfl) rfl ni_dX0_copyFrom_29 (by decide) rfl (by decide) ni_uX0 tyX0_ok nmX0 ni_w106) ni_muPut <|
  ni_row (ni_aloadn ni_dX0_copyFrom_32 rfl) ni_muLd <|
  ni_row (ni_aloadn ni_dX0_copyFrom_33 rfl) ni_muLd <|
  ni_row (ni_get (T := TX0) ni_dX0_copyFrom_34 (by decide) rfl (by decide) ni_uX0 ni_w108) ni_muGet <|
  ni_row (ni_putA (T := TX0) (ty0 := tyX0) (b := false) (Or.inl rfl) rfl ni_dX0_copyFrom_37 (by decide) rfl (by decide) ni_uX0 tyX0_ok nmX0 ni_w108) ni_muPut <|
  ni_row (ni_aloadn ni_dX0_copyFrom_40 rfl) ni_muLd <|
  ni_row (ni_aloadn ni_dX0_copyFrom_41 rfl) ni_muLd <|
  ni_row (ni_get (T := TX0) ni_dX0_copyFrom_42 (by decide) rfl (by decide) ni_uX0 ni_w110) ni_muGet <|
  ni_row (ni_putA (T := TX0) (ty0 := tyX0) (b := false) (Or.inl rfl) rfl ni_dX0_copyFrom_45 (by decide) rfl (by decide) ni_uX0 tyX0_ok nmX0 ni_w110) ni_muPut <|
  ni_row (ni_aloadn ni_dX0_copyFrom_48 rfl) ni_muLd <|
  ni_row (ni_aloadn ni_dX0_copyFrom_49 rfl) ni_muLd <|
  ni_row (ni_get (T := TX0) ni_dX0_copyFrom_50 (by decide) rfl (by decide) ni_uX0 ni_w112) ni_muGet <|
  ni_row (ni_putA (T := TX0) (ty0 := tyX0) (b := false) (Or.inl rfl) rfl ni_dX0_copyFrom_53 (by decide) rfl (by decide) ni_uX0 tyX0_ok nmX0 ni_w112) ni_muPut <|
  ni_row (ni_aloadn ni_dX0_copyFrom_56 rfl) ni_muLd <|
  ni_row (ni_aloadn ni_dX0_copyFrom_57 rfl) ni_muLd <|
  ni_row (ni_get (T := TX0) ni_dX0_copyFrom_58 (by decide) rfl (by decide) ni_uX0 ni_w114) ni_muGet <|
  ni_row (ni_putA (T := TX0) (ty0 := tyX0) (b := false) (Or.inl rfl) rfl ni_dX0_copyFrom_61 (by decide) rfl (by decide) ni_uX0 tyX0_ok nmX0 ni_w114) ni_muPut <|
  ni_row (ni_aloadn ni_dX0_copyFrom_64 rfl) ni_muLd <|
  ni_row (ni_aloadn ni_dX0_copyFrom_65 rfl) ni_muLd <|
  ni_row (ni_get (T := TX0) ni_dX0_copyFrom_66 (by decide) rfl (by decide) ni_uX0 ni_w116) ni_muGet <|
  ni_row (ni_putA (T := TX0) (ty0 := tyX0) (b := false) (Or.inl rfl) rfl ni_dX0_copyFrom_69 (by decide) rfl (by decide) ni_uX0 tyX0_ok nmX0 ni_w116) ni_muPut <|
  ni_row (ni_aloadn ni_dX0_copyFrom_72 rfl) ni_muLd <|
  ni_row (ni_aloadn ni_dX0_copyFrom_73 rfl) ni_muLd <|
  ni_row (ni_get (T := TX0) ni_dX0_copyFrom_74 (by decide) rfl (by decide) ni_uX0 ni_w118) ni_muGet <|
  ni_row (ni_putA (T := TX0) (ty0 := tyX0) (b := false) (Or.inl rfl) rfl ni_dX0_copyFrom_77 (by decide) rfl (by decide) ni_uX0 tyX0_ok nmX0 ni_w118) ni_muPut <|
  ni_row (ni_aloadn ni_dX0_copyFrom_80 rfl) ni_muLd <|
  ni_row (ni_get (T := TX0) ni_dX0_copyFrom_81 (by decide) rfl (by decide) ni_uX0 ni_w120) ni_muGet <|
  ni_row (ni_okP (ni_iconst ni_dX0_copyFrom_84 (by decide +kernel))) (ni_muP (ni_eqPush fun _ => rfl)) <|
  ni_row (ni_aloadn ni_dX0_copyFrom_85 rfl) ni_muLd <|
  ni_row (ni_get (T := TX0) ni_dX0_copyFrom_86 (by decide) rfl (by decide) ni_uX0 ni_w120) ni_muGet <|
  ni_row (ni_okP (ni_iconst ni_dX0_copyFrom_89 (by decide +kernel))) (ni_muP (ni_eqPush fun _ => rfl)) <|
  ni_row (ni_okP (ni_bipush ni_dX0_copyFrom_90 (by decide +kernel))) (ni_muP (ni_eqPush fun _ => rfl)) <|
  ni_row (ni_copy ni_dX0_copyFrom_92 ni_w944 ni_w920 ni_w919 ni_w48) ni_muCopy <|
  ni_row (ni_aloadn ni_dX0_copyFrom_95 rfl) ni_muLd <|
  ni_row (ni_aloadn ni_dX0_copyFrom_96 rfl) ni_muLd <|
  ni_row (ni_get (T := TX0) ni_dX0_copyFrom_97 (by decide) rfl (by decide) ni_uX0 ni_w121) ni_muGet <|
  ni_row (ni_putA (T := TX0) (ty0 := tyX0) (b := false) (Or.inl rfl) rfl ni_dX0_copyFrom_100 (by decide) rfl (by decide) ni_uX0 tyX0_ok nmX0 ni_w121) ni_muPut <|
  ni_row (ni_aloadn ni_dX0_copyFrom_103 rfl) ni_muLd <|
  ni_row (ni_aloadn ni_dX0_copyFrom_104 rfl) ni_muLd <|
  ni_row (ni_get (T := TX0) ni_dX0_copyFrom_105 (by decide) rfl (by decide) ni_uX0 ni_w123) ni_muGet <|
  ni_row (ni_putA (T := TX0) (ty0 := tyX0) (b := false) (Or.inl rfl) rfl ni_dX0_copyFrom_108 (by decide) rfl (by decide) ni_uX0 tyX0_ok nmX0 ni_w123) ni_muPut <|
  ni_row (ni_aloadn ni_dX0_copyFrom_111 rfl) ni_muLd <|
  ni_row (ni_aloadn ni_dX0_copyFrom_112 rfl) ni_muLd <|
  ni_row (ni_get (T := TX0) ni_dX0_copyFrom_113 (by decide) rfl (by decide) ni_uX0 ni_w126) ni_muGet <|
  ni_row (ni_putA (T := TX0) (ty0 := tyX0) (b := false) (Or.inl rfl) rfl ni_dX0_copyFrom_116 (by decide) rfl (by decide) ni_uX0 tyX0_ok nmX0 ni_w126) ni_muPut <|
  ni_row (ni_aloadn ni_dX0_copyFrom_119 rfl) ni_muLd <|
  ni_row (ni_get (T := TX0) ni_dX0_copyFrom_120 (by decide) rfl (by decide) ni_uX0 ni_w128) ni_muGet <|
  ni_row (ni_okP (ni_iconst ni_dX0_copyFrom_123 (by decide +kernel))) (ni_muP (ni_eqPush fun _ => rfl)) <|
  ni_row (ni_aloadn ni_dX0_copyFrom_124 rfl) ni_muLd <|
  ni_row (ni_get (T := TX0) ni_dX0_copyFrom_125 (by decide) rfl (by decide) ni_uX0 ni_w128) ni_muGet <|
  ni_row (ni_okP (ni_iconst ni_dX0_copyFrom_128 (by decide +kernel))) (ni_muP (ni_eqPush fun _ => rfl)) <|
  ni_row (ni_okP (ni_bipush ni_dX0_copyFrom_129 (by decide +kernel))) (ni_muP (ni_eqPush fun _ => rfl)) <|
  ni_row (ni_copy ni_dX0_copyFrom_131 ni_w944 ni_w920 ni_w919 ni_w48) ni_muCopy <|
  ni_row (ni_aloadn ni_dX0_copyFrom_134 rfl) ni_muLd <|
  ni_row (ni_aloadn ni_dX0_copyFrom_135 rfl) ni_muLd <|
  ni_row (ni_get (T := TX0) ni_dX0_copyFrom_136 (by decide) rfl (by decide) ni_uX0 ni_w132) ni_muGet <|
  ni_row (ni_putA (T := TX0) (ty0 := tyX0) (b := false) (Or.inl rfl) rfl ni_dX0_copyFrom_139 (by decide) rfl (by decide) ni_uX0 tyX0_ok nmX0 ni_w132) ni_muPut <|
  ni_row (ni_aloadn ni_dX0_copyFrom_142 rfl) ni_muLd <|
  ni_row (ni_aloadn ni_dX0_copyFrom_143 rfl) ni_muLd <|
  ni_row (ni_get (T := TX0) ni_dX0_copyFrom_144 (by decide) rfl (by decide) ni_uX0 ni_w134) ni_muGet <|
  ni_row (ni_putA (T := TX0) (ty0 := tyX0) (b := false) (Or.inl rfl) rfl ni_dX0_copyFrom_147 (by decide) rfl (by decide) ni_uX0 tyX0_ok nmX0 ni_w134) ni_muPut <|
  ni_row (ni_aloadn ni_dX0_copyFrom_150 rfl) ni_muLd <|
  ni_row (ni_aloadn ni_dX0_copyFrom_151 rfl) ni_muLd <|
  ni_row (ni_get (T := TX0) ni_dX0_copyFrom_152 (by decide) rfl (by decide) ni_uX0 ni_w136) ni_muGet <|
  ni_row (ni_putA (T := TX0) (ty0 := tyX0) (b := false) (Or.inl rfl) rfl ni_dX0_copyFrom_155 (by decide) rfl (by decide) ni_uX0 tyX0_ok nmX0 ni_w136) ni_muPut <|
  ni_row (ni_aloadn ni_dX0_copyFrom_158 rfl) ni_muLd <|
  ni_row (ni_aloadn ni_dX0_copyFrom_159 rfl) ni_muLd <|
  ni_row (ni_get (T := TX0) ni_dX0_copyFrom_160 (by decide) rfl (by decide) ni_uX0 ni_w137) ni_muGet <|
  ni_row (ni_putA (T := TX0) (ty0 := tyX0) (b := false) (Or.inl rfl) rfl ni_dX0_copyFrom_163 (by decide) rfl (by decide) ni_uX0 tyX0_ok nmX0 ni_w137) ni_muPut <|
  ni_row (ni_ret ni_dX0_copyFrom_166) ni_muR <|
  ni_row0
def ni_pr53 : List (Nat × ni_S) := [(0, ni_sLd 0 2 1),
  (1, ni_sLd 3 0 2),
  (2, ni_sGet 0 4 5),
  (5, ni_sLd 0 1 6),
  (6, ni_sLd 3 0 7),
  (7, ni_sGet 0 5 10),
  (10, ni_sP (ni_gI (fun x y => x * y) 11)),
  (11, ni_sP (ni_gI (fun x y => x + y) 12)),
  (12, ni_sP (ni_gI (fun x y => x - y) 13)),
  (13, ni_sSt 0 3 14),
  (14, ni_sLd 3 0 15),
  (15, ni_sP (ni_gDup 16)),
  (16, ni_sGet 0 13 19),
  (19, ni_sP (ni_gPush (.int 1) 20)),
  (20, ni_sP (ni_gI (fun x y => x + y) 21)),
  (21, ni_sPut 0 13 (.int) 24),
  (24, ni_sLd 3 0 25),
  (25, ni_sP (ni_gDup 26)),
  (26, ni_sGet 0 15 29),
  (29, ni_sLd 0 3 30),
  (30, ni_sP (ni_gI (fun x y => x + y) 31)),
  (31, ni_sPut 0 15 (.int) 34),
  (34, ni_sLd 3 0 35),
  (35, ni_sLd 3 0 36),
  (36, ni_sGet 0 16 39),
  (39, ni_sLd 0 3 40),
  (40, ni_sP (ni_gIM (fun x y => if x < y then y else x) 43)),
  (43, ni_sPut 0 16 (.int) 46),
  (46, ni_sLd 3 0 47),
  (47, ni_sP (ni_gDup 48)),
  (48, ni_sGet 0 18 51),
  (51, ni_sLd 0 1 52),
  (52, ni_sLd 3 0 53),
  (53, ni_sGet 0 17 56),
  (56, ni_sP (ni_gIc (fun x y => decide (y ≤ x)) 63 59)),
  (59, ni_sP (ni_gPush (.int 1) 60)),
  (60, ni_sP (ni_gGo 64)),
  (63, ni_sP (ni_gPush (.int 0) 64)),
  (64, ni_sP (ni_gI (fun x y => x + y) 65)),
  (65, ni_sPut 0 18 (.int) 68),
  (68, ni_sLd 3 0 69),
  (69, ni_sLd 3 0 70),
  (70, ni_sGet 0 17 73),
  (73, ni_sLd 0 1 74),
  (74, ni_sP (ni_gIM (fun x y => if x < y then y else x) 77)),
  (77, ni_sPut 0 17 (.int) 80),
  (80, ni_sR (none))]
theorem ni_pk53 : ∀ r ∈ ni_pr53, ni_Ok xs yX0_deliver cX0_deliver 4 (none) [] r.1 r.2 ∧ ni_MU r.2 := ni_row (ni_iloadn ni_dX0_deliver_0 rfl) ni_muLd <|
  ni_row (ni_aloadn ni_dX0_deliver_1 rfl) ni_muLd <|
  ni_row (ni_get (T := TX0) ni_dX0_deliver_2 (by decide) rfl (by decide) ni_uX0 ni_w108) ni_muGet <|
  ni_row (ni_iloadn ni_dX0_deliver_5 rfl) ni_muLd <|
  ni_row (ni_aloadn ni_dX0_deliver_6 rfl) ni_muLd <|
  ni_row (ni_get (T := TX0) ni_dX0_deliver_7 (by decide) rfl (by decide) ni_uX0 ni_w110) ni_muGet <|
  ni_row (ni_okP (ni_imul ni_dX0_deliver_10)) (ni_muP ni_eqI) <|
  ni_row (ni_okP (ni_iadd ni_dX0_deliver_11)) (ni_muP ni_eqI) <|
  ni_row (ni_okP (ni_isub ni_dX0_deliver_12)) (ni_muP ni_eqI) <|
  ni_row (ni_istoren ni_dX0_deliver_13 rfl (by decide)) ni_muSt <|
  ni_row (ni_aloadn ni_dX0_deliver_14 rfl) ni_muLd <|
  ni_row (ni_okP (ni_dup ni_dX0_deliver_15)) (ni_muP ni_eqDup) <|
  ni_row (ni_get (T := TX0) ni_dX0_deliver_16 (by decide) rfl (by decide) ni_uX0 ni_w126) ni_muGet <|
  ni_row (ni_okP (ni_iconst ni_dX0_deliver_19 (by decide +kernel))) (ni_muP (ni_eqPush fun _ => rfl)) <|
  ni_row (ni_okP (ni_iadd ni_dX0_deliver_20)) (ni_muP ni_eqI) <|
  ni_row (ni_putA (T := TX0) (ty0 := tyX0) (b := false) (Or.inl rfl) rfl ni_dX0_deliver_21 (by decide) rfl (by decide) ni_uX0 tyX0_ok nmX0 ni_w126) ni_muPut <|
  ni_row (ni_aloadn ni_dX0_deliver_24 rfl) ni_muLd <|
  ni_row (ni_okP (ni_dup ni_dX0_deliver_25)) (ni_muP ni_eqDup) <|
  ni_row (ni_get (T := TX0) ni_dX0_deliver_26 (by decide) rfl (by decide) ni_uX0 ni_w132) ni_muGet <|
  ni_row (ni_iloadn ni_dX0_deliver_29 rfl) ni_muLd <|
  ni_row (ni_okP (ni_iadd ni_dX0_deliver_30)) (ni_muP ni_eqI) <|
  ni_row (ni_putA (T := TX0) (ty0 := tyX0) (b := false) (Or.inl rfl) rfl ni_dX0_deliver_31 (by decide) rfl (by decide) ni_uX0 tyX0_ok nmX0 ni_w132) ni_muPut <|
  ni_row (ni_aloadn ni_dX0_deliver_34 rfl) ni_muLd <|
  ni_row (ni_aloadn ni_dX0_deliver_35 rfl) ni_muLd <|
  ni_row (ni_get (T := TX0) ni_dX0_deliver_36 (by decide) rfl (by decide) ni_uX0 ni_w134) ni_muGet <|
  ni_row (ni_iloadn ni_dX0_deliver_39 rfl) ni_muLd <|
  ni_row (ni_okP (ni_max ni_dX0_deliver_40 ni_w766 ni_w767 ni_w46 ni_w768)) (ni_muP ni_eqIM) <|
  ni_row (ni_putA (T := TX0) (ty0 := tyX0) (b := false) (Or.inl rfl) rfl ni_dX0_deliver_43 (by decide) rfl (by decide) ni_uX0 tyX0_ok nmX0 ni_w134) ni_muPut <|
  ni_row (ni_aloadn ni_dX0_deliver_46 rfl) ni_muLd <|
  ni_row (ni_okP (ni_dup ni_dX0_deliver_47)) (ni_muP ni_eqDup) <|
  ni_row (ni_get (T := TX0) ni_dX0_deliver_48 (by decide) rfl (by decide) ni_uX0 ni_w137) ni_muGet <|
  ni_row (ni_iloadn ni_dX0_deliver_51 rfl) ni_muLd <|
  ni_row (ni_aloadn ni_dX0_deliver_52 rfl) ni_muLd <|
  ni_row (ni_get (T := TX0) ni_dX0_deliver_53 (by decide) rfl (by decide) ni_uX0 ni_w136) ni_muGet <|
  ni_row (ni_okP (ni_ic_ge ni_dX0_deliver_56 (by decide))) (ni_muP ni_eqIc) <|
  ni_row (ni_okP (ni_iconst ni_dX0_deliver_59 (by decide +kernel))) (ni_muP (ni_eqPush fun _ => rfl)) <|
  ni_row (ni_okP (ni_goto ni_dX0_deliver_60 (by decide))) (ni_muP ni_eqGo) <|
  ni_row (ni_okP (ni_iconst ni_dX0_deliver_63 (by decide +kernel))) (ni_muP (ni_eqPush fun _ => rfl)) <|
  ni_row (ni_okP (ni_iadd ni_dX0_deliver_64)) (ni_muP ni_eqI) <|
  ni_row (ni_putA (T := TX0) (ty0 := tyX0) (b := false) (Or.inl rfl) rfl ni_dX0_deliver_65 (by decide) rfl (by decide) ni_uX0 tyX0_ok nmX0 ni_w137) ni_muPut <|
  ni_row (ni_aloadn ni_dX0_deliver_68 rfl) ni_muLd <|
  ni_row (ni_aloadn ni_dX0_deliver_69 rfl) ni_muLd <|
  ni_row (ni_get (T := TX0) ni_dX0_deliver_70 (by decide) rfl (by decide) ni_uX0 ni_w136) ni_muGet <|
  ni_row (ni_iloadn ni_dX0_deliver_73 rfl) ni_muLd <|
  ni_row (ni_okP (ni_max ni_dX0_deliver_74 ni_w766 ni_w767 ni_w46 ni_w768)) (ni_muP ni_eqIM) <|
  ni_row (ni_putA (T := TX0) (ty0 := tyX0) (b := false) (Or.inl rfl) rfl ni_dX0_deliver_77 (by decide) rfl (by decide) ni_uX0 tyX0_ok nmX0 ni_w136) ni_muPut <|
  ni_row (ni_ret ni_dX0_deliver_80) ni_muR <|
  ni_row0
def ni_pr54 : List (Nat × ni_S) := [(0, ni_sLd 3 0 1),
  (1, ni_sGet 0 4 4),
  (4, ni_sP (ni_gPush (.int (-1)) 5)),
  (5, ni_sP (ni_gIc (fun x y => decide (x = y)) 24 8)),
  (8, ni_sLd 0 1 9),
  (9, ni_sLd 3 0 10),
  (10, ni_sGet 0 4 13),
  (13, ni_sP (ni_gIc (fun x y => decide (x < y)) 24 16)),
  (16, ni_sLd 3 0 17),
  (17, ni_sGet 0 5 20),
  (20, ni_sP (ni_gPush (.int 1) 21)),
  (21, ni_sP (ni_gIc (fun x y => decide (y ≤ x)) 26 24)),
  (24, ni_sP (ni_gPush (.int (-1)) 25)),
  (25, ni_sR (some .int)),
  (26, ni_sLd 0 1 27),
  (27, ni_sLd 3 0 28),
  (28, ni_sGet 0 4 31),
  (31, ni_sP (ni_gI (fun x y => x - y) 32)),
  (32, ni_sSt 0 2 33),
  (33, ni_sLd 0 2 34),
  (34, ni_sLd 3 0 35),
  (35, ni_sGet 0 5 38),
  (38, ni_sP (ni_gI0 (fun x y => x - x / y * y) 39)),
  (39, ni_sP (ni_gIf (fun x => decide (¬ x = 0)) 59 42)),
  (42, ni_sLd 0 2 43),
  (43, ni_sLd 3 0 44),
  (44, ni_sGet 0 5 47),
  (47, ni_sP (ni_gI0 (fun x y => x / y) 48)),
  (48, ni_sLd 3 0 49),
  (49, ni_sGet 0 6 52),
  (52, ni_sP (ni_gIc (fun x y => decide (y ≤ x)) 59 55)),
  (55, ni_sP (ni_gPush (.int 1) 56)),
  (56, ni_sP (ni_gGo 60)),
  (59, ni_sP (ni_gPush (.int 0) 60)),
  (60, ni_sSt 0 3 61),
  (61, ni_sLd 0 3 62),
  (62, ni_sP (ni_gIf (fun x => decide (x = 0)) 74 65)),
  (65, ni_sLd 0 2 66),
  (66, ni_sLd 3 0 67),
  (67, ni_sGet 0 5 70),
  (70, ni_sP (ni_gI0 (fun x y => x / y) 71)),
  (71, ni_sP (ni_gGo 75)),
  (74, ni_sP (ni_gPush (.int (-1)) 75)),
  (75, ni_sR (some .int))]
theorem ni_pk54 : ∀ r ∈ ni_pr54, ni_Ok xs yX0_dueIn cX0_dueIn 4 (some .int) [] r.1 r.2 ∧ ni_MU r.2 := ni_row (ni_aloadn ni_dX0_dueIn_0 rfl) ni_muLd <|
  ni_row (ni_get (T := TX0) ni_dX0_dueIn_1 (by decide) rfl (by decide) ni_uX0 ni_w108) ni_muGet <|
  ni_row (ni_okP (ni_iconst ni_dX0_dueIn_4 (by decide +kernel))) (ni_muP (ni_eqPush fun _ => rfl)) <|
  ni_row (ni_okP (ni_ic_eq ni_dX0_dueIn_5 (by decide))) (ni_muP ni_eqIc) <|
  ni_row (ni_iloadn ni_dX0_dueIn_8 rfl) ni_muLd <|
  ni_row (ni_aloadn ni_dX0_dueIn_9 rfl) ni_muLd <|
  ni_row (ni_get (T := TX0) ni_dX0_dueIn_10 (by decide) rfl (by decide) ni_uX0 ni_w108) ni_muGet <|
  ni_row (ni_okP (ni_ic_lt ni_dX0_dueIn_13 (by decide))) (ni_muP ni_eqIc) <|
  ni_row (ni_aloadn ni_dX0_dueIn_16 rfl) ni_muLd <|
  ni_row (ni_get (T := TX0) ni_dX0_dueIn_17 (by decide) rfl (by decide) ni_uX0 ni_w110) ni_muGet <|
  ni_row (ni_okP (ni_iconst ni_dX0_dueIn_20 (by decide +kernel))) (ni_muP (ni_eqPush fun _ => rfl)) <|
  ni_row (ni_okP (ni_ic_ge ni_dX0_dueIn_21 (by decide))) (ni_muP ni_eqIc) <|
  ni_row (ni_okP (ni_iconst ni_dX0_dueIn_24 (by decide +kernel))) (ni_muP (ni_eqPush fun _ => rfl)) <|
  ni_row (ni_ret ni_dX0_dueIn_25) ni_muR <|
  ni_row (ni_iloadn ni_dX0_dueIn_26 rfl) ni_muLd <|
  ni_row (ni_aloadn ni_dX0_dueIn_27 rfl) ni_muLd <|
  ni_row (ni_get (T := TX0) ni_dX0_dueIn_28 (by decide) rfl (by decide) ni_uX0 ni_w108) ni_muGet <|
  ni_row (ni_okP (ni_isub ni_dX0_dueIn_31)) (ni_muP ni_eqI) <|
  ni_row (ni_istoren ni_dX0_dueIn_32 rfl (by decide)) ni_muSt <|
  ni_row (ni_iloadn ni_dX0_dueIn_33 rfl) ni_muLd <|
  ni_row (ni_aloadn ni_dX0_dueIn_34 rfl) ni_muLd <|
  ni_row (ni_get (T := TX0) ni_dX0_dueIn_35 (by decide) rfl (by decide) ni_uX0 ni_w110) ni_muGet <|
  ni_row (ni_okP (ni_irem ni_dX0_dueIn_38)) (ni_muP ni_eqI0) <|
  ni_row (ni_okP (ni_if_ne ni_dX0_dueIn_39 (by decide))) (ni_muP ni_eqIf) <|
  ni_row (ni_iloadn ni_dX0_dueIn_42 rfl) ni_muLd <|
  ni_row (ni_aloadn ni_dX0_dueIn_43 rfl) ni_muLd <|
  ni_row (ni_get (T := TX0) ni_dX0_dueIn_44 (by decide) rfl (by decide) ni_uX0 ni_w110) ni_muGet <|
  ni_row (ni_okP (ni_idiv ni_dX0_dueIn_47)) (ni_muP ni_eqI0) <|
  ni_row (ni_aloadn ni_dX0_dueIn_48 rfl) ni_muLd <|
  ni_row (ni_get (T := TX0) ni_dX0_dueIn_49 (by decide) rfl (by decide) ni_uX0 ni_w112) ni_muGet <|
  ni_row (ni_okP (ni_ic_ge ni_dX0_dueIn_52 (by decide))) (ni_muP ni_eqIc) <|
  ni_row (ni_okP (ni_iconst ni_dX0_dueIn_55 (by decide +kernel))) (ni_muP (ni_eqPush fun _ => rfl)) <|
  ni_row (ni_okP (ni_goto ni_dX0_dueIn_56 (by decide))) (ni_muP ni_eqGo) <|
  ni_row (ni_okP (ni_iconst ni_dX0_dueIn_59 (by decide +kernel))) (ni_muP (ni_eqPush fun _ => rfl)) <|
  ni_row (ni_istoren ni_dX0_dueIn_60 rfl (by decide)) ni_muSt <|
  ni_row (ni_iloadn ni_dX0_dueIn_61 rfl) ni_muLd <|
  ni_row (ni_okP (ni_if_eq ni_dX0_dueIn_62 (by decide))) (ni_muP ni_eqIf) <|
  ni_row (ni_iloadn ni_dX0_dueIn_65 rfl) ni_muLd <|
  ni_row (ni_aloadn ni_dX0_dueIn_66 rfl) ni_muLd <|
  ni_row (ni_get (T := TX0) ni_dX0_dueIn_67 (by decide) rfl (by decide) ni_uX0 ni_w110) ni_muGet <|
  ni_row (ni_okP (ni_idiv ni_dX0_dueIn_70)) (ni_muP ni_eqI0) <|
  ni_row (ni_okP (ni_goto ni_dX0_dueIn_71 (by decide))) (ni_muP ni_eqGo) <|
  ni_row (ni_okP (ni_iconst ni_dX0_dueIn_74 (by decide +kernel))) (ni_muP (ni_eqPush fun _ => rfl)) <|
  ni_row (ni_ret ni_dX0_dueIn_75) ni_muR <|
  ni_row0
end NIP
