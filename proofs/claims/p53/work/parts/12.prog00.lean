section NIP
variable {xs : List Int32}
def ni_pr0 : List (Nat × ni_S) := [(0, ni_sLd 3 0 1),
  (1, ni_sP (ni_gObj 4)),
  (4, ni_sLd 3 0 5),
  (5, ni_sNew 4 [.int 0, .int 0, .int 0, .int 0, .null, .null, .null, .null, .null] 8),
  (8, ni_sP (ni_gDup 9)),
  (9, ni_sI 75 0 12),
  (12, ni_sPut 9 0 (.object "Switchyard$Net") 15),
  (15, ni_sLd 3 0 16),
  (16, ni_sNew 4 [.int 0, .int 0, .int 0, .int 0, .null, .null, .null, .null, .null] 19),
  (19, ni_sP (ni_gDup 20)),
  (20, ni_sI 75 0 23),
  (23, ni_sPut 9 1 (.object "Switchyard$Net") 26),
  (26, ni_sR (none))]
theorem ni_pk0 : ∀ r ∈ ni_pr0, ni_Ok xs yX11_init cX11_init 1 (none) [] r.1 r.2 ∧ ni_MU r.2 := ni_row (ni_aloadn ni_dX11_init_0 rfl) ni_muLd <|
  ni_row (ni_okP (ni_objInit ni_dX11_init_1 ni_w54 ni_w55 ni_w56)) (ni_muP ni_eqObj) <|
  ni_row (ni_aloadn ni_dX11_init_4 rfl) ni_muLd <|
  ni_row (ni_new (T := TX4) (ty0 := tyX4) ni_dX11_init_5 (by decide) rfl ni_uX4 tyX4_ok rfl (by decide +kernel) ni_w57 ni_w58 ni_w29) (ni_muNew fun _ => rfl) <|
  ni_row (ni_okP (ni_dup ni_dX11_init_8)) (ni_muP ni_eqDup) <|
  ni_row (ni_init (y := 75) ni_dX11_init_9 rfl rfl ni_w59 ni_w60 ni_w29 ni_w61 ⟨by decide +kernel, by decide +kernel, by decide +kernel⟩ (by decide) rfl) ni_muI <|
  ni_row (ni_putA (T := TX11) (ty0 := tyX11) (b := true) (Or.inr ⟨rfl, rfl, rfl⟩) rfl ni_dX11_init_12 (by decide) rfl (by decide) ni_uX11 tyX11_ok nmX11 ni_w424) ni_muPut <|
  ni_row (ni_aloadn ni_dX11_init_15 rfl) ni_muLd <|
  ni_row (ni_new (T := TX4) (ty0 := tyX4) ni_dX11_init_16 (by decide) rfl ni_uX4 tyX4_ok rfl (by decide +kernel) ni_w57 ni_w58 ni_w29) (ni_muNew fun _ => rfl) <|
  ni_row (ni_okP (ni_dup ni_dX11_init_19)) (ni_muP ni_eqDup) <|
  ni_row (ni_init (y := 75) ni_dX11_init_20 rfl rfl ni_w59 ni_w60 ni_w29 ni_w61 ⟨by decide +kernel, by decide +kernel, by decide +kernel⟩ (by decide) rfl) ni_muI <|
  ni_row (ni_putA (T := TX11) (ty0 := tyX11) (b := true) (Or.inr ⟨rfl, rfl, rfl⟩) rfl ni_dX11_init_23 (by decide) rfl (by decide) ni_uX11 tyX11_ok nmX11 ni_w425) ni_muPut <|
  ni_row (ni_ret ni_dX11_init_26) ni_muR <|
  ni_row0
def ni_pr1 : List (Nat × ni_S) := [(0, ni_sLd 3 0 1),
  (1, ni_sLd 0 1 2),
  (2, ni_sV 12 1 9 5),
  (5, ni_sLd 0 2 6),
  (6, ni_sC 6 1 9),
  (9, ni_sLd 0 3 10),
  (10, ni_sP (ni_gPush (.int 20) 12)),
  (12, ni_sP (ni_gPush (.int 500) 15)),
  (15, ni_sC 11 3 18),
  (18, ni_sLd 0 4 20),
  (20, ni_sP (ni_gPush (.int 0) 21)),
  (21, ni_sP (ni_gPush (.int 3) 22)),
  (22, ni_sC 11 3 25),
  (25, ni_sLd 3 0 26),
  (26, ni_sGet 9 0 29),
  (29, ni_sGet 4 3 32),
  (32, ni_sP (ni_gPush (.int 12) 34)),
  (34, ni_sP (ni_gIc (fun x y => decide (x < y)) 47 37)),
  (47, ni_sLd 3 0 48),
  (48, ni_sGet 9 0 51),
  (51, ni_sLd 0 1 52),
  (52, ni_sLd 0 2 53),
  (53, ni_sLd 0 3 54),
  (54, ni_sLd 0 4 56),
  (56, ni_sV 84 4 4 59),
  (59, ni_sR (some .int))]
theorem ni_pk1 : ∀ r ∈ ni_pr1, ni_Ok xs yX11_addFlow cX11_addFlow 5 (some .int) [] r.1 r.2 ∧ ni_MU r.2 := ni_row (ni_aloadn ni_dX11_addFlow_0 rfl) ni_muLd <|
  ni_row (ni_iloadn ni_dX11_addFlow_1 rfl) ni_muLd <|
  ni_row (ni_virt (y := 12) (T := TX11) ni_dX11_addFlow_2 (by decide) rfl rfl ni_w610 ni_w612 ni_w7 ni_w28 ni_w613 ⟨by decide +kernel, by decide +kernel, by decide +kernel⟩ (by decide) rfl) (ni_muV (by decide)) <|
  ni_row (ni_iloadn ni_dX11_addFlow_5 rfl) ni_muLd <|
  ni_row (ni_stat (y := 6) ni_dX11_addFlow_6 ni_w617 ni_w618 ni_w28 ni_w619 ⟨by decide +kernel, by decide +kernel, by decide +kernel⟩ (by decide) rfl) ni_muC <|
  ni_row (ni_iloadn ni_dX11_addFlow_9 rfl) ni_muLd <|
  ni_row (ni_okP (ni_bipush ni_dX11_addFlow_10 (by decide +kernel))) (ni_muP (ni_eqPush fun _ => rfl)) <|
  ni_row (ni_okP (ni_sipush ni_dX11_addFlow_12 (by decide +kernel))) (ni_muP (ni_eqPush fun _ => rfl)) <|
  ni_row (ni_stat (y := 11) ni_dX11_addFlow_15 ni_w510 ni_w511 ni_w28 ni_w512 ⟨by decide +kernel, by decide +kernel, by decide +kernel⟩ (by decide) rfl) ni_muC <|
  ni_row (ni_iload ni_dX11_addFlow_18) ni_muLd <|
  ni_row (ni_okP (ni_iconst ni_dX11_addFlow_20 (by decide +kernel))) (ni_muP (ni_eqPush fun _ => rfl)) <|
  ni_row (ni_okP (ni_iconst ni_dX11_addFlow_21 (by decide +kernel))) (ni_muP (ni_eqPush fun _ => rfl)) <|
  ni_row (ni_stat (y := 11) ni_dX11_addFlow_22 ni_w510 ni_w511 ni_w28 ni_w512 ⟨by decide +kernel, by decide +kernel, by decide +kernel⟩ (by decide) rfl) ni_muC <|
  ni_row (ni_aloadn ni_dX11_addFlow_25 rfl) ni_muLd <|
  ni_row (ni_get (T := TX11) ni_dX11_addFlow_26 (by decide) rfl (by decide) ni_uX11 ni_w424) ni_muGet <|
  ni_row (ni_get (T := TX4) ni_dX11_addFlow_29 (by decide) rfl (by decide) ni_uX4 ni_w394) ni_muGet <|
  ni_row (ni_okP (ni_bipush ni_dX11_addFlow_32 (by decide +kernel))) (ni_muP (ni_eqPush fun _ => rfl)) <|
  ni_row (ni_okP (ni_ic_lt ni_dX11_addFlow_34 (by decide))) (ni_muP ni_eqIc) <|
  ni_row (ni_aloadn ni_dX11_addFlow_47 rfl) ni_muLd <|
  ni_row (ni_get (T := TX11) ni_dX11_addFlow_48 (by decide) rfl (by decide) ni_uX11 ni_w424) ni_muGet <|
  ni_row (ni_iloadn ni_dX11_addFlow_51 rfl) ni_muLd <|
  ni_row (ni_iloadn ni_dX11_addFlow_52 rfl) ni_muLd <|
  ni_row (ni_iloadn ni_dX11_addFlow_53 rfl) ni_muLd <|
  ni_row (ni_iload ni_dX11_addFlow_54) ni_muLd <|
  ni_row (ni_virt (y := 84) (T := TX4) ni_dX11_addFlow_56 (by decide) rfl rfl ni_w689 ni_w690 ni_w691 ni_w29 ni_w692 ⟨by decide +kernel, by decide +kernel, by decide +kernel⟩ (by decide) rfl) (ni_muV (by decide)) <|
  ni_row (ni_ret ni_dX11_addFlow_59) ni_muR <|
  ni_row0
def ni_pr2 : List (Nat × ni_S) := [(0, ni_sLd 3 0 1),
  (1, ni_sLd 0 1 2),
  (2, ni_sV 12 1 9 5),
  (5, ni_sLd 3 0 6),
  (6, ni_sLd 0 2 7),
  (7, ni_sV 12 1 9 10),
  (10, ni_sLd 0 1 11),
  (11, ni_sLd 0 2 12),
  (12, ni_sP (ni_gIc (fun x y => decide (¬ x = y)) 25 15)),
  (25, ni_sLd 0 3 26),
  (26, ni_sP (ni_gPush (.int 1) 27)),
  (27, ni_sP (ni_gPush (.int 50) 29)),
  (29, ni_sC 11 3 32),
  (32, ni_sLd 0 4 34),
  (34, ni_sP (ni_gPush (.int 1) 35)),
  (35, ni_sP (ni_gPush (.int 200) 38)),
  (38, ni_sC 11 3 41),
  (41, ni_sLd 0 5 43),
  (43, ni_sP (ni_gPush (.int 1) 44)),
  (44, ni_sP (ni_gPush (.int 20) 46)),
  (46, ni_sC 11 3 49),
  (49, ni_sLd 3 0 50),
  (50, ni_sGet 9 0 53),
  (53, ni_sGet 4 2 56),
  (56, ni_sP (ni_gPush (.int 14) 58)),
  (58, ni_sP (ni_gIc (fun x y => decide (x < y)) 71 61)),
  (71, ni_sLd 3 0 72),
  (72, ni_sGet 9 0 75),
  (75, ni_sLd 0 1 76),
  (76, ni_sLd 0 2 77),
  (77, ni_sLd 0 3 78),
  (78, ni_sLd 0 4 80),
  (80, ni_sLd 0 5 82),
  (82, ni_sV 85 5 4 85),
  (85, ni_sR (some .int))]
theorem ni_pk2 : ∀ r ∈ ni_pr2, ni_Ok xs yX11_addLink cX11_addLink 6 (some .int) [] r.1 r.2 ∧ ni_MU r.2 := ni_row (ni_aloadn ni_dX11_addLink_0 rfl) ni_muLd <|
  ni_row (ni_iloadn ni_dX11_addLink_1 rfl) ni_muLd <|
  ni_row (ni_virt (y := 12) (T := TX11) ni_dX11_addLink_2 (by decide) rfl rfl ni_w610 ni_w612 ni_w7 ni_w28 ni_w613 ⟨by decide +kernel, by decide +kernel, by decide +kernel⟩ (by decide) rfl) (ni_muV (by decide)) <|
  ni_row (ni_aloadn ni_dX11_addLink_5 rfl) ni_muLd <|
  ni_row (ni_iloadn ni_dX11_addLink_6 rfl) ni_muLd <|
  ni_row (ni_virt (y := 12) (T := TX11) ni_dX11_addLink_7 (by decide) rfl rfl ni_w610 ni_w612 ni_w7 ni_w28 ni_w613 ⟨by decide +kernel, by decide +kernel, by decide +kernel⟩ (by decide) rfl) (ni_muV (by decide)) <|
  ni_row (ni_iloadn ni_dX11_addLink_10 rfl) ni_muLd <|
  ni_row (ni_iloadn ni_dX11_addLink_11 rfl) ni_muLd <|
  ni_row (ni_okP (ni_ic_ne ni_dX11_addLink_12 (by decide))) (ni_muP ni_eqIc) <|
  ni_row (ni_iloadn ni_dX11_addLink_25 rfl) ni_muLd <|
  ni_row (ni_okP (ni_iconst ni_dX11_addLink_26 (by decide +kernel))) (ni_muP (ni_eqPush fun _ => rfl)) <|
  ni_row (ni_okP (ni_bipush ni_dX11_addLink_27 (by decide +kernel))) (ni_muP (ni_eqPush fun _ => rfl)) <|
  ni_row (ni_stat (y := 11) ni_dX11_addLink_29 ni_w510 ni_w511 ni_w28 ni_w512 ⟨by decide +kernel, by decide +kernel, by decide +kernel⟩ (by decide) rfl) ni_muC <|
  ni_row (ni_iload ni_dX11_addLink_32) ni_muLd <|
  ni_row (ni_okP (ni_iconst ni_dX11_addLink_34 (by decide +kernel))) (ni_muP (ni_eqPush fun _ => rfl)) <|
  ni_row (ni_okP (ni_sipush ni_dX11_addLink_35 (by decide +kernel))) (ni_muP (ni_eqPush fun _ => rfl)) <|
  ni_row (ni_stat (y := 11) ni_dX11_addLink_38 ni_w510 ni_w511 ni_w28 ni_w512 ⟨by decide +kernel, by decide +kernel, by decide +kernel⟩ (by decide) rfl) ni_muC <|
  ni_row (ni_iload ni_dX11_addLink_41) ni_muLd <|
  ni_row (ni_okP (ni_iconst ni_dX11_addLink_43 (by decide +kernel))) (ni_muP (ni_eqPush fun _ => rfl)) <|
  ni_row (ni_okP (ni_bipush ni_dX11_addLink_44 (by decide +kernel))) (ni_muP (ni_eqPush fun _ => rfl)) <|
  ni_row (ni_stat (y := 11) ni_dX11_addLink_46 ni_w510 ni_w511 ni_w28 ni_w512 ⟨by decide +kernel, by decide +kernel, by decide +kernel⟩ (by decide) rfl) ni_muC <|
  ni_row (ni_aloadn ni_dX11_addLink_49 rfl) ni_muLd <|
  ni_row (ni_get (T := TX11) ni_dX11_addLink_50 (by decide) rfl (by decide) ni_uX11 ni_w424) ni_muGet <|
  ni_row (ni_get (T := TX4) ni_dX11_addLink_53 (by decide) rfl (by decide) ni_uX4 ni_w392) ni_muGet <|
  ni_row (ni_okP (ni_bipush ni_dX11_addLink_56 (by decide +kernel))) (ni_muP (ni_eqPush fun _ => rfl)) <|
  ni_row (ni_okP (ni_ic_lt ni_dX11_addLink_58 (by decide))) (ni_muP ni_eqIc) <|
  ni_row (ni_aloadn ni_dX11_addLink_71 rfl) ni_muLd <|
  ni_row (ni_get (T := TX11) ni_dX11_addLink_72 (by decide) rfl (by decide) ni_uX11 ni_w424) ni_muGet <|
  ni_row (ni_iloadn ni_dX11_addLink_75 rfl) ni_muLd <|
  ni_row (ni_iloadn ni_dX11_addLink_76 rfl) ni_muLd <|
  ni_row (ni_iloadn ni_dX11_addLink_77 rfl) ni_muLd <|
  ni_row (ni_iload ni_dX11_addLink_78) ni_muLd <|
  ni_row (ni_iload ni_dX11_addLink_80) ni_muLd <|
  ni_row (ni_virt (y := 85) (T := TX4) ni_dX11_addLink_82 (by decide) rfl rfl ni_w1049 ni_w1050 ni_w1051 ni_w29 ni_w1052 ⟨by decide +kernel, by decide +kernel, by decide +kernel⟩ (by decide) rfl) (ni_muV (by decide)) <|
  ni_row (ni_ret ni_dX11_addLink_85) ni_muR <|
  ni_row0
def ni_pr3 : List (Nat × ni_S) := [(0, ni_sLd 3 0 1),
  (1, ni_sLd 0 1 2),
  (2, ni_sV 12 1 9 5),
  (5, ni_sLd 0 2 6),
  (6, ni_sLd 0 3 7),
  (7, ni_sC 10 2 10),
  (10, ni_sLd 0 2 11),
  (11, ni_sLd 0 3 12),
  (12, ni_sC 125 2 15),
  (15, ni_sSt 0 4 17),
  (17, ni_sLd 3 0 18),
  (18, ni_sGet 9 0 21),
  (21, ni_sGet 4 7 24),
  (24, ni_sGet 6 3 27),
  (27, ni_sP (ni_gPush (.int 24) 29)),
  (29, ni_sP (ni_gIc (fun x y => decide (x < y)) 42 32)),
  (42, ni_sLd 3 0 43),
  (43, ni_sGet 9 0 46),
  (46, ni_sGet 4 7 49),
  (49, ni_sLd 0 1 50),
  (50, ni_sLd 0 4 52),
  (52, ni_sV 129 2 6 55),
  (55, ni_sP (ni_gIf (fun x => decide (x = 0)) 68 58)),
  (68, ni_sLd 3 0 69),
  (69, ni_sGet 9 0 72),
  (72, ni_sLd 0 1 73),
  (73, ni_sLd 0 4 75),
  (75, ni_sV 86 2 4 78),
  (78, ni_sR (some .int))]
theorem ni_pk3 : ∀ r ∈ ni_pr3, ni_Ok xs yX11_addNetwork cX11_addNetwork 5 (some .int) [] r.1 r.2 ∧ ni_MU r.2 := ni_row (ni_aloadn ni_dX11_addNetwork_0 rfl) ni_muLd <|
  ni_row (ni_iloadn ni_dX11_addNetwork_1 rfl) ni_muLd <|
  ni_row (ni_virt (y := 12) (T := TX11) ni_dX11_addNetwork_2 (by decide) rfl rfl ni_w610 ni_w612 ni_w7 ni_w28 ni_w613 ⟨by decide +kernel, by decide +kernel, by decide +kernel⟩ (by decide) rfl) (ni_muV (by decide)) <|
  ni_row (ni_iloadn ni_dX11_addNetwork_5 rfl) ni_muLd <|
  ni_row (ni_iloadn ni_dX11_addNetwork_6 rfl) ni_muLd <|
  ni_row (ni_stat (y := 10) ni_dX11_addNetwork_7 ni_w614 ni_w615 ni_w28 ni_w616 ⟨by decide +kernel, by decide +kernel, by decide +kernel⟩ (by decide) rfl) ni_muC <|
  ni_row (ni_iloadn ni_dX11_addNetwork_10 rfl) ni_muLd <|
  ni_row (ni_iloadn ni_dX11_addNetwork_11 rfl) ni_muLd <|
  ni_row (ni_stat (y := 125) ni_dX11_addNetwork_12 ni_w625 ni_w626 ni_w44 ni_w627 ⟨by decide +kernel, by decide +kernel, by decide +kernel⟩ (by decide) rfl) ni_muC <|
  ni_row (ni_istore ni_dX11_addNetwork_15 (by decide)) ni_muSt <|
  ni_row (ni_aloadn ni_dX11_addNetwork_17 rfl) ni_muLd <|
  ni_row (ni_get (T := TX11) ni_dX11_addNetwork_18 (by decide) rfl (by decide) ni_uX11 ni_w424) ni_muGet <|
  ni_row (ni_get (T := TX4) ni_dX11_addNetwork_21 (by decide) rfl (by decide) ni_uX4 ni_w402) ni_muGet <|
  ni_row (ni_get (T := TX8) ni_dX11_addNetwork_24 (by decide) rfl (by decide) ni_uX8 ni_w82) ni_muGet <|
  ni_row (ni_okP (ni_bipush ni_dX11_addNetwork_27 (by decide +kernel))) (ni_muP (ni_eqPush fun _ => rfl)) <|
  ni_row (ni_okP (ni_ic_lt ni_dX11_addNetwork_29 (by decide))) (ni_muP ni_eqIc) <|
  ni_row (ni_aloadn ni_dX11_addNetwork_42 rfl) ni_muLd <|
  ni_row (ni_get (T := TX11) ni_dX11_addNetwork_43 (by decide) rfl (by decide) ni_uX11 ni_w424) ni_muGet <|
  ni_row (ni_get (T := TX4) ni_dX11_addNetwork_46 (by decide) rfl (by decide) ni_uX4 ni_w402) ni_muGet <|
  ni_row (ni_iloadn ni_dX11_addNetwork_49 rfl) ni_muLd <|
  ni_row (ni_iload ni_dX11_addNetwork_50) ni_muLd <|
  ni_row (ni_virt (y := 129) (T := TX8) ni_dX11_addNetwork_52 (by decide) rfl rfl ni_w644 ni_w645 ni_w646 ni_w30 ni_w647 ⟨by decide +kernel, by decide +kernel, by decide +kernel⟩ (by decide) rfl) (ni_muV (by decide)) <|
  ni_row (ni_okP (ni_if_eq ni_dX11_addNetwork_55 (by decide))) (ni_muP ni_eqIf) <|
  ni_row (ni_aloadn ni_dX11_addNetwork_68 rfl) ni_muLd <|
  ni_row (ni_get (T := TX11) ni_dX11_addNetwork_69 (by decide) rfl (by decide) ni_uX11 ni_w424) ni_muGet <|
  ni_row (ni_iloadn ni_dX11_addNetwork_72 rfl) ni_muLd <|
  ni_row (ni_iload ni_dX11_addNetwork_73) ni_muLd <|
  ni_row (ni_virt (y := 86) (T := TX4) ni_dX11_addNetwork_75 (by decide) rfl rfl ni_w649 ni_w650 ni_w651 ni_w29 ni_w652 ⟨by decide +kernel, by decide +kernel, by decide +kernel⟩ (by decide) rfl) (ni_muV (by decide)) <|
  ni_row (ni_ret ni_dX11_addNetwork_78) ni_muR <|
  ni_row0
def ni_pr4 : List (Nat × ni_S) := [(0, ni_sLd 3 0 1),
  (1, ni_sGet 9 0 4),
  (4, ni_sGet 4 1 7),
  (7, ni_sP (ni_gPush (.int 8) 9)),
  (9, ni_sP (ni_gIc (fun x y => decide (x < y)) 22 12)),
  (22, ni_sLd 3 0 23),
  (23, ni_sGet 9 0 26),
  (26, ni_sV 87 0 4 29),
  (29, ni_sR (some .int))]
theorem ni_pk4 : ∀ r ∈ ni_pr4, ni_Ok xs yX11_addRouter cX11_addRouter 1 (some .int) [] r.1 r.2 ∧ ni_MU r.2 := ni_row (ni_aloadn ni_dX11_addRouter_0 rfl) ni_muLd <|
  ni_row (ni_get (T := TX11) ni_dX11_addRouter_1 (by decide) rfl (by decide) ni_uX11 ni_w424) ni_muGet <|
  ni_row (ni_get (T := TX4) ni_dX11_addRouter_4 (by decide) rfl (by decide) ni_uX4 ni_w390) ni_muGet <|
  ni_row (ni_okP (ni_bipush ni_dX11_addRouter_7 (by decide +kernel))) (ni_muP (ni_eqPush fun _ => rfl)) <|
  ni_row (ni_okP (ni_ic_lt ni_dX11_addRouter_9 (by decide))) (ni_muP ni_eqIc) <|
  ni_row (ni_aloadn ni_dX11_addRouter_22 rfl) ni_muLd <|
  ni_row (ni_get (T := TX11) ni_dX11_addRouter_23 (by decide) rfl (by decide) ni_uX11 ni_w424) ni_muGet <|
  ni_row (ni_virt (y := 87) (T := TX4) ni_dX11_addRouter_26 (by decide) rfl rfl ni_w1037 ni_w1038 ni_w1039 ni_w29 ni_w1040 ⟨by decide +kernel, by decide +kernel, by decide +kernel⟩ (by decide) rfl) (ni_muV (by decide)) <|
  ni_row (ni_ret ni_dX11_addRouter_29) ni_muR <|
  ni_row0
def ni_pr5 : List (Nat × ni_S) := [(0, ni_sLd 3 0 1),
  (1, ni_sLd 0 1 2),
  (2, ni_sV 12 1 9 5),
  (5, ni_sLd 3 0 6),
  (6, ni_sLd 0 4 8),
  (8, ni_sV 9 1 9 11),
  (11, ni_sLd 0 2 12),
  (12, ni_sLd 0 3 13),
  (13, ni_sC 10 2 16),
  (16, ni_sLd 3 0 17),
  (17, ni_sGet 9 0 20),
  (20, ni_sGet 4 5 23),
  (23, ni_sLd 0 4 25),
  (25, ni_sQld 26),
  (26, ni_sLd 0 1 27),
  (27, ni_sV 74 1 3 30),
  (30, ni_sP (ni_gIf (fun x => decide (¬ x = 0)) 43 33)),
  (43, ni_sLd 3 0 44),
  (44, ni_sGet 9 0 47),
  (47, ni_sGet 4 8 50),
  (50, ni_sGet 6 3 53),
  (53, ni_sP (ni_gPush (.int 24) 55)),
  (55, ni_sP (ni_gIc (fun x y => decide (x < y)) 68 58)),
  (68, ni_sLd 3 0 69),
  (69, ni_sGet 9 0 72),
  (72, ni_sLd 0 1 73),
  (73, ni_sLd 0 2 74),
  (74, ni_sLd 0 3 75),
  (75, ni_sC 125 2 78),
  (78, ni_sLd 0 4 80),
  (80, ni_sV 88 3 4 83),
  (83, ni_sR (some .int))]
theorem ni_pk5 : ∀ r ∈ ni_pr5, ni_Ok xs yX11_addStatic cX11_addStatic 5 (some .int) [] r.1 r.2 ∧ ni_MU r.2 := ni_row (ni_aloadn ni_dX11_addStatic_0 rfl) ni_muLd <|
  ni_row (ni_iloadn ni_dX11_addStatic_1 rfl) ni_muLd <|
  ni_row (ni_virt (y := 12) (T := TX11) ni_dX11_addStatic_2 (by decide) rfl rfl ni_w610 ni_w612 ni_w7 ni_w28 ni_w613 ⟨by decide +kernel, by decide +kernel, by decide +kernel⟩ (by decide) rfl) (ni_muV (by decide)) <|
  ni_row (ni_aloadn ni_dX11_addStatic_5 rfl) ni_muLd <|
  ni_row (ni_iload ni_dX11_addStatic_6) ni_muLd <|
  ni_row (ni_virt (y := 9) (T := TX11) ni_dX11_addStatic_8 (by decide) rfl rfl ni_w435 ni_w437 ni_w0 ni_w28 ni_w438 ⟨by decide +kernel, by decide +kernel, by decide +kernel⟩ (by decide) rfl) (ni_muV (by decide)) <|
  ni_row (ni_iloadn ni_dX11_addStatic_11 rfl) ni_muLd <|
  ni_row (ni_iloadn ni_dX11_addStatic_12 rfl) ni_muLd <|
  ni_row (ni_stat (y := 10) ni_dX11_addStatic_13 ni_w614 ni_w615 ni_w28 ni_w616 ⟨by decide +kernel, by decide +kernel, by decide +kernel⟩ (by decide) rfl) ni_muC <|
  ni_row (ni_aloadn ni_dX11_addStatic_16 rfl) ni_muLd <|
  ni_row (ni_get (T := TX11) ni_dX11_addStatic_17 (by decide) rfl (by decide) ni_uX11 ni_w424) ni_muGet <|
  ni_row (ni_get (T := TX4) ni_dX11_addStatic_20 (by decide) rfl (by decide) ni_uX4 ni_w398) ni_muGet <|
  ni_row (ni_iload ni_dX11_addStatic_23) ni_muLd <|
  ni_row (ni_aald ni_dX11_addStatic_25) ni_muQld <|
  ni_row (ni_iloadn ni_dX11_addStatic_26 rfl) ni_muLd <|
  ni_row (ni_virt (y := 74) (T := TX3) ni_dX11_addStatic_27 (by decide) rfl rfl ni_w661 ni_w538 ni_w539 ni_w32 ni_w540 ⟨by decide +kernel, by decide +kernel, by decide +kernel⟩ (by decide) rfl) (ni_muV (by decide)) <|
  ni_row (ni_okP (ni_if_ne ni_dX11_addStatic_30 (by decide))) (ni_muP ni_eqIf) <|
  ni_row (ni_aloadn ni_dX11_addStatic_43 rfl) ni_muLd <|
  ni_row (ni_get (T := TX11) ni_dX11_addStatic_44 (by decide) rfl (by decide) ni_uX11 ni_w424) ni_muGet <|
  ni_row (ni_get (T := TX4) ni_dX11_addStatic_47 (by decide) rfl (by decide) ni_uX4 ni_w404) ni_muGet <|
  ni_row (ni_get (T := TX8) ni_dX11_addStatic_50 (by decide) rfl (by decide) ni_uX8 ni_w82) ni_muGet <|
  ni_row (ni_okP (ni_bipush ni_dX11_addStatic_53 (by decide +kernel))) (ni_muP (ni_eqPush fun _ => rfl)) <|
  ni_row (ni_okP (ni_ic_lt ni_dX11_addStatic_55 (by decide))) (ni_muP ni_eqIc) <|
  ni_row (ni_aloadn ni_dX11_addStatic_68 rfl) ni_muLd <|
  ni_row (ni_get (T := TX11) ni_dX11_addStatic_69 (by decide) rfl (by decide) ni_uX11 ni_w424) ni_muGet <|
  ni_row (ni_iloadn ni_dX11_addStatic_72 rfl) ni_muLd <|
  ni_row (ni_iloadn ni_dX11_addStatic_73 rfl) ni_muLd <|
  ni_row (ni_iloadn ni_dX11_addStatic_74 rfl) ni_muLd <|
  ni_row (ni_stat (y := 125) ni_dX11_addStatic_75 ni_w625 ni_w626 ni_w44 ni_w627 ⟨by decide +kernel, by decide +kernel, by decide +kernel⟩ (by decide) rfl) ni_muC <|
  ni_row (ni_iload ni_dX11_addStatic_78) ni_muLd <|
  ni_row (ni_virt (y := 88) (T := TX4) ni_dX11_addStatic_80 (by decide) rfl rfl ni_w664 ni_w665 ni_w666 ni_w29 ni_w667 ⟨by decide +kernel, by decide +kernel, by decide +kernel⟩ (by decide) rfl) (ni_muV (by decide)) <|
  ni_row (ni_ret ni_dX11_addStatic_83) ni_muR <|
  ni_row0
def ni_pr6 : List (Nat × ni_S) := [(0, ni_sLd 0 0 1),
  (1, ni_sP (ni_gPush (.int 0) 2)),
  (2, ni_sP (ni_gPush (.int (65535)) 5)),
  (5, ni_sC 11 3 8),
  (8, ni_sR (none))]
theorem ni_pk6 : ∀ r ∈ ni_pr6, ni_Ok xs yX11_checkAddress cX11_checkAddress 1 (none) [] r.1 r.2 ∧ ni_MU r.2 := ni_row (ni_iloadn ni_dX11_checkAddress_0 rfl) ni_muLd <|
  ni_row (ni_okP (ni_iconst ni_dX11_checkAddress_1 (by decide +kernel))) (ni_muP (ni_eqPush fun _ => rfl)) <|
  ni_row (ni_okP (ni_ldcw ni_dX11_checkAddress_2 ni_w620)) (ni_muP (ni_eqPush fun _ => rfl)) <|
  ni_row (ni_stat (y := 11) ni_dX11_checkAddress_5 ni_w510 ni_w511 ni_w28 ni_w512 ⟨by decide +kernel, by decide +kernel, by decide +kernel⟩ (by decide) rfl) ni_muC <|
  ni_row (ni_ret ni_dX11_checkAddress_8) ni_muR <|
  ni_row0
def ni_pr7 : List (Nat × ni_S) := [(0, ni_sLd 0 1 1),
  (1, ni_sLd 3 0 2),
  (2, ni_sGet 9 0 5),
  (5, ni_sGet 4 3 8),
  (8, ni_sC 8 2 11),
  (11, ni_sR (none))]
theorem ni_pk7 : ∀ r ∈ ni_pr7, ni_Ok xs yX11_checkFlow cX11_checkFlow 2 (none) [] r.1 r.2 ∧ ni_MU r.2 := ni_row (ni_iloadn ni_dX11_checkFlow_0 rfl) ni_muLd <|
  ni_row (ni_aloadn ni_dX11_checkFlow_1 rfl) ni_muLd <|
  ni_row (ni_get (T := TX11) ni_dX11_checkFlow_2 (by decide) rfl (by decide) ni_uX11 ni_w424) ni_muGet <|
  ni_row (ni_get (T := TX4) ni_dX11_checkFlow_5 (by decide) rfl (by decide) ni_uX4 ni_w394) ni_muGet <|
  ni_row (ni_stat (y := 8) ni_dX11_checkFlow_8 ni_w439 ni_w440 ni_w28 ni_w441 ⟨by decide +kernel, by decide +kernel, by decide +kernel⟩ (by decide) rfl) ni_muC <|
  ni_row (ni_ret ni_dX11_checkFlow_11) ni_muR <|
  ni_row0
def ni_pr8 : List (Nat × ni_S) := [(0, ni_sLd 0 0 1),
  (1, ni_sP (ni_gIf (fun x => decide (x < 0)) 9 4)),
  (4, ni_sLd 0 0 5),
  (5, ni_sLd 0 1 6),
  (6, ni_sP (ni_gIc (fun x y => decide (x < y)) 20 9)),
  (20, ni_sR (none))]
theorem ni_pk8 : ∀ r ∈ ni_pr8, ni_Ok xs yX11_checkIndex cX11_checkIndex 2 (none) [] r.1 r.2 ∧ ni_MU r.2 := ni_row (ni_iloadn ni_dX11_checkIndex_0 rfl) ni_muLd <|
  ni_row (ni_okP (ni_if_lt ni_dX11_checkIndex_1 (by decide))) (ni_muP ni_eqIf) <|
  ni_row (ni_iloadn ni_dX11_checkIndex_4 rfl) ni_muLd <|
  ni_row (ni_iloadn ni_dX11_checkIndex_5 rfl) ni_muLd <|
  ni_row (ni_okP (ni_ic_lt ni_dX11_checkIndex_6 (by decide))) (ni_muP ni_eqIc) <|
  ni_row (ni_ret ni_dX11_checkIndex_20) ni_muR <|
  ni_row0
def ni_pr9 : List (Nat × ni_S) := [(0, ni_sLd 0 1 1),
  (1, ni_sLd 3 0 2),
  (2, ni_sGet 9 0 5),
  (5, ni_sGet 4 2 8),
  (8, ni_sC 8 2 11),
  (11, ni_sR (none))]
theorem ni_pk9 : ∀ r ∈ ni_pr9, ni_Ok xs yX11_checkLink cX11_checkLink 2 (none) [] r.1 r.2 ∧ ni_MU r.2 := ni_row (ni_iloadn ni_dX11_checkLink_0 rfl) ni_muLd <|
  ni_row (ni_aloadn ni_dX11_checkLink_1 rfl) ni_muLd <|
  ni_row (ni_get (T := TX11) ni_dX11_checkLink_2 (by decide) rfl (by decide) ni_uX11 ni_w424) ni_muGet <|
  ni_row (ni_get (T := TX4) ni_dX11_checkLink_5 (by decide) rfl (by decide) ni_uX4 ni_w392) ni_muGet <|
  ni_row (ni_stat (y := 8) ni_dX11_checkLink_8 ni_w439 ni_w440 ni_w28 ni_w441 ⟨by decide +kernel, by decide +kernel, by decide +kernel⟩ (by decide) rfl) ni_muC <|
  ni_row (ni_ret ni_dX11_checkLink_11) ni_muR <|
  ni_row0
def ni_pr10 : List (Nat × ni_S) := [(0, ni_sLd 0 0 1),
  (1, ni_sC 6 1 4),
  (4, ni_sLd 0 1 5),
  (5, ni_sP (ni_gPush (.int 0) 6)),
  (6, ni_sP (ni_gPush (.int 16) 8)),
  (8, ni_sC 11 3 11),
  (11, ni_sLd 0 0 12),
  (12, ni_sLd 0 1 13),
  (13, ni_sC 123 2 16),
  (16, ni_sP (ni_gIf (fun x => decide (x = 0)) 30 19)),
  (30, ni_sR (none))]
theorem ni_pk10 : ∀ r ∈ ni_pr10, ni_Ok xs yX11_checkPrefix cX11_checkPrefix 2 (none) [] r.1 r.2 ∧ ni_MU r.2 := ni_row (ni_iloadn ni_dX11_checkPrefix_0 rfl) ni_muLd <|
  ni_row (ni_stat (y := 6) ni_dX11_checkPrefix_1 ni_w617 ni_w618 ni_w28 ni_w619 ⟨by decide +kernel, by decide +kernel, by decide +kernel⟩ (by decide) rfl) ni_muC <|
  ni_row (ni_iloadn ni_dX11_checkPrefix_4 rfl) ni_muLd <|
  ni_row (ni_okP (ni_iconst ni_dX11_checkPrefix_5 (by decide +kernel))) (ni_muP (ni_eqPush fun _ => rfl)) <|
  ni_row (ni_okP (ni_bipush ni_dX11_checkPrefix_6 (by decide +kernel))) (ni_muP (ni_eqPush fun _ => rfl)) <|
  ni_row (ni_stat (y := 11) ni_dX11_checkPrefix_8 ni_w510 ni_w511 ni_w28 ni_w512 ⟨by decide +kernel, by decide +kernel, by decide +kernel⟩ (by decide) rfl) ni_muC <|
  ni_row (ni_iloadn ni_dX11_checkPrefix_11 rfl) ni_muLd <|
  ni_row (ni_iloadn ni_dX11_checkPrefix_12 rfl) ni_muLd <|
  ni_row (ni_stat (y := 123) ni_dX11_checkPrefix_13 ni_w621 ni_w622 ni_w44 ni_w623 ⟨by decide +kernel, by decide +kernel, by decide +kernel⟩ (by decide) rfl) ni_muC <|
  ni_row (ni_okP (ni_if_eq ni_dX11_checkPrefix_16 (by decide))) (ni_muP ni_eqIf) <|
  ni_row (ni_ret ni_dX11_checkPrefix_30) ni_muR <|
  ni_row0
def ni_pr11 : List (Nat × ni_S) := [(0, ni_sLd 0 0 1),
  (1, ni_sLd 0 1 2),
  (2, ni_sP (ni_gIc (fun x y => decide (x < y)) 10 5)),
  (5, ni_sLd 0 0 6),
  (6, ni_sLd 0 2 7),
  (7, ni_sP (ni_gIc (fun x y => decide (x ≤ y)) 21 10)),
  (21, ni_sR (none))]
theorem ni_pk11 : ∀ r ∈ ni_pr11, ni_Ok xs yX11_checkRange cX11_checkRange 3 (none) [] r.1 r.2 ∧ ni_MU r.2 := ni_row (ni_iloadn ni_dX11_checkRange_0 rfl) ni_muLd <|
  ni_row (ni_iloadn ni_dX11_checkRange_1 rfl) ni_muLd <|
  ni_row (ni_okP (ni_ic_lt ni_dX11_checkRange_2 (by decide))) (ni_muP ni_eqIc) <|
  ni_row (ni_iloadn ni_dX11_checkRange_5 rfl) ni_muLd <|
  ni_row (ni_iloadn ni_dX11_checkRange_6 rfl) ni_muLd <|
  ni_row (ni_okP (ni_ic_le ni_dX11_checkRange_7 (by decide))) (ni_muP ni_eqIc) <|
  ni_row (ni_ret ni_dX11_checkRange_21) ni_muR <|
  ni_row0
def ni_pr12 : List (Nat × ni_S) := [(0, ni_sLd 0 1 1),
  (1, ni_sLd 3 0 2),
  (2, ni_sGet 9 0 5),
  (5, ni_sGet 4 1 8),
  (8, ni_sC 8 2 11),
  (11, ni_sR (none))]
theorem ni_pk12 : ∀ r ∈ ni_pr12, ni_Ok xs yX11_checkRouter cX11_checkRouter 2 (none) [] r.1 r.2 ∧ ni_MU r.2 := ni_row (ni_iloadn ni_dX11_checkRouter_0 rfl) ni_muLd <|
  ni_row (ni_aloadn ni_dX11_checkRouter_1 rfl) ni_muLd <|
  ni_row (ni_get (T := TX11) ni_dX11_checkRouter_2 (by decide) rfl (by decide) ni_uX11 ni_w424) ni_muGet <|
  ni_row (ni_get (T := TX4) ni_dX11_checkRouter_5 (by decide) rfl (by decide) ni_uX4 ni_w390) ni_muGet <|
  ni_row (ni_stat (y := 8) ni_dX11_checkRouter_8 ni_w439 ni_w440 ni_w28 ni_w441 ⟨by decide +kernel, by decide +kernel, by decide +kernel⟩ (by decide) rfl) ni_muC <|
  ni_row (ni_ret ni_dX11_checkRouter_11) ni_muR <|
  ni_row0
def ni_pr13 : List (Nat × ni_S) := [(0, ni_sLd 3 0 1),
  (1, ni_sLd 0 1 2),
  (2, ni_sV 9 1 9 5),
  (5, ni_sLd 0 3 6),
  (6, ni_sP (ni_gPush (.int 4) 7)),
  (7, ni_sC 8 2 10),
  (10, ni_sLd 3 0 11),
  (11, ni_sLd 0 1 12),
  (12, ni_sLd 0 2 13),
  (13, ni_sV 33 2 9 16),
  (16, ni_sGet 5 6 19),
  (19, ni_sLd 0 3 20),
  (20, ni_sAld .int 0 21),
  (21, ni_sR (some .int))]
theorem ni_pk13 : ∀ r ∈ ni_pr13, ni_Ok xs yX11_deficit cX11_deficit 4 (some .int) [] r.1 r.2 ∧ ni_MU r.2 := ni_row (ni_aloadn ni_dX11_deficit_0 rfl) ni_muLd <|
  ni_row (ni_iloadn ni_dX11_deficit_1 rfl) ni_muLd <|
  ni_row (ni_virt (y := 9) (T := TX11) ni_dX11_deficit_2 (by decide) rfl rfl ni_w435 ni_w437 ni_w0 ni_w28 ni_w438 ⟨by decide +kernel, by decide +kernel, by decide +kernel⟩ (by decide) rfl) (ni_muV (by decide)) <|
  ni_row (ni_iloadn ni_dX11_deficit_5 rfl) ni_muLd <|
  ni_row (ni_okP (ni_iconst ni_dX11_deficit_6 (by decide +kernel))) (ni_muP (ni_eqPush fun _ => rfl)) <|
  ni_row (ni_stat (y := 8) ni_dX11_deficit_7 ni_w439 ni_w440 ni_w28 ni_w441 ⟨by decide +kernel, by decide +kernel, by decide +kernel⟩ (by decide) rfl) ni_muC <|
  ni_row (ni_aloadn ni_dX11_deficit_10 rfl) ni_muLd <|
  ni_row (ni_iloadn ni_dX11_deficit_11 rfl) ni_muLd <|
  ni_row (ni_iloadn ni_dX11_deficit_12 rfl) ni_muLd <|
  ni_row (ni_virt (y := 33) (T := TX11) ni_dX11_deficit_13 (by decide) rfl rfl ni_w672 ni_w674 ni_w8 ni_w28 ni_w675 ⟨by decide +kernel, by decide +kernel, by decide +kernel⟩ (by decide) rfl) (ni_muV (by decide)) <|
  ni_row (ni_get (T := TX6) ni_dX11_deficit_16 (by decide) rfl (by decide) ni_uX6 ni_w227) ni_muGet <|
  ni_row (ni_iloadn ni_dX11_deficit_19 rfl) ni_muLd <|
  ni_row (ni_iald ni_dX11_deficit_20) ni_muAld <|
  ni_row (ni_ret ni_dX11_deficit_21) ni_muR <|
  ni_row0
def ni_pr14 : List (Nat × ni_S) := [(0, ni_sLd 3 0 1),
  (1, ni_sLd 0 1 2),
  (2, ni_sV 7 1 9 5),
  (5, ni_sLd 3 0 6),
  (6, ni_sGet 9 0 9),
  (9, ni_sGet 4 6 12),
  (12, ni_sLd 0 1 13),
  (13, ni_sQld 14),
  (14, ni_sGet 0 13 17),
  (17, ni_sR (some .int))]
theorem ni_pk14 : ∀ r ∈ ni_pr14, ni_Ok xs yX11_delivered cX11_delivered 2 (some .int) [] r.1 r.2 ∧ ni_MU r.2 := ni_row (ni_aloadn ni_dX11_delivered_0 rfl) ni_muLd <|
  ni_row (ni_iloadn ni_dX11_delivered_1 rfl) ni_muLd <|
  ni_row (ni_virt (y := 7) (T := TX11) ni_dX11_delivered_2 (by decide) rfl rfl ni_w697 ni_w699 ni_w9 ni_w28 ni_w700 ⟨by decide +kernel, by decide +kernel, by decide +kernel⟩ (by decide) rfl) (ni_muV (by decide)) <|
  ni_row (ni_aloadn ni_dX11_delivered_5 rfl) ni_muLd <|
  ni_row (ni_get (T := TX11) ni_dX11_delivered_6 (by decide) rfl (by decide) ni_uX11 ni_w424) ni_muGet <|
  ni_row (ni_get (T := TX4) ni_dX11_delivered_9 (by decide) rfl (by decide) ni_uX4 ni_w400) ni_muGet <|
  ni_row (ni_iloadn ni_dX11_delivered_12 rfl) ni_muLd <|
  ni_row (ni_aald ni_dX11_delivered_13) ni_muQld <|
  ni_row (ni_get (T := TX0) ni_dX11_delivered_14 (by decide) rfl (by decide) ni_uX0 ni_w127) ni_muGet <|
  ni_row (ni_ret ni_dX11_delivered_17) ni_muR <|
  ni_row0
def ni_pr15 : List (Nat × ni_S) := [(0, ni_sLd 3 0 1),
  (1, ni_sLd 0 1 2),
  (2, ni_sV 7 1 9 5),
  (5, ni_sLd 0 2 6),
  (6, ni_sP (ni_gPush (.int 1) 7)),
  (7, ni_sP (ni_gPush (.int 60) 9)),
  (9, ni_sC 11 3 12),
  (12, ni_sLd 3 0 13),
  (13, ni_sGet 9 1 16),
  (16, ni_sLd 3 0 17),
  (17, ni_sGet 9 0 20),
  (20, ni_sV 77 1 4 23),
  (23, ni_sP (ni_gPush (.int 0) 24)),
  (24, ni_sSt 0 3 25),
  (25, ni_sLd 0 3 26),
  (26, ni_sLd 0 2 27),
  (27, ni_sP (ni_gIc (fun x y => decide (y ≤ x)) 43 30)),
  (30, ni_sLd 3 0 31),
  (31, ni_sGet 9 1 34),
  (34, ni_sV 96 0 4 37),
  (37, ni_sInc 3 (1) 40),
  (40, ni_sP (ni_gGo 25)),
  (43, ni_sLd 3 0 44),
  (44, ni_sGet 9 1 47),
  (47, ni_sGet 4 6 50),
  (50, ni_sLd 0 1 51),
  (51, ni_sQld 52),
  (52, ni_sGet 0 13 55),
  (55, ni_sR (some .int))]
theorem ni_pk15 : ∀ r ∈ ni_pr15, ni_Ok xs yX11_deliveredIn cX11_deliveredIn 4 (some .int) [] r.1 r.2 ∧ ni_MU r.2 := ni_row (ni_aloadn ni_dX11_deliveredIn_0 rfl) ni_muLd <|
  ni_row (ni_iloadn ni_dX11_deliveredIn_1 rfl) ni_muLd <|
  ni_row (ni_virt (y := 7) (T := TX11) ni_dX11_deliveredIn_2 (by decide) rfl rfl ni_w697 ni_w699 ni_w9 ni_w28 ni_w700 ⟨by decide +kernel, by decide +kernel, by decide +kernel⟩ (by decide) rfl) (ni_muV (by decide)) <|
  ni_row (ni_iloadn ni_dX11_deliveredIn_5 rfl) ni_muLd <|
  ni_row (ni_okP (ni_iconst ni_dX11_deliveredIn_6 (by decide +kernel))) (ni_muP (ni_eqPush fun _ => rfl)) <|
  ni_row (ni_okP (ni_bipush ni_dX11_deliveredIn_7 (by decide +kernel))) (ni_muP (ni_eqPush fun _ => rfl)) <|
  ni_row (ni_stat (y := 11) ni_dX11_deliveredIn_9 ni_w510 ni_w511 ni_w28 ni_w512 ⟨by decide +kernel, by decide +kernel, by decide +kernel⟩ (by decide) rfl) ni_muC <|
  ni_row (ni_aloadn ni_dX11_deliveredIn_12 rfl) ni_muLd <|
  ni_row (ni_get (T := TX11) ni_dX11_deliveredIn_13 (by decide) rfl (by decide) ni_uX11 ni_w425) ni_muGet <|
  ni_row (ni_aloadn ni_dX11_deliveredIn_16 rfl) ni_muLd <|
  ni_row (ni_get (T := TX11) ni_dX11_deliveredIn_17 (by decide) rfl (by decide) ni_uX11 ni_w424) ni_muGet <|
  ni_row (ni_virt (y := 77) (T := TX4) ni_dX11_deliveredIn_20 (by decide) rfl rfl ni_w910 ni_w911 ni_w912 ni_w29 ni_w913 ⟨by decide +kernel, by decide +kernel, by decide +kernel⟩ (by decide) rfl) (ni_muV (by decide)) <|
  ni_row (ni_okP (ni_iconst ni_dX11_deliveredIn_23 (by decide +kernel))) (ni_muP (ni_eqPush fun _ => rfl)) <|
  ni_row (ni_istoren ni_dX11_deliveredIn_24 rfl (by decide)) ni_muSt <|
  ni_row (ni_iloadn ni_dX11_deliveredIn_25 rfl) ni_muLd <|
  ni_row (ni_iloadn ni_dX11_deliveredIn_26 rfl) ni_muLd <|
  ni_row (ni_okP (ni_ic_ge ni_dX11_deliveredIn_27 (by decide))) (ni_muP ni_eqIc) <|
  ni_row (ni_aloadn ni_dX11_deliveredIn_30 rfl) ni_muLd <|
  ni_row (ni_get (T := TX11) ni_dX11_deliveredIn_31 (by decide) rfl (by decide) ni_uX11 ni_w425) ni_muGet <|
  ni_row (ni_virt (y := 96) (T := TX4) ni_dX11_deliveredIn_34 (by decide) rfl rfl ni_w710 ni_w711 ni_w712 ni_w29 ni_w713 ⟨by decide +kernel, by decide +kernel, by decide +kernel⟩ (by decide) rfl) (ni_muV (by decide)) <|
  ni_row (ni_iinc (n := 1) ni_dX11_deliveredIn_37 (by decide)) ni_muInc <|
  ni_row (ni_okP (ni_goto ni_dX11_deliveredIn_40 (by decide))) (ni_muP ni_eqGo) <|
  ni_row (ni_aloadn ni_dX11_deliveredIn_43 rfl) ni_muLd <|
  ni_row (ni_get (T := TX11) ni_dX11_deliveredIn_44 (by decide) rfl (by decide) ni_uX11 ni_w425) ni_muGet <|
  ni_row (ni_get (T := TX4) ni_dX11_deliveredIn_47 (by decide) rfl (by decide) ni_uX4 ni_w400) ni_muGet <|
  ni_row (ni_iloadn ni_dX11_deliveredIn_50 rfl) ni_muLd <|
  ni_row (ni_aald ni_dX11_deliveredIn_51) ni_muQld <|
  ni_row (ni_get (T := TX0) ni_dX11_deliveredIn_52 (by decide) rfl (by decide) ni_uX0 ni_w127) ni_muGet <|
  ni_row (ni_ret ni_dX11_deliveredIn_55) ni_muR <|
  ni_row0
def ni_pr16 : List (Nat × ni_S) := [(0, ni_sP (ni_gPush (.long (58026)) 3)),
  (3, ni_sSt 1 1 4),
  (4, ni_sLd 1 1 5),
  (5, ni_sP (ni_gPush (.long (31)) 8)),
  (8, ni_sP (ni_gJ (fun x y => .long (x * y)) 9)),
  (9, ni_sLd 3 0 10),
  (10, ni_sGet 9 0 13),
  (13, ni_sGet 4 0 16),
  (16, ni_sP (ni_gU (fun x => .long x.toInt64) 17)),
  (17, ni_sP (ni_gJ (fun x y => .long (x + y)) 18)),
  (18, ni_sSt 1 1 19),
  (19, ni_sLd 1 1 20),
  (20, ni_sP (ni_gPush (.long (31)) 23)),
  (23, ni_sP (ni_gJ (fun x y => .long (x * y)) 24)),
  (24, ni_sLd 3 0 25),
  (25, ni_sGet 9 0 28),
  (28, ni_sGet 4 1 31),
  (31, ni_sP (ni_gU (fun x => .long x.toInt64) 32)),
  (32, ni_sP (ni_gJ (fun x y => .long (x + y)) 33)),
  (33, ni_sSt 1 1 34),
  (34, ni_sLd 1 1 35),
  (35, ni_sP (ni_gPush (.long (31)) 38)),
  (38, ni_sP (ni_gJ (fun x y => .long (x * y)) 39)),
  (39, ni_sLd 3 0 40),
  (40, ni_sGet 9 0 43),
  (43, ni_sGet 4 2 46),
  (46, ni_sP (ni_gU (fun x => .long x.toInt64) 47)),
  (47, ni_sP (ni_gJ (fun x y => .long (x + y)) 48)),
  (48, ni_sSt 1 1 49),
  (49, ni_sLd 1 1 50),
  (50, ni_sP (ni_gPush (.long (31)) 53)),
  (53, ni_sP (ni_gJ (fun x y => .long (x * y)) 54)),
  (54, ni_sLd 3 0 55),
  (55, ni_sGet 9 0 58),
  (58, ni_sGet 4 7 61),
  (61, ni_sGet 6 3 64),
  (64, ni_sP (ni_gU (fun x => .long x.toInt64) 65)),
  (65, ni_sP (ni_gJ (fun x y => .long (x + y)) 66)),
  (66, ni_sSt 1 1 67),
  (67, ni_sLd 1 1 68),
  (68, ni_sP (ni_gPush (.long (31)) 71)),
  (71, ni_sP (ni_gJ (fun x y => .long (x * y)) 72)),
  (72, ni_sLd 3 0 73),
  (73, ni_sGet 9 0 76),
  (76, ni_sGet 4 8 79),
  (79, ni_sGet 6 3 82),
  (82, ni_sP (ni_gU (fun x => .long x.toInt64) 83)),
  (83, ni_sP (ni_gJ (fun x y => .long (x + y)) 84)),
  (84, ni_sSt 1 1 85),
  (85, ni_sLd 1 1 86),
  (86, ni_sP (ni_gPush (.long (31)) 89)),
  (89, ni_sP (ni_gJ (fun x y => .long (x * y)) 90)),
  (90, ni_sLd 3 0 91),
  (91, ni_sGet 9 0 94),
  (94, ni_sGet 4 3 97),
  (97, ni_sP (ni_gU (fun x => .long x.toInt64) 98)),
  (98, ni_sP (ni_gJ (fun x y => .long (x + y)) 99)),
  (99, ni_sSt 1 1 100),
  (100, ni_sLd 1 1 101),
  (101, ni_sP (ni_gPush (.long (31)) 104)),
  (104, ni_sP (ni_gJ (fun x y => .long (x * y)) 105)),
  (105, ni_sLd 3 0 106),
  (106, ni_sGet 9 0 109),
  (109, ni_sV 81 0 4 112),
  (112, ni_sP (ni_gU (fun x => .long x.toInt64) 113)),
  (113, ni_sP (ni_gJ (fun x y => .long (x + y)) 114)),
  (114, ni_sSt 1 1 115),
  (115, ni_sP (ni_gPush (.int 0) 116)),
  (116, ni_sSt 0 3 117),
  (117, ni_sLd 0 3 118),
  (118, ni_sLd 3 0 119),
  (119, ni_sGet 9 0 122),
  (122, ni_sGet 4 1 125),
  (125, ni_sP (ni_gIc (fun x y => decide (y ≤ x)) 149 128)),
  (128, ni_sLd 3 0 129),
  (129, ni_sLd 1 1 130),
  (130, ni_sLd 3 0 131),
  (131, ni_sGet 9 0 134),
  (134, ni_sGet 4 4 137),
  (137, ni_sLd 0 3 138),
  (138, ni_sQld 139),
  (139, ni_sV 20 2 9 142),
  (142, ni_sSt 1 1 143),
  (143, ni_sInc 3 (1) 146),
  (146, ni_sP (ni_gGo 117)),
  (149, ni_sP (ni_gPush (.int 0) 150)),
  (150, ni_sSt 0 3 151),
  (151, ni_sLd 0 3 152),
  (152, ni_sLd 3 0 153),
  (153, ni_sGet 9 0 156),
  (156, ni_sGet 4 2 159),
  (159, ni_sP (ni_gIc (fun x y => decide (y ≤ x)) 182 162)),
  (162, ni_sLd 1 1 163),
  (163, ni_sLd 3 0 164),
  (164, ni_sGet 9 0 167),
  (167, ni_sGet 4 5 170),
  (170, ni_sLd 0 3 171),
  (171, ni_sQld 172),
  (172, ni_sC 18 2 175),
  (175, ni_sSt 1 1 176),
  (176, ni_sInc 3 (1) 179),
  (179, ni_sP (ni_gGo 151)),
  (182, ni_sP (ni_gPush (.int 0) 183)),
  (183, ni_sSt 0 3 184),
  (184, ni_sLd 0 3 185),
  (185, ni_sLd 3 0 186),
  (186, ni_sGet 9 0 189),
  (189, ni_sGet 4 3 192),
  (192, ni_sP (ni_gIc (fun x y => decide (y ≤ x)) 208 195)),
  (195, ni_sLd 3 0 196),
  (196, ni_sLd 1 1 197),
  (197, ni_sLd 0 3 198),
  (198, ni_sV 17 2 9 201),
  (201, ni_sSt 1 1 202),
  (202, ni_sInc 3 (1) 205),
  (205, ni_sP (ni_gGo 184)),
  (208, ni_sLd 1 1 209),
  (209, ni_sR (some .long))]
theorem ni_pk16 : ∀ r ∈ ni_pr16, ni_Ok xs yX11_digest cX11_digest 4 (some .long) [] r.1 r.2 ∧ ni_MU r.2 := ni_row (ni_okP (ni_ldc2 ni_dX11_digest_0 ni_w958)) (ni_muP (ni_eqPush fun _ => rfl)) <|
  ni_row (ni_lstoren ni_dX11_digest_3 rfl (by decide)) ni_muSt <|
  ni_row (ni_lloadn ni_dX11_digest_4 rfl) ni_muLd <|
  ni_row (ni_okP (ni_ldc2 ni_dX11_digest_5 ni_w959)) (ni_muP (ni_eqPush fun _ => rfl)) <|
  ni_row (ni_okP (ni_lmul ni_dX11_digest_8)) (ni_muP (ni_eqJ fun _ _ _ => rfl)) <|
  ni_row (ni_aloadn ni_dX11_digest_9 rfl) ni_muLd <|
  ni_row (ni_get (T := TX11) ni_dX11_digest_10 (by decide) rfl (by decide) ni_uX11 ni_w424) ni_muGet <|
  ni_row (ni_get (T := TX4) ni_dX11_digest_13 (by decide) rfl (by decide) ni_uX4 ni_w387) ni_muGet <|
  ni_row (ni_okP (ni_i2l ni_dX11_digest_16)) (ni_muP (ni_eqU fun _ _ => rfl)) <|
  ni_row (ni_okP (ni_ladd ni_dX11_digest_17)) (ni_muP (ni_eqJ fun _ _ _ => rfl)) <|
  ni_row (ni_lstoren ni_dX11_digest_18 rfl (by decide)) ni_muSt <|
  ni_row (ni_lloadn ni_dX11_digest_19 rfl) ni_muLd <|
  ni_row (ni_okP (ni_ldc2 ni_dX11_digest_20 ni_w959)) (ni_muP (ni_eqPush fun _ => rfl)) <|
  ni_row (ni_okP (ni_lmul ni_dX11_digest_23)) (ni_muP (ni_eqJ fun _ _ _ => rfl)) <|
  ni_row (ni_aloadn ni_dX11_digest_24 rfl) ni_muLd <|
  ni_row (ni_get (T := TX11) ni_dX11_digest_25 (by decide) rfl (by decide) ni_uX11 ni_w424) ni_muGet <|
  ni_row (ni_get (T := TX4) ni_dX11_digest_28 (by decide) rfl (by decide) ni_uX4 ni_w390) ni_muGet <|
  ni_row (ni_okP (ni_i2l ni_dX11_digest_31)) (ni_muP (ni_eqU fun _ _ => rfl)) <|
  ni_row (ni_okP (ni_ladd ni_dX11_digest_32)) (ni_muP (ni_eqJ fun _ _ _ => rfl)) <|
  ni_row (ni_lstoren ni_dX11_digest_33 rfl (by decide)) ni_muSt <|
  ni_row (ni_lloadn ni_dX11_digest_34 rfl) ni_muLd <|
  ni_row (ni_okP (ni_ldc2 ni_dX11_digest_35 ni_w959)) (ni_muP (ni_eqPush fun _ => rfl)) <|
  ni_row (ni_okP (ni_lmul ni_dX11_digest_38)) (ni_muP (ni_eqJ fun _ _ _ => rfl)) <|
  ni_row (ni_aloadn ni_dX11_digest_39 rfl) ni_muLd <|
  ni_row (ni_get (T := TX11) ni_dX11_digest_40 (by decide) rfl (by decide) ni_uX11 ni_w424) ni_muGet <|
  ni_row (ni_get (T := TX4) ni_dX11_digest_43 (by decide) rfl (by decide) ni_uX4 ni_w392) ni_muGet <|
  ni_row (ni_okP (ni_i2l ni_dX11_digest_46)) (ni_muP (ni_eqU fun _ _ => rfl)) <|
  ni_row (ni_okP (ni_ladd ni_dX11_digest_47)) (ni_muP (ni_eqJ fun _ _ _ => rfl)) <|
  ni_row (ni_lstoren ni_dX11_digest_48 rfl (by decide)) ni_muSt <|
  ni_row (ni_lloadn ni_dX11_digest_49 rfl) ni_muLd <|
  ni_row (ni_okP (ni_ldc2 ni_dX11_digest_50 ni_w959)) (ni_muP (ni_eqPush fun _ => rfl)) <|
  ni_row (ni_okP (ni_lmul ni_dX11_digest_53)) (ni_muP (ni_eqJ fun _ _ _ => rfl)) <|
  ni_row (ni_aloadn ni_dX11_digest_54 rfl) ni_muLd <|
  ni_row (ni_get (T := TX11) ni_dX11_digest_55 (by decide) rfl (by decide) ni_uX11 ni_w424) ni_muGet <|
  ni_row (ni_get (T := TX4) ni_dX11_digest_58 (by decide) rfl (by decide) ni_uX4 ni_w402) ni_muGet <|
  ni_row (ni_get (T := TX8) ni_dX11_digest_61 (by decide) rfl (by decide) ni_uX8 ni_w82) ni_muGet <|
  ni_row (ni_okP (ni_i2l ni_dX11_digest_64)) (ni_muP (ni_eqU fun _ _ => rfl)) <|
  ni_row (ni_okP (ni_ladd ni_dX11_digest_65)) (ni_muP (ni_eqJ fun _ _ _ => rfl)) <|
  ni_row (ni_lstoren ni_dX11_digest_66 rfl (by decide)) ni_muSt <|
  ni_row (ni_lloadn ni_dX11_digest_67 rfl) ni_muLd <|
  ni_row (ni_okP (ni_ldc2 ni_dX11_digest_68 ni_w959)) (ni_muP (ni_eqPush fun _ => rfl)) <|
  ni_row (ni_okP (ni_lmul ni_dX11_digest_71)) (ni_muP (ni_eqJ fun _ _ _ => rfl)) <|
  ni_row (ni_aloadn ni_dX11_digest_72 rfl) ni_muLd <|
  ni_row (ni_get (T := TX11) ni_dX11_digest_73 (by decide) rfl (by decide) ni_uX11 ni_w424) ni_muGet <|
  ni_row (ni_get (T := TX4) ni_dX11_digest_76 (by decide) rfl (by decide) ni_uX4 ni_w404) ni_muGet <|
  ni_row (ni_get (T := TX8) ni_dX11_digest_79 (by decide) rfl (by decide) ni_uX8 ni_w82) ni_muGet <|
  ni_row (ni_okP (ni_i2l ni_dX11_digest_82)) (ni_muP (ni_eqU fun _ _ => rfl)) <|
  ni_row (ni_okP (ni_ladd ni_dX11_digest_83)) (ni_muP (ni_eqJ fun _ _ _ => rfl)) <|
  ni_row (ni_lstoren ni_dX11_digest_84 rfl (by decide)) ni_muSt <|
  ni_row (ni_lloadn ni_dX11_digest_85 rfl) ni_muLd <|
  ni_row (ni_okP (ni_ldc2 ni_dX11_digest_86 ni_w959)) (ni_muP (ni_eqPush fun _ => rfl)) <|
  ni_row (ni_okP (ni_lmul ni_dX11_digest_89)) (ni_muP (ni_eqJ fun _ _ _ => rfl)) <|
  ni_row (ni_aloadn ni_dX11_digest_90 rfl) ni_muLd <|
  ni_row (ni_get (T := TX11) ni_dX11_digest_91 (by decide) rfl (by decide) ni_uX11 ni_w424) ni_muGet <|
  ni_row (ni_get (T := TX4) ni_dX11_digest_94 (by decide) rfl (by decide) ni_uX4 ni_w394) ni_muGet <|
  ni_row (ni_okP (ni_i2l ni_dX11_digest_97)) (ni_muP (ni_eqU fun _ _ => rfl)) <|
  ni_row (ni_okP (ni_ladd ni_dX11_digest_98)) (ni_muP (ni_eqJ fun _ _ _ => rfl)) <|
  ni_row (ni_lstoren ni_dX11_digest_99 rfl (by decide)) ni_muSt <|
  ni_row (ni_lloadn ni_dX11_digest_100 rfl) ni_muLd <|
  ni_row (ni_okP (ni_ldc2 ni_dX11_digest_101 ni_w959)) (ni_muP (ni_eqPush fun _ => rfl)) <|
  ni_row (ni_okP (ni_lmul ni_dX11_digest_104)) (ni_muP (ni_eqJ fun _ _ _ => rfl)) <|
  ni_row (ni_aloadn ni_dX11_digest_105 rfl) ni_muLd <|
  ni_row (ni_get (T := TX11) ni_dX11_digest_106 (by decide) rfl (by decide) ni_uX11 ni_w424) ni_muGet <|
  ni_row (ni_virt (y := 81) (T := TX4) ni_dX11_digest_109 (by decide) rfl rfl ni_w898 ni_w899 ni_w900 ni_w29 ni_w901 ⟨by decide +kernel, by decide +kernel, by decide +kernel⟩ (by decide) rfl) (ni_muV (by decide)) <|
  ni_row (ni_okP (ni_i2l ni_dX11_digest_112)) (ni_muP (ni_eqU fun _ _ => rfl)) <|
  ni_row (ni_okP (ni_ladd ni_dX11_digest_113)) (ni_muP (ni_eqJ fun _ _ _ => rfl)) <|
  ni_row (ni_lstoren ni_dX11_digest_114 rfl (by decide)) ni_muSt <|
  ni_row (ni_okP (ni_iconst ni_dX11_digest_115 (by decide +kernel))) (ni_muP (ni_eqPush fun _ => rfl)) <|
  ni_row (ni_istoren ni_dX11_digest_116 rfl (by decide)) ni_muSt <|
  ni_row (ni_iloadn ni_dX11_digest_117 rfl) ni_muLd <|
  ni_row (ni_aloadn ni_dX11_digest_118 rfl) ni_muLd <|
  ni_row (ni_get (T := TX11) ni_dX11_digest_119 (by decide) rfl (by decide) ni_uX11 ni_w424) ni_muGet <|
  ni_row (ni_get (T := TX4) ni_dX11_digest_122 (by decide) rfl (by decide) ni_uX4 ni_w390) ni_muGet <|
  ni_row (ni_okP (ni_ic_ge ni_dX11_digest_125 (by decide))) (ni_muP ni_eqIc) <|
  ni_row (ni_aloadn ni_dX11_digest_128 rfl) ni_muLd <|
  ni_row (ni_lloadn ni_dX11_digest_129 rfl) ni_muLd <|
  ni_row (ni_aloadn ni_dX11_digest_130 rfl) ni_muLd <|
  ni_row (ni_get (T := TX11) ni_dX11_digest_131 (by decide) rfl (by decide) ni_uX11 ni_w424) ni_muGet <|
  ni_row (ni_get (T := TX4) ni_dX11_digest_134 (by decide) rfl (by decide) ni_uX4 ni_w396) ni_muGet <|
  ni_row (ni_iloadn ni_dX11_digest_137 rfl) ni_muLd <|
  ni_row (ni_aald ni_dX11_digest_138) ni_muQld <|
  ni_row (ni_virt (y := 20) (T := TX11) ni_dX11_digest_139 (by decide) rfl rfl ni_w960 ni_w962 ni_w25 ni_w28 ni_w963 ⟨by decide +kernel, by decide +kernel, by decide +kernel⟩ (by decide) rfl) (ni_muV (by decide)) <|
  ni_row (ni_lstoren ni_dX11_digest_142 rfl (by decide)) ni_muSt <|
  ni_row (ni_iinc (n := 1) ni_dX11_digest_143 (by decide)) ni_muInc <|
  ni_row (ni_okP (ni_goto ni_dX11_digest_146 (by decide))) (ni_muP ni_eqGo) <|
  ni_row (ni_okP (ni_iconst ni_dX11_digest_149 (by decide +kernel))) (ni_muP (ni_eqPush fun _ => rfl)) <|
  ni_row (ni_istoren ni_dX11_digest_150 rfl (by decide)) ni_muSt <|
  ni_row (ni_iloadn ni_dX11_digest_151 rfl) ni_muLd <|
  ni_row (ni_aloadn ni_dX11_digest_152 rfl) ni_muLd <|
  ni_row (ni_get (T := TX11) ni_dX11_digest_153 (by decide) rfl (by decide) ni_uX11 ni_w424) ni_muGet <|
  ni_row (ni_get (T := TX4) ni_dX11_digest_156 (by decide) rfl (by decide) ni_uX4 ni_w392) ni_muGet <|
  ni_row (ni_okP (ni_ic_ge ni_dX11_digest_159 (by decide))) (ni_muP ni_eqIc) <|
  ni_row (ni_lloadn ni_dX11_digest_162 rfl) ni_muLd <|
  ni_row (ni_aloadn ni_dX11_digest_163 rfl) ni_muLd <|
  ni_row (ni_get (T := TX11) ni_dX11_digest_164 (by decide) rfl (by decide) ni_uX11 ni_w424) ni_muGet <|
  ni_row (ni_get (T := TX4) ni_dX11_digest_167 (by decide) rfl (by decide) ni_uX4 ni_w398) ni_muGet <|
  ni_row (ni_iloadn ni_dX11_digest_170 rfl) ni_muLd <|
  ni_row (ni_aald ni_dX11_digest_171) ni_muQld <|
  ni_row (ni_stat (y := 18) ni_dX11_digest_172 ni_w997 ni_w998 ni_w28 ni_w999 ⟨by decide +kernel, by decide +kernel, by decide +kernel⟩ (by decide) rfl) ni_muC <|
  ni_row (ni_lstoren ni_dX11_digest_175 rfl (by decide)) ni_muSt <|
  ni_row (ni_iinc (n := 1) ni_dX11_digest_176 (by decide)) ni_muInc <|
  ni_row (ni_okP (ni_goto ni_dX11_digest_179 (by decide))) (ni_muP ni_eqGo) <|
  ni_row (ni_okP (ni_iconst ni_dX11_digest_182 (by decide +kernel))) (ni_muP (ni_eqPush fun _ => rfl)) <|
  ni_row (ni_istoren ni_dX11_digest_183 rfl (by decide)) ni_muSt <|
  ni_row (ni_iloadn ni_dX11_digest_184 rfl) ni_muLd <|
  ni_row (ni_aloadn ni_dX11_digest_185 rfl) ni_muLd <|
  ni_row (ni_get (T := TX11) ni_dX11_digest_186 (by decide) rfl (by decide) ni_uX11 ni_w424) ni_muGet <|
  ni_row (ni_get (T := TX4) ni_dX11_digest_189 (by decide) rfl (by decide) ni_uX4 ni_w394) ni_muGet <|
  ni_row (ni_okP (ni_ic_ge ni_dX11_digest_192 (by decide))) (ni_muP ni_eqIc) <|
  ni_row (ni_aloadn ni_dX11_digest_195 rfl) ni_muLd <|
  ni_row (ni_lloadn ni_dX11_digest_196 rfl) ni_muLd <|
  ni_row (ni_iloadn ni_dX11_digest_197 rfl) ni_muLd <|
  ni_row (ni_virt (y := 17) (T := TX11) ni_dX11_digest_198 (by decide) rfl rfl ni_w1011 ni_w1013 ni_w26 ni_w28 ni_w1014 ⟨by decide +kernel, by decide +kernel, by decide +kernel⟩ (by decide) rfl) (ni_muV (by decide)) <|
  ni_row (ni_lstoren ni_dX11_digest_201 rfl (by decide)) ni_muSt <|
  ni_row (ni_iinc (n := 1) ni_dX11_digest_202 (by decide)) ni_muInc <|
  ni_row (ni_okP (ni_goto ni_dX11_digest_205 (by decide))) (ni_muP ni_eqGo) <|
  ni_row (ni_lloadn ni_dX11_digest_208 rfl) ni_muLd <|
  ni_row (ni_ret ni_dX11_digest_209) ni_muR <|
  ni_row0
def ni_pr17 : List (Nat × ni_S) := [(0, ni_sLd 3 0 1),
  (1, ni_sGet 9 0 4),
  (4, ni_sGet 4 6 7),
  (7, ni_sLd 0 3 8),
  (8, ni_sQld 9),
  (9, ni_sSt 3 4 11),
  (11, ni_sLd 1 1 12),
  (12, ni_sSt 1 5 14),
  (14, ni_sLd 1 5 16),
  (16, ni_sP (ni_gPush (.long (31)) 19)),
  (19, ni_sP (ni_gJ (fun x y => .long (x * y)) 20)),
  (20, ni_sLd 3 4 22),
  (22, ni_sGet 0 12 25),
  (25, ni_sP (ni_gU (fun x => .long x.toInt64) 26)),
  (26, ni_sP (ni_gJ (fun x y => .long (x + y)) 27)),
  (27, ni_sSt 1 5 29),
  (29, ni_sLd 1 5 31),
  (31, ni_sP (ni_gPush (.long (31)) 34)),
  (34, ni_sP (ni_gJ (fun x y => .long (x * y)) 35)),
  (35, ni_sLd 3 4 37),
  (37, ni_sGet 0 11 40),
  (40, ni_sP (ni_gU (fun x => .long x.toInt64) 41)),
  (41, ni_sP (ni_gJ (fun x y => .long (x + y)) 42)),
  (42, ni_sSt 1 5 44),
  (44, ni_sLd 1 5 46),
  (46, ni_sP (ni_gPush (.long (31)) 49)),
  (49, ni_sP (ni_gJ (fun x y => .long (x * y)) 50)),
  (50, ni_sLd 3 4 52),
  (52, ni_sGet 0 9 55),
  (55, ni_sP (ni_gU (fun x => .long x.toInt64) 56)),
  (56, ni_sP (ni_gJ (fun x y => .long (x + y)) 57)),
  (57, ni_sSt 1 5 59),
  (59, ni_sLd 1 5 61),
  (61, ni_sP (ni_gPush (.long (31)) 64)),
  (64, ni_sP (ni_gJ (fun x y => .long (x * y)) 65)),
  (65, ni_sLd 3 4 67),
  (67, ni_sGet 0 13 70),
  (70, ni_sP (ni_gU (fun x => .long x.toInt64) 71)),
  (71, ni_sP (ni_gJ (fun x y => .long (x + y)) 72)),
  (72, ni_sSt 1 5 74),
  (74, ni_sP (ni_gPush (.int 0) 75)),
  (75, ni_sSt 0 7 77),
  (77, ni_sLd 0 7 79),
  (79, ni_sP (ni_gPush (.int 7) 81)),
  (81, ni_sP (ni_gIc (fun x y => decide (y ≤ x)) 108 84)),
  (84, ni_sLd 1 5 86),
  (86, ni_sP (ni_gPush (.long (31)) 89)),
  (89, ni_sP (ni_gJ (fun x y => .long (x * y)) 90)),
  (90, ni_sLd 3 4 92),
  (92, ni_sGet 0 14 95),
  (95, ni_sLd 0 7 97),
  (97, ni_sAld .int 0 98),
  (98, ni_sP (ni_gU (fun x => .long x.toInt64) 99)),
  (99, ni_sP (ni_gJ (fun x y => .long (x + y)) 100)),
  (100, ni_sSt 1 5 102),
  (102, ni_sInc 7 (1) 105),
  (105, ni_sP (ni_gGo 77)),
  (108, ni_sLd 1 5 110),
  (110, ni_sP (ni_gPush (.long (31)) 113)),
  (113, ni_sP (ni_gJ (fun x y => .long (x * y)) 114)),
  (114, ni_sLd 3 4 116),
  (116, ni_sGet 0 16 119),
  (119, ni_sP (ni_gU (fun x => .long x.toInt64) 120)),
  (120, ni_sP (ni_gJ (fun x y => .long (x + y)) 121)),
  (121, ni_sSt 1 5 123),
  (123, ni_sLd 1 5 125),
  (125, ni_sP (ni_gPush (.long (31)) 128)),
  (128, ni_sP (ni_gJ (fun x y => .long (x * y)) 129)),
  (129, ni_sLd 3 4 131),
  (131, ni_sGet 0 18 134),
  (134, ni_sP (ni_gU (fun x => .long x.toInt64) 135)),
  (135, ni_sP (ni_gJ (fun x y => .long (x + y)) 136)),
  (136, ni_sSt 1 5 138),
  (138, ni_sLd 1 5 140),
  (140, ni_sP (ni_gPush (.long (31)) 143)),
  (143, ni_sP (ni_gJ (fun x y => .long (x * y)) 144)),
  (144, ni_sLd 3 0 145),
  (145, ni_sGet 9 0 148),
  (148, ni_sLd 0 3 149),
  (149, ni_sV 80 1 4 152),
  (152, ni_sP (ni_gU (fun x => .long x.toInt64) 153)),
  (153, ni_sP (ni_gJ (fun x y => .long (x + y)) 154)),
  (154, ni_sSt 1 5 156),
  (156, ni_sP (ni_gPush (.int 0) 157)),
  (157, ni_sSt 0 7 159),
  (159, ni_sLd 0 7 161),
  (161, ni_sLd 3 0 162),
  (162, ni_sGet 9 0 165),
  (165, ni_sGet 4 1 168),
  (168, ni_sP (ni_gIc (fun x y => decide (y ≤ x)) 197 171)),
  (171, ni_sLd 1 5 173),
  (173, ni_sP (ni_gPush (.long (31)) 176)),
  (176, ni_sP (ni_gJ (fun x y => .long (x * y)) 177)),
  (177, ni_sLd 3 0 178),
  (178, ni_sGet 9 0 181),
  (181, ni_sLd 0 7 183),
  (183, ni_sLd 0 3 184),
  (184, ni_sV 83 2 4 187),
  (187, ni_sP (ni_gU (fun x => .long x.toInt64) 188)),
  (188, ni_sP (ni_gJ (fun x y => .long (x + y)) 189)),
  (189, ni_sSt 1 5 191),
  (191, ni_sInc 7 (1) 194),
  (194, ni_sP (ni_gGo 159)),
  (197, ni_sLd 1 5 199),
  (199, ni_sR (some .long))]
theorem ni_pk17 : ∀ r ∈ ni_pr17, ni_Ok xs yX11_digestFlow cX11_digestFlow 8 (some .long) [] r.1 r.2 ∧ ni_MU r.2 := ni_row (ni_aloadn ni_dX11_digestFlow_0 rfl) ni_muLd <|
  ni_row (ni_get (T := TX11) ni_dX11_digestFlow_1 (by decide) rfl (by decide) ni_uX11 ni_w424) ni_muGet <|
  ni_row (ni_get (T := TX4) ni_dX11_digestFlow_4 (by decide) rfl (by decide) ni_uX4 ni_w400) ni_muGet <|
  ni_row (ni_iloadn ni_dX11_digestFlow_7 rfl) ni_muLd <|
  ni_row (ni_aald ni_dX11_digestFlow_8) ni_muQld <|
  ni_row (ni_astore ni_dX11_digestFlow_9 (by decide)) ni_muSt <|
  ni_row (ni_lloadn ni_dX11_digestFlow_11 rfl) ni_muLd <|
  ni_row (ni_lstore ni_dX11_digestFlow_12 (by decide)) ni_muSt <|
  ni_row (ni_lload ni_dX11_digestFlow_14) ni_muLd <|
  ni_row (ni_okP (ni_ldc2 ni_dX11_digestFlow_16 ni_w959)) (ni_muP (ni_eqPush fun _ => rfl)) <|
  ni_row (ni_okP (ni_lmul ni_dX11_digestFlow_19)) (ni_muP (ni_eqJ fun _ _ _ => rfl)) <|
  ni_row (ni_aload ni_dX11_digestFlow_20) ni_muLd <|
  ni_row (ni_get (T := TX0) ni_dX11_digestFlow_22 (by decide) rfl (by decide) ni_uX0 ni_w125) ni_muGet <|
  ni_row (ni_okP (ni_i2l ni_dX11_digestFlow_25)) (ni_muP (ni_eqU fun _ _ => rfl)) <|
  ni_row (ni_okP (ni_ladd ni_dX11_digestFlow_26)) (ni_muP (ni_eqJ fun _ _ _ => rfl)) <|
  ni_row (ni_lstore ni_dX11_digestFlow_27 (by decide)) ni_muSt <|
  ni_row (ni_lload ni_dX11_digestFlow_29) ni_muLd <|
  ni_row (ni_okP (ni_ldc2 ni_dX11_digestFlow_31 ni_w959)) (ni_muP (ni_eqPush fun _ => rfl)) <|
  ni_row (ni_okP (ni_lmul ni_dX11_digestFlow_34)) (ni_muP (ni_eqJ fun _ _ _ => rfl)) <|
  ni_row (ni_aload ni_dX11_digestFlow_35) ni_muLd <|
  ni_row (ni_get (T := TX0) ni_dX11_digestFlow_37 (by decide) rfl (by decide) ni_uX0 ni_w122) ni_muGet <|
  ni_row (ni_okP (ni_i2l ni_dX11_digestFlow_40)) (ni_muP (ni_eqU fun _ _ => rfl)) <|
  ni_row (ni_okP (ni_ladd ni_dX11_digestFlow_41)) (ni_muP (ni_eqJ fun _ _ _ => rfl)) <|
  ni_row (ni_lstore ni_dX11_digestFlow_42 (by decide)) ni_muSt <|
  ni_row (ni_lload ni_dX11_digestFlow_44) ni_muLd <|
  ni_row (ni_okP (ni_ldc2 ni_dX11_digestFlow_46 ni_w959)) (ni_muP (ni_eqPush fun _ => rfl)) <|
  ni_row (ni_okP (ni_lmul ni_dX11_digestFlow_49)) (ni_muP (ni_eqJ fun _ _ _ => rfl)) <|
  ni_row (ni_aload ni_dX11_digestFlow_50) ni_muLd <|
  ni_row (ni_get (T := TX0) ni_dX11_digestFlow_52 (by decide) rfl (by decide) ni_uX0 ni_w119) ni_muGet <|
  ni_row (ni_okP (ni_i2l ni_dX11_digestFlow_55)) (ni_muP (ni_eqU fun _ _ => rfl)) <|
  ni_row (ni_okP (ni_ladd ni_dX11_digestFlow_56)) (ni_muP (ni_eqJ fun _ _ _ => rfl)) <|
  ni_row (ni_lstore ni_dX11_digestFlow_57 (by decide)) ni_muSt <|
  ni_row (ni_lload ni_dX11_digestFlow_59) ni_muLd <|
  ni_row (ni_okP (ni_ldc2 ni_dX11_digestFlow_61 ni_w959)) (ni_muP (ni_eqPush fun _ => rfl)) <|
  ni_row (ni_okP (ni_lmul ni_dX11_digestFlow_64)) (ni_muP (ni_eqJ fun _ _ _ => rfl)) <|
  ni_row (ni_aload ni_dX11_digestFlow_65) ni_muLd <|
  ni_row (ni_get (T := TX0) ni_dX11_digestFlow_67 (by decide) rfl (by decide) ni_uX0 ni_w127) ni_muGet <|
  ni_row (ni_okP (ni_i2l ni_dX11_digestFlow_70)) (ni_muP (ni_eqU fun _ _ => rfl)) <|
  ni_row (ni_okP (ni_ladd ni_dX11_digestFlow_71)) (ni_muP (ni_eqJ fun _ _ _ => rfl)) <|
  ni_row (ni_lstore ni_dX11_digestFlow_72 (by decide)) ni_muSt <|
  ni_row (ni_okP (ni_iconst ni_dX11_digestFlow_74 (by decide +kernel))) (ni_muP (ni_eqPush fun _ => rfl)) <|
  ni_row (ni_istore ni_dX11_digestFlow_75 (by decide)) ni_muSt <|
  ni_row (ni_iload ni_dX11_digestFlow_77) ni_muLd <|
  ni_row (ni_okP (ni_bipush ni_dX11_digestFlow_79 (by decide +kernel))) (ni_muP (ni_eqPush fun _ => rfl)) <|
  ni_row (ni_okP (ni_ic_ge ni_dX11_digestFlow_81 (by decide))) (ni_muP ni_eqIc) <|
  ni_row (ni_lload ni_dX11_digestFlow_84) ni_muLd <|
  ni_row (ni_okP (ni_ldc2 ni_dX11_digestFlow_86 ni_w959)) (ni_muP (ni_eqPush fun _ => rfl)) <|
  ni_row (ni_okP (ni_lmul ni_dX11_digestFlow_89)) (ni_muP (ni_eqJ fun _ _ _ => rfl)) <|
  ni_row (ni_aload ni_dX11_digestFlow_90) ni_muLd <|
  ni_row (ni_get (T := TX0) ni_dX11_digestFlow_92 (by decide) rfl (by decide) ni_uX0 ni_w131) ni_muGet <|
  ni_row (ni_iload ni_dX11_digestFlow_95) ni_muLd <|
  ni_row (ni_iald ni_dX11_digestFlow_97) ni_muAld <|
  ni_row (ni_okP (ni_i2l ni_dX11_digestFlow_98)) (ni_muP (ni_eqU fun _ _ => rfl)) <|
  ni_row (ni_okP (ni_ladd ni_dX11_digestFlow_99)) (ni_muP (ni_eqJ fun _ _ _ => rfl)) <|
  ni_row (ni_lstore ni_dX11_digestFlow_100 (by decide)) ni_muSt <|
  ni_row (ni_iinc (n := 1) ni_dX11_digestFlow_102 (by decide)) ni_muInc <|
  ni_row (ni_okP (ni_goto ni_dX11_digestFlow_105 (by decide))) (ni_muP ni_eqGo) <|
  ni_row (ni_lload ni_dX11_digestFlow_108) ni_muLd <|
  ni_row (ni_okP (ni_ldc2 ni_dX11_digestFlow_110 ni_w959)) (ni_muP (ni_eqPush fun _ => rfl)) <|
  ni_row (ni_okP (ni_lmul ni_dX11_digestFlow_113)) (ni_muP (ni_eqJ fun _ _ _ => rfl)) <|
  ni_row (ni_aload ni_dX11_digestFlow_114) ni_muLd <|
  ni_row (ni_get (T := TX0) ni_dX11_digestFlow_116 (by decide) rfl (by decide) ni_uX0 ni_w135) ni_muGet <|
  ni_row (ni_okP (ni_i2l ni_dX11_digestFlow_119)) (ni_muP (ni_eqU fun _ _ => rfl)) <|
  ni_row (ni_okP (ni_ladd ni_dX11_digestFlow_120)) (ni_muP (ni_eqJ fun _ _ _ => rfl)) <|
  ni_row (ni_lstore ni_dX11_digestFlow_121 (by decide)) ni_muSt <|
  ni_row (ni_lload ni_dX11_digestFlow_123) ni_muLd <|
  ni_row (ni_okP (ni_ldc2 ni_dX11_digestFlow_125 ni_w959)) (ni_muP (ni_eqPush fun _ => rfl)) <|
  ni_row (ni_okP (ni_lmul ni_dX11_digestFlow_128)) (ni_muP (ni_eqJ fun _ _ _ => rfl)) <|
  ni_row (ni_aload ni_dX11_digestFlow_129) ni_muLd <|
  ni_row (ni_get (T := TX0) ni_dX11_digestFlow_131 (by decide) rfl (by decide) ni_uX0 ni_w138) ni_muGet <|
  ni_row (ni_okP (ni_i2l ni_dX11_digestFlow_134)) (ni_muP (ni_eqU fun _ _ => rfl)) <|
  ni_row (ni_okP (ni_ladd ni_dX11_digestFlow_135)) (ni_muP (ni_eqJ fun _ _ _ => rfl)) <|
  ni_row (ni_lstore ni_dX11_digestFlow_136 (by decide)) ni_muSt <|
  ni_row (ni_lload ni_dX11_digestFlow_138) ni_muLd <|
  ni_row (ni_okP (ni_ldc2 ni_dX11_digestFlow_140 ni_w959)) (ni_muP (ni_eqPush fun _ => rfl)) <|
  ni_row (ni_okP (ni_lmul ni_dX11_digestFlow_143)) (ni_muP (ni_eqJ fun _ _ _ => rfl)) <|
  ni_row (ni_aloadn ni_dX11_digestFlow_144 rfl) ni_muLd <|
  ni_row (ni_get (T := TX11) ni_dX11_digestFlow_145 (by decide) rfl (by decide) ni_uX11 ni_w424) ni_muGet <|
  ni_row (ni_iloadn ni_dX11_digestFlow_148 rfl) ni_muLd <|
  ni_row (ni_virt (y := 80) (T := TX4) ni_dX11_digestFlow_149 (by decide) rfl rfl ni_w1015 ni_w1016 ni_w1017 ni_w29 ni_w1018 ⟨by decide +kernel, by decide +kernel, by decide +kernel⟩ (by decide) rfl) (ni_muV (by decide)) <|
  ni_row (ni_okP (ni_i2l ni_dX11_digestFlow_152)) (ni_muP (ni_eqU fun _ _ => rfl)) <|
  ni_row (ni_okP (ni_ladd ni_dX11_digestFlow_153)) (ni_muP (ni_eqJ fun _ _ _ => rfl)) <|
  ni_row (ni_lstore ni_dX11_digestFlow_154 (by decide)) ni_muSt <|
  ni_row (ni_okP (ni_iconst ni_dX11_digestFlow_156 (by decide +kernel))) (ni_muP (ni_eqPush fun _ => rfl)) <|
  ni_row (ni_istore ni_dX11_digestFlow_157 (by decide)) ni_muSt <|
  ni_row (ni_iload ni_dX11_digestFlow_159) ni_muLd <|
  ni_row (ni_aloadn ni_dX11_digestFlow_161 rfl) ni_muLd <|
  ni_row (ni_get (T := TX11) ni_dX11_digestFlow_162 (by decide) rfl (by decide) ni_uX11 ni_w424) ni_muGet <|
  ni_row (ni_get (T := TX4) ni_dX11_digestFlow_165 (by decide) rfl (by decide) ni_uX4 ni_w390) ni_muGet <|
  ni_row (ni_okP (ni_ic_ge ni_dX11_digestFlow_168 (by decide))) (ni_muP ni_eqIc) <|
  ni_row (ni_lload ni_dX11_digestFlow_171) ni_muLd <|
  ni_row (ni_okP (ni_ldc2 ni_dX11_digestFlow_173 ni_w959)) (ni_muP (ni_eqPush fun _ => rfl)) <|
  ni_row (ni_okP (ni_lmul ni_dX11_digestFlow_176)) (ni_muP (ni_eqJ fun _ _ _ => rfl)) <|
  ni_row (ni_aloadn ni_dX11_digestFlow_177 rfl) ni_muLd <|
  ni_row (ni_get (T := TX11) ni_dX11_digestFlow_178 (by decide) rfl (by decide) ni_uX11 ni_w424) ni_muGet <|
  ni_row (ni_iload ni_dX11_digestFlow_181) ni_muLd <|
  ni_row (ni_iloadn ni_dX11_digestFlow_183 rfl) ni_muLd <|
  ni_row (ni_virt (y := 83) (T := TX4) ni_dX11_digestFlow_184 (by decide) rfl rfl ni_w1020 ni_w733 ni_w734 ni_w29 ni_w735 ⟨by decide +kernel, by decide +kernel, by decide +kernel⟩ (by decide) rfl) (ni_muV (by decide)) <|
  ni_row (ni_okP (ni_i2l ni_dX11_digestFlow_187)) (ni_muP (ni_eqU fun _ _ => rfl)) <|
  ni_row (ni_okP (ni_ladd ni_dX11_digestFlow_188)) (ni_muP (ni_eqJ fun _ _ _ => rfl)) <|
  ni_row (ni_lstore ni_dX11_digestFlow_189 (by decide)) ni_muSt <|
  ni_row (ni_iinc (n := 1) ni_dX11_digestFlow_191 (by decide)) ni_muInc <|
  ni_row (ni_okP (ni_goto ni_dX11_digestFlow_194 (by decide))) (ni_muP ni_eqGo) <|
  ni_row (ni_lload ni_dX11_digestFlow_197) ni_muLd <|
  ni_row (ni_ret ni_dX11_digestFlow_199) ni_muR <|
  ni_row0
end NIP
