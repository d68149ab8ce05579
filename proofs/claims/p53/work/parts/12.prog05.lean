section NIP
variable {xs : List Int32}
def ni_pr84 : List (Nat × ni_S) := [(0, ni_sLd 3 0 1),
  (1, ni_sGet 4 6 4),
  (4, ni_sLd 3 0 5),
  (5, ni_sGet 4 3 8),
  (8, ni_sQld 9),
  (9, ni_sSt 3 5 11),
  (11, ni_sLd 3 5 13),
  (13, ni_sLd 0 1 14),
  (14, ni_sPut 0 0 (.int) 17),
  (17, ni_sLd 3 5 19),
  (19, ni_sLd 0 2 20),
  (20, ni_sPut 0 1 (.int) 23),
  (23, ni_sLd 3 5 25),
  (25, ni_sLd 0 3 26),
  (26, ni_sPut 0 2 (.int) 29),
  (29, ni_sLd 3 5 31),
  (31, ni_sLd 0 4 33),
  (33, ni_sPut 0 3 (.int) 36),
  (36, ni_sLd 3 0 37),
  (37, ni_sP (ni_gDup 38)),
  (38, ni_sGet 4 3 41),
  (41, ni_sP (ni_gPush (.int 1) 42)),
  (42, ni_sP (ni_gI (fun x y => x + y) 43)),
  (43, ni_sPut 4 3 (.int) 46),
  (46, ni_sLd 3 0 47),
  (47, ni_sGet 4 3 50),
  (50, ni_sP (ni_gPush (.int 1) 51)),
  (51, ni_sP (ni_gI (fun x y => x - y) 52)),
  (52, ni_sR (some .int))]
theorem ni_pk84 : ∀ r ∈ ni_pr84, ni_Ok xs yX4_newFlow cX4_newFlow 6 (some .int) [] r.1 r.2 ∧ ni_MU r.2 := ni_row (ni_aloadn ni_dX4_newFlow_0 rfl) ni_muLd <|
  ni_row (ni_get (T := TX4) ni_dX4_newFlow_1 (by decide) rfl (by decide) ni_uX4 ni_w399) ni_muGet <|
  ni_row (ni_aloadn ni_dX4_newFlow_4 rfl) ni_muLd <|
  ni_row (ni_get (T := TX4) ni_dX4_newFlow_5 (by decide) rfl (by decide) ni_uX4 ni_w393) ni_muGet <|
  ni_row (ni_aald ni_dX4_newFlow_8) ni_muQld <|
  ni_row (ni_astore ni_dX4_newFlow_9 (by decide)) ni_muSt <|
  ni_row (ni_aload ni_dX4_newFlow_11) ni_muLd <|
  ni_row (ni_iloadn ni_dX4_newFlow_13 rfl) ni_muLd <|
  ni_row (ni_putA (T := TX0) (ty0 := tyX0) (b := false) (Or.inl rfl) rfl ni_dX4_newFlow_14 (by decide) rfl (by decide) ni_uX0 tyX0_ok nmX0 ni_w100) ni_muPut <|
  ni_row (ni_aload ni_dX4_newFlow_17) ni_muLd <|
  ni_row (ni_iloadn ni_dX4_newFlow_19 rfl) ni_muLd <|
  ni_row (ni_putA (T := TX0) (ty0 := tyX0) (b := false) (Or.inl rfl) rfl ni_dX4_newFlow_20 (by decide) rfl (by decide) ni_uX0 tyX0_ok nmX0 ni_w102) ni_muPut <|
  ni_row (ni_aload ni_dX4_newFlow_23) ni_muLd <|
  ni_row (ni_iloadn ni_dX4_newFlow_25 rfl) ni_muLd <|
  ni_row (ni_putA (T := TX0) (ty0 := tyX0) (b := false) (Or.inl rfl) rfl ni_dX4_newFlow_26 (by decide) rfl (by decide) ni_uX0 tyX0_ok nmX0 ni_w104) ni_muPut <|
  ni_row (ni_aload ni_dX4_newFlow_29) ni_muLd <|
  ni_row (ni_iload ni_dX4_newFlow_31) ni_muLd <|
  ni_row (ni_putA (T := TX0) (ty0 := tyX0) (b := false) (Or.inl rfl) rfl ni_dX4_newFlow_33 (by decide) rfl (by decide) ni_uX0 tyX0_ok nmX0 ni_w107) ni_muPut <|
  ni_row (ni_aloadn ni_dX4_newFlow_36 rfl) ni_muLd <|
  ni_row (ni_okP (ni_dup ni_dX4_newFlow_37)) (ni_muP ni_eqDup) <|
  ni_row (ni_get (T := TX4) ni_dX4_newFlow_38 (by decide) rfl (by decide) ni_uX4 ni_w393) ni_muGet <|
  ni_row (ni_okP (ni_iconst ni_dX4_newFlow_41 (by decide +kernel))) (ni_muP (ni_eqPush fun _ => rfl)) <|
  ni_row (ni_okP (ni_iadd ni_dX4_newFlow_42)) (ni_muP ni_eqI) <|
  ni_row (ni_putA (T := TX4) (ty0 := tyX4) (b := false) (Or.inl rfl) rfl ni_dX4_newFlow_43 (by decide) rfl (by decide) ni_uX4 tyX4_ok nmX4 ni_w393) ni_muPut <|
  ni_row (ni_aloadn ni_dX4_newFlow_46 rfl) ni_muLd <|
  ni_row (ni_get (T := TX4) ni_dX4_newFlow_47 (by decide) rfl (by decide) ni_uX4 ni_w393) ni_muGet <|
  ni_row (ni_okP (ni_iconst ni_dX4_newFlow_50 (by decide +kernel))) (ni_muP (ni_eqPush fun _ => rfl)) <|
  ni_row (ni_okP (ni_isub ni_dX4_newFlow_51)) (ni_muP ni_eqI) <|
  ni_row (ni_ret ni_dX4_newFlow_52) ni_muR <|
  ni_row0
def ni_pr85 : List (Nat × ni_S) := [(0, ni_sLd 3 0 1),
  (1, ni_sGet 4 2 4),
  (4, ni_sSt 0 6 6),
  (6, ni_sLd 3 0 7),
  (7, ni_sP (ni_gDup 8)),
  (8, ni_sGet 4 2 11),
  (11, ni_sP (ni_gPush (.int 1) 12)),
  (12, ni_sP (ni_gI (fun x y => x + y) 13)),
  (13, ni_sPut 4 2 (.int) 16),
  (16, ni_sLd 3 0 17),
  (17, ni_sGet 4 5 20),
  (20, ni_sLd 0 6 22),
  (22, ni_sQld 23),
  (23, ni_sSt 3 7 25),
  (25, ni_sLd 3 7 27),
  (27, ni_sLd 0 1 28),
  (28, ni_sPut 3 0 (.int) 31),
  (31, ni_sLd 3 7 33),
  (33, ni_sLd 0 2 34),
  (34, ni_sPut 3 1 (.int) 37),
  (37, ni_sLd 3 7 39),
  (39, ni_sLd 0 3 40),
  (40, ni_sPut 3 2 (.int) 43),
  (43, ni_sLd 3 7 45),
  (45, ni_sLd 0 4 47),
  (47, ni_sPut 3 3 (.int) 50),
  (50, ni_sLd 3 7 52),
  (52, ni_sLd 0 5 54),
  (54, ni_sPut 3 4 (.int) 57),
  (57, ni_sLd 3 0 58),
  (58, ni_sLd 0 6 60),
  (60, ni_sV 89 1 4 63),
  (63, ni_sLd 0 6 65),
  (65, ni_sR (some .int))]
theorem ni_pk85 : ∀ r ∈ ni_pr85, ni_Ok xs yX4_newLink cX4_newLink 8 (some .int) [] r.1 r.2 ∧ ni_MU r.2 := ni_row (ni_aloadn ni_dX4_newLink_0 rfl) ni_muLd <|
  ni_row (ni_get (T := TX4) ni_dX4_newLink_1 (by decide) rfl (by decide) ni_uX4 ni_w391) ni_muGet <|
  ni_row (ni_istore ni_dX4_newLink_4 (by decide)) ni_muSt <|
  ni_row (ni_aloadn ni_dX4_newLink_6 rfl) ni_muLd <|
  ni_row (ni_okP (ni_dup ni_dX4_newLink_7)) (ni_muP ni_eqDup) <|
  ni_row (ni_get (T := TX4) ni_dX4_newLink_8 (by decide) rfl (by decide) ni_uX4 ni_w391) ni_muGet <|
  ni_row (ni_okP (ni_iconst ni_dX4_newLink_11 (by decide +kernel))) (ni_muP (ni_eqPush fun _ => rfl)) <|
  ni_row (ni_okP (ni_iadd ni_dX4_newLink_12)) (ni_muP ni_eqI) <|
  ni_row (ni_putA (T := TX4) (ty0 := tyX4) (b := false) (Or.inl rfl) rfl ni_dX4_newLink_13 (by decide) rfl (by decide) ni_uX4 tyX4_ok nmX4 ni_w391) ni_muPut <|
  ni_row (ni_aloadn ni_dX4_newLink_16 rfl) ni_muLd <|
  ni_row (ni_get (T := TX4) ni_dX4_newLink_17 (by decide) rfl (by decide) ni_uX4 ni_w397) ni_muGet <|
  ni_row (ni_iload ni_dX4_newLink_20) ni_muLd <|
  ni_row (ni_aald ni_dX4_newLink_22) ni_muQld <|
  ni_row (ni_astore ni_dX4_newLink_23 (by decide)) ni_muSt <|
  ni_row (ni_aload ni_dX4_newLink_25) ni_muLd <|
  ni_row (ni_iloadn ni_dX4_newLink_27 rfl) ni_muLd <|
  ni_row (ni_putA (T := TX3) (ty0 := tyX3) (b := false) (Or.inl rfl) rfl ni_dX4_newLink_28 (by decide) rfl (by decide) ni_uX3 tyX3_ok nmX3 ni_w268) ni_muPut <|
  ni_row (ni_aload ni_dX4_newLink_31) ni_muLd <|
  ni_row (ni_iloadn ni_dX4_newLink_33 rfl) ni_muLd <|
  ni_row (ni_putA (T := TX3) (ty0 := tyX3) (b := false) (Or.inl rfl) rfl ni_dX4_newLink_34 (by decide) rfl (by decide) ni_uX3 tyX3_ok nmX3 ni_w270) ni_muPut <|
  ni_row (ni_aload ni_dX4_newLink_37) ni_muLd <|
  ni_row (ni_iloadn ni_dX4_newLink_39 rfl) ni_muLd <|
  ni_row (ni_putA (T := TX3) (ty0 := tyX3) (b := false) (Or.inl rfl) rfl ni_dX4_newLink_40 (by decide) rfl (by decide) ni_uX3 tyX3_ok nmX3 ni_w271) ni_muPut <|
  ni_row (ni_aload ni_dX4_newLink_43) ni_muLd <|
  ni_row (ni_iload ni_dX4_newLink_45) ni_muLd <|
  ni_row (ni_putA (T := TX3) (ty0 := tyX3) (b := false) (Or.inl rfl) rfl ni_dX4_newLink_47 (by decide) rfl (by decide) ni_uX3 tyX3_ok nmX3 ni_w273) ni_muPut <|
  ni_row (ni_aload ni_dX4_newLink_50) ni_muLd <|
  ni_row (ni_iload ni_dX4_newLink_52) ni_muLd <|
  ni_row (ni_putA (T := TX3) (ty0 := tyX3) (b := false) (Or.inl rfl) rfl ni_dX4_newLink_54 (by decide) rfl (by decide) ni_uX3 tyX3_ok nmX3 ni_w275) ni_muPut <|
  ni_row (ni_aloadn ni_dX4_newLink_57 rfl) ni_muLd <|
  ni_row (ni_iload ni_dX4_newLink_58) ni_muLd <|
  ni_row (ni_virt (y := 89) (T := TX4) ni_dX4_newLink_60 (by decide) rfl rfl ni_w1053 ni_w574 ni_w575 ni_w29 ni_w576 ⟨by decide +kernel, by decide +kernel, by decide +kernel⟩ (by decide) rfl) (ni_muV (by decide)) <|
  ni_row (ni_iload ni_dX4_newLink_63) ni_muLd <|
  ni_row (ni_ret ni_dX4_newLink_65) ni_muR <|
  ni_row0
def ni_pr86 : List (Nat × ni_S) := [(0, ni_sLd 3 0 1),
  (1, ni_sGet 4 7 4),
  (4, ni_sLd 0 1 5),
  (5, ni_sLd 0 2 6),
  (6, ni_sP (ni_gPush (.int (-1)) 7)),
  (7, ni_sV 127 3 6 10),
  (10, ni_sSt 0 3 11),
  (11, ni_sLd 3 0 12),
  (12, ni_sLd 0 1 13),
  (13, ni_sV 97 1 4 16),
  (16, ni_sLd 0 3 17),
  (17, ni_sR (some .int))]
theorem ni_pk86 : ∀ r ∈ ni_pr86, ni_Ok xs yX4_newNetwork cX4_newNetwork 4 (some .int) [] r.1 r.2 ∧ ni_MU r.2 := ni_row (ni_aloadn ni_dX4_newNetwork_0 rfl) ni_muLd <|
  ni_row (ni_get (T := TX4) ni_dX4_newNetwork_1 (by decide) rfl (by decide) ni_uX4 ni_w401) ni_muGet <|
  ni_row (ni_iloadn ni_dX4_newNetwork_4 rfl) ni_muLd <|
  ni_row (ni_iloadn ni_dX4_newNetwork_5 rfl) ni_muLd <|
  ni_row (ni_okP (ni_iconst ni_dX4_newNetwork_6 (by decide +kernel))) (ni_muP (ni_eqPush fun _ => rfl)) <|
  ni_row (ni_virt (y := 127) (T := TX8) ni_dX4_newNetwork_7 (by decide) rfl rfl ni_w653 ni_w654 ni_w655 ni_w30 ni_w656 ⟨by decide +kernel, by decide +kernel, by decide +kernel⟩ (by decide) rfl) (ni_muV (by decide)) <|
  ni_row (ni_istoren ni_dX4_newNetwork_10 rfl (by decide)) ni_muSt <|
  ni_row (ni_aloadn ni_dX4_newNetwork_11 rfl) ni_muLd <|
  ni_row (ni_iloadn ni_dX4_newNetwork_12 rfl) ni_muLd <|
  ni_row (ni_virt (y := 97) (T := TX4) ni_dX4_newNetwork_13 (by decide) rfl rfl ni_w533 ni_w535 ni_w2 ni_w29 ni_w536 ⟨by decide +kernel, by decide +kernel, by decide +kernel⟩ (by decide) rfl) (ni_muV (by decide)) <|
  ni_row (ni_iloadn ni_dX4_newNetwork_16 rfl) ni_muLd <|
  ni_row (ni_ret ni_dX4_newNetwork_17) ni_muR <|
  ni_row0
def ni_pr87 : List (Nat × ni_S) := [(0, ni_sLd 3 0 1),
  (1, ni_sP (ni_gDup 2)),
  (2, ni_sGet 4 1 5),
  (5, ni_sP (ni_gPush (.int 1) 6)),
  (6, ni_sP (ni_gI (fun x y => x + y) 7)),
  (7, ni_sPut 4 1 (.int) 10),
  (10, ni_sLd 3 0 11),
  (11, ni_sGet 4 1 14),
  (14, ni_sP (ni_gPush (.int 1) 15)),
  (15, ni_sP (ni_gI (fun x y => x - y) 16)),
  (16, ni_sR (some .int))]
theorem ni_pk87 : ∀ r ∈ ni_pr87, ni_Ok xs yX4_newRouter cX4_newRouter 1 (some .int) [] r.1 r.2 ∧ ni_MU r.2 := ni_row (ni_aloadn ni_dX4_newRouter_0 rfl) ni_muLd <|
  ni_row (ni_okP (ni_dup ni_dX4_newRouter_1)) (ni_muP ni_eqDup) <|
  ni_row (ni_get (T := TX4) ni_dX4_newRouter_2 (by decide) rfl (by decide) ni_uX4 ni_w389) ni_muGet <|
  ni_row (ni_okP (ni_iconst ni_dX4_newRouter_5 (by decide +kernel))) (ni_muP (ni_eqPush fun _ => rfl)) <|
  ni_row (ni_okP (ni_iadd ni_dX4_newRouter_6)) (ni_muP ni_eqI) <|
  ni_row (ni_putA (T := TX4) (ty0 := tyX4) (b := false) (Or.inl rfl) rfl ni_dX4_newRouter_7 (by decide) rfl (by decide) ni_uX4 tyX4_ok nmX4 ni_w389) ni_muPut <|
  ni_row (ni_aloadn ni_dX4_newRouter_10 rfl) ni_muLd <|
  ni_row (ni_get (T := TX4) ni_dX4_newRouter_11 (by decide) rfl (by decide) ni_uX4 ni_w389) ni_muGet <|
  ni_row (ni_okP (ni_iconst ni_dX4_newRouter_14 (by decide +kernel))) (ni_muP (ni_eqPush fun _ => rfl)) <|
  ni_row (ni_okP (ni_isub ni_dX4_newRouter_15)) (ni_muP ni_eqI) <|
  ni_row (ni_ret ni_dX4_newRouter_16) ni_muR <|
  ni_row0
def ni_pr88 : List (Nat × ni_S) := [(0, ni_sLd 3 0 1),
  (1, ni_sGet 4 4 4),
  (4, ni_sLd 0 1 5),
  (5, ni_sQld 6),
  (6, ni_sP (ni_gPush (.int 1) 7)),
  (7, ni_sPut 7 5 (.boolean) 10),
  (10, ni_sLd 3 0 11),
  (11, ni_sGet 4 8 14),
  (14, ni_sLd 0 1 15),
  (15, ni_sLd 0 2 16),
  (16, ni_sLd 0 3 17),
  (17, ni_sV 127 3 6 20),
  (20, ni_sR (some .int))]
theorem ni_pk88 : ∀ r ∈ ni_pr88, ni_Ok xs yX4_newStatic cX4_newStatic 4 (some .int) [] r.1 r.2 ∧ ni_MU r.2 := ni_row (ni_aloadn ni_dX4_newStatic_0 rfl) ni_muLd <|
  ni_row (ni_get (T := TX4) ni_dX4_newStatic_1 (by decide) rfl (by decide) ni_uX4 ni_w395) ni_muGet <|
  ni_row (ni_iloadn ni_dX4_newStatic_4 rfl) ni_muLd <|
  ni_row (ni_aald ni_dX4_newStatic_5) ni_muQld <|
  ni_row (ni_okP (ni_iconst ni_dX4_newStatic_6 (by decide +kernel))) (ni_muP (ni_eqPush fun _ => rfl)) <|
  ni_row (ni_putA (T := TX9) (ty0 := tyX9) (b := false) (Or.inl rfl) rfl ni_dX4_newStatic_7 (by decide) rfl (by decide) ni_uX9 tyX9_ok nmX9 ni_w373) ni_muPut <|
  ni_row (ni_aloadn ni_dX4_newStatic_10 rfl) ni_muLd <|
  ni_row (ni_get (T := TX4) ni_dX4_newStatic_11 (by decide) rfl (by decide) ni_uX4 ni_w403) ni_muGet <|
  ni_row (ni_iloadn ni_dX4_newStatic_14 rfl) ni_muLd <|
  ni_row (ni_iloadn ni_dX4_newStatic_15 rfl) ni_muLd <|
  ni_row (ni_iloadn ni_dX4_newStatic_16 rfl) ni_muLd <|
  ni_row (ni_virt (y := 127) (T := TX8) ni_dX4_newStatic_17 (by decide) rfl rfl ni_w653 ni_w654 ni_w655 ni_w30 ni_w656 ⟨by decide +kernel, by decide +kernel, by decide +kernel⟩ (by decide) rfl) (ni_muV (by decide)) <|
  ni_row (ni_ret ni_dX4_newStatic_20) ni_muR <|
  ni_row0
def ni_pr89 : List (Nat × ni_S) := [(0, ni_sLd 3 0 1),
  (1, ni_sGet 4 5 4),
  (4, ni_sLd 0 1 5),
  (5, ni_sQld 6),
  (6, ni_sSt 3 2 7),
  (7, ni_sLd 3 2 8),
  (8, ni_sP (ni_gPush (.int 1) 9)),
  (9, ni_sPut 3 5 (.boolean) 12),
  (12, ni_sLd 3 0 13),
  (13, ni_sLd 3 2 14),
  (14, ni_sGet 3 0 17),
  (17, ni_sV 97 1 4 20),
  (20, ni_sLd 3 0 21),
  (21, ni_sLd 3 2 22),
  (22, ni_sGet 3 1 25),
  (25, ni_sV 97 1 4 28),
  (28, ni_sLd 3 0 29),
  (29, ni_sLd 3 2 30),
  (30, ni_sGet 3 0 33),
  (33, ni_sLd 3 2 34),
  (34, ni_sV 94 2 4 37),
  (37, ni_sLd 3 0 38),
  (38, ni_sLd 3 2 39),
  (39, ni_sGet 3 1 42),
  (42, ni_sLd 3 2 43),
  (43, ni_sV 94 2 4 46),
  (46, ni_sR (none))]
theorem ni_pk89 : ∀ r ∈ ni_pr89, ni_Ok xs yX4_raise cX4_raise 3 (none) [] r.1 r.2 ∧ ni_MU r.2 := ni_row (ni_aloadn ni_dX4_raise_0 rfl) ni_muLd <|
  ni_row (ni_get (T := TX4) ni_dX4_raise_1 (by decide) rfl (by decide) ni_uX4 ni_w397) ni_muGet <|
  ni_row (ni_iloadn ni_dX4_raise_4 rfl) ni_muLd <|
  ni_row (ni_aald ni_dX4_raise_5) ni_muQld <|
  ni_row (ni_astoren ni_dX4_raise_6 rfl (by decide)) ni_muSt <|
  ni_row (ni_aloadn ni_dX4_raise_7 rfl) ni_muLd <|
  ni_row (ni_okP (ni_iconst ni_dX4_raise_8 (by decide +kernel))) (ni_muP (ni_eqPush fun _ => rfl)) <|
  ni_row (ni_putA (T := TX3) (ty0 := tyX3) (b := false) (Or.inl rfl) rfl ni_dX4_raise_9 (by decide) rfl (by decide) ni_uX3 tyX3_ok nmX3 ni_w277) ni_muPut <|
  ni_row (ni_aloadn ni_dX4_raise_12 rfl) ni_muLd <|
  ni_row (ni_aloadn ni_dX4_raise_13 rfl) ni_muLd <|
  ni_row (ni_get (T := TX3) ni_dX4_raise_14 (by decide) rfl (by decide) ni_uX3 ni_w268) ni_muGet <|
  ni_row (ni_virt (y := 97) (T := TX4) ni_dX4_raise_17 (by decide) rfl rfl ni_w533 ni_w535 ni_w2 ni_w29 ni_w536 ⟨by decide +kernel, by decide +kernel, by decide +kernel⟩ (by decide) rfl) (ni_muV (by decide)) <|
  ni_row (ni_aloadn ni_dX4_raise_20 rfl) ni_muLd <|
  ni_row (ni_aloadn ni_dX4_raise_21 rfl) ni_muLd <|
  ni_row (ni_get (T := TX3) ni_dX4_raise_22 (by decide) rfl (by decide) ni_uX3 ni_w270) ni_muGet <|
  ni_row (ni_virt (y := 97) (T := TX4) ni_dX4_raise_25 (by decide) rfl rfl ni_w533 ni_w535 ni_w2 ni_w29 ni_w536 ⟨by decide +kernel, by decide +kernel, by decide +kernel⟩ (by decide) rfl) (ni_muV (by decide)) <|
  ni_row (ni_aloadn ni_dX4_raise_28 rfl) ni_muLd <|
  ni_row (ni_aloadn ni_dX4_raise_29 rfl) ni_muLd <|
  ni_row (ni_get (T := TX3) ni_dX4_raise_30 (by decide) rfl (by decide) ni_uX3 ni_w268) ni_muGet <|
  ni_row (ni_aloadn ni_dX4_raise_33 rfl) ni_muLd <|
  ni_row (ni_virt (y := 94) (T := TX4) ni_dX4_raise_34 (by decide) rfl rfl ni_w577 ni_w579 ni_w6 ni_w29 ni_w580 ⟨by decide +kernel, by decide +kernel, by decide +kernel⟩ (by decide) rfl) (ni_muV (by decide)) <|
  ni_row (ni_aloadn ni_dX4_raise_37 rfl) ni_muLd <|
  ni_row (ni_aloadn ni_dX4_raise_38 rfl) ni_muLd <|
  ni_row (ni_get (T := TX3) ni_dX4_raise_39 (by decide) rfl (by decide) ni_uX3 ni_w270) ni_muGet <|
  ni_row (ni_aloadn ni_dX4_raise_42 rfl) ni_muLd <|
  ni_row (ni_virt (y := 94) (T := TX4) ni_dX4_raise_43 (by decide) rfl rfl ni_w577 ni_w579 ni_w6 ni_w29 ni_w580 ⟨by decide +kernel, by decide +kernel, by decide +kernel⟩ (by decide) rfl) (ni_muV (by decide)) <|
  ni_row (ni_ret ni_dX4_raise_46) ni_muR <|
  ni_row0
def ni_pr90 : List (Nat × ni_S) := [(0, ni_sLd 3 0 1),
  (1, ni_sGet 4 6 4),
  (4, ni_sLd 0 1 5),
  (5, ni_sQld 6),
  (6, ni_sSt 3 2 7),
  (7, ni_sLd 3 2 8),
  (8, ni_sV 55 0 0 11),
  (11, ni_sLd 3 2 12),
  (12, ni_sLd 3 0 13),
  (13, ni_sGet 4 0 16),
  (16, ni_sV 54 1 0 19),
  (19, ni_sSt 0 3 20),
  (20, ni_sLd 0 3 21),
  (21, ni_sP (ni_gPush (.int (-1)) 22)),
  (22, ni_sP (ni_gIc (fun x y => decide (x = y)) 76 25)),
  (25, ni_sLd 0 1 26),
  (26, ni_sLd 0 3 27),
  (27, ni_sLd 3 2 28),
  (28, ni_sGet 0 2 31),
  (31, ni_sLd 3 2 32),
  (32, ni_sGet 0 3 35),
  (35, ni_sC 102 4 38),
  (38, ni_sSt 0 4 40),
  (40, ni_sLd 3 2 41),
  (41, ni_sP (ni_gDup 42)),
  (42, ni_sGet 0 12 45),
  (45, ni_sP (ni_gPush (.int 1) 46)),
  (46, ni_sP (ni_gI (fun x y => x + y) 47)),
  (47, ni_sPut 0 12 (.int) 50),
  (50, ni_sLd 3 2 51),
  (51, ni_sV 56 0 0 54),
  (54, ni_sP (ni_gIf (fun x => decide (x = 0)) 66 57)),
  (57, ni_sLd 3 2 58),
  (58, ni_sLd 0 4 60),
  (60, ni_sV 58 1 0 63),
  (63, ni_sP (ni_gGo 76)),
  (66, ni_sLd 3 0 67),
  (67, ni_sLd 3 2 68),
  (68, ni_sGet 0 0 71),
  (71, ni_sLd 0 4 73),
  (73, ni_sV 79 2 4 76),
  (76, ni_sP (ni_gPush (.int 0) 77)),
  (77, ni_sSt 0 4 79),
  (79, ni_sLd 0 4 81),
  (81, ni_sP (ni_gPush (.int 10) 83)),
  (83, ni_sP (ni_gIc (fun x y => decide (y ≤ x)) 104 86)),
  (86, ni_sLd 3 0 87),
  (87, ni_sLd 3 2 88),
  (88, ni_sGet 0 0 91),
  (91, ni_sLd 3 2 92),
  (92, ni_sV 57 0 0 95),
  (95, ni_sV 79 2 4 98),
  (98, ni_sInc 4 (1) 101),
  (101, ni_sP (ni_gGo 79)),
  (104, ni_sR (none))]
theorem ni_pk90 : ∀ r ∈ ni_pr90, ni_Ok xs yX4_runFlow cX4_runFlow 5 (none) [] r.1 r.2 ∧ ni_MU r.2 := ni_row (ni_aloadn ni_dX4_runFlow_0 rfl) ni_muLd <|
  ni_row (ni_get (T := TX4) ni_dX4_runFlow_1 (by decide) rfl (by decide) ni_uX4 ni_w399) ni_muGet <|
  ni_row (ni_iloadn ni_dX4_runFlow_4 rfl) ni_muLd <|
  ni_row (ni_aald ni_dX4_runFlow_5) ni_muQld <|
  ni_row (ni_astoren ni_dX4_runFlow_6 rfl (by decide)) ni_muSt <|
  ni_row (ni_aloadn ni_dX4_runFlow_7 rfl) ni_muLd <|
  ni_row (ni_virt (y := 55) (T := TX0) ni_dX4_runFlow_8 (by decide) rfl rfl ni_w791 ni_w792 ni_w793 ni_w31 ni_w794 ⟨by decide +kernel, by decide +kernel, by decide +kernel⟩ (by decide) rfl) (ni_muV (by decide)) <|
  ni_row (ni_aloadn ni_dX4_runFlow_11 rfl) ni_muLd <|
  ni_row (ni_aloadn ni_dX4_runFlow_12 rfl) ni_muLd <|
  ni_row (ni_get (T := TX4) ni_dX4_runFlow_13 (by decide) rfl (by decide) ni_uX4 ni_w388) ni_muGet <|
  ni_row (ni_virt (y := 54) (T := TX0) ni_dX4_runFlow_16 (by decide) rfl rfl ni_w798 ni_w799 ni_w800 ni_w31 ni_w801 ⟨by decide +kernel, by decide +kernel, by decide +kernel⟩ (by decide) rfl) (ni_muV (by decide)) <|
  ni_row (ni_istoren ni_dX4_runFlow_19 rfl (by decide)) ni_muSt <|
  ni_row (ni_iloadn ni_dX4_runFlow_20 rfl) ni_muLd <|
  ni_row (ni_okP (ni_iconst ni_dX4_runFlow_21 (by decide +kernel))) (ni_muP (ni_eqPush fun _ => rfl)) <|
  ni_row (ni_okP (ni_ic_eq ni_dX4_runFlow_22 (by decide))) (ni_muP ni_eqIc) <|
  ni_row (ni_iloadn ni_dX4_runFlow_25 rfl) ni_muLd <|
  ni_row (ni_iloadn ni_dX4_runFlow_26 rfl) ni_muLd <|
  ni_row (ni_aloadn ni_dX4_runFlow_27 rfl) ni_muLd <|
  ni_row (ni_get (T := TX0) ni_dX4_runFlow_28 (by decide) rfl (by decide) ni_uX0 ni_w104) ni_muGet <|
  ni_row (ni_aloadn ni_dX4_runFlow_31 rfl) ni_muLd <|
  ni_row (ni_get (T := TX0) ni_dX4_runFlow_32 (by decide) rfl (by decide) ni_uX0 ni_w107) ni_muGet <|
  ni_row (ni_stat (y := 102) ni_dX4_runFlow_35 ni_w802 ni_w803 ni_w45 ni_w804 ⟨by decide +kernel, by decide +kernel, by decide +kernel⟩ (by decide) rfl) ni_muC <|
  ni_row (ni_istore ni_dX4_runFlow_38 (by decide)) ni_muSt <|
  ni_row (ni_aloadn ni_dX4_runFlow_40 rfl) ni_muLd <|
  ni_row (ni_okP (ni_dup ni_dX4_runFlow_41)) (ni_muP ni_eqDup) <|
  ni_row (ni_get (T := TX0) ni_dX4_runFlow_42 (by decide) rfl (by decide) ni_uX0 ni_w124) ni_muGet <|
  ni_row (ni_okP (ni_iconst ni_dX4_runFlow_45 (by decide +kernel))) (ni_muP (ni_eqPush fun _ => rfl)) <|
  ni_row (ni_okP (ni_iadd ni_dX4_runFlow_46)) (ni_muP ni_eqI) <|
  ni_row (ni_putA (T := TX0) (ty0 := tyX0) (b := false) (Or.inl rfl) rfl ni_dX4_runFlow_47 (by decide) rfl (by decide) ni_uX0 tyX0_ok nmX0 ni_w124) ni_muPut <|
  ni_row (ni_aloadn ni_dX4_runFlow_50 rfl) ni_muLd <|
  ni_row (ni_virt (y := 56) (T := TX0) ni_dX4_runFlow_51 (by decide) rfl rfl ni_w806 ni_w807 ni_w808 ni_w31 ni_w809 ⟨by decide +kernel, by decide +kernel, by decide +kernel⟩ (by decide) rfl) (ni_muV (by decide)) <|
  ni_row (ni_okP (ni_if_eq ni_dX4_runFlow_54 (by decide))) (ni_muP ni_eqIf) <|
  ni_row (ni_aloadn ni_dX4_runFlow_57 rfl) ni_muLd <|
  ni_row (ni_iload ni_dX4_runFlow_58) ni_muLd <|
  ni_row (ni_virt (y := 58) (T := TX0) ni_dX4_runFlow_60 (by decide) rfl rfl ni_w810 ni_w811 ni_w812 ni_w31 ni_w813 ⟨by decide +kernel, by decide +kernel, by decide +kernel⟩ (by decide) rfl) (ni_muV (by decide)) <|
  ni_row (ni_okP (ni_goto ni_dX4_runFlow_63 (by decide))) (ni_muP ni_eqGo) <|
  ni_row (ni_aloadn ni_dX4_runFlow_66 rfl) ni_muLd <|
  ni_row (ni_aloadn ni_dX4_runFlow_67 rfl) ni_muLd <|
  ni_row (ni_get (T := TX0) ni_dX4_runFlow_68 (by decide) rfl (by decide) ni_uX0 ni_w100) ni_muGet <|
  ni_row (ni_iload ni_dX4_runFlow_71) ni_muLd <|
  ni_row (ni_virt (y := 79) (T := TX4) ni_dX4_runFlow_73 (by decide) rfl rfl ni_w727 ni_w729 ni_w11 ni_w29 ni_w730 ⟨by decide +kernel, by decide +kernel, by decide +kernel⟩ (by decide) rfl) (ni_muV (by decide)) <|
  ni_row (ni_okP (ni_iconst ni_dX4_runFlow_76 (by decide +kernel))) (ni_muP (ni_eqPush fun _ => rfl)) <|
  ni_row (ni_istore ni_dX4_runFlow_77 (by decide)) ni_muSt <|
  ni_row (ni_iload ni_dX4_runFlow_79) ni_muLd <|
  ni_row (ni_okP (ni_bipush ni_dX4_runFlow_81 (by decide +kernel))) (ni_muP (ni_eqPush fun _ => rfl)) <|
  ni_row (ni_okP (ni_ic_ge ni_dX4_runFlow_83 (by decide))) (ni_muP ni_eqIc) <|
  ni_row (ni_aloadn ni_dX4_runFlow_86 rfl) ni_muLd <|
  ni_row (ni_aloadn ni_dX4_runFlow_87 rfl) ni_muLd <|
  ni_row (ni_get (T := TX0) ni_dX4_runFlow_88 (by decide) rfl (by decide) ni_uX0 ni_w100) ni_muGet <|
  ni_row (ni_aloadn ni_dX4_runFlow_91 rfl) ni_muLd <|
  ni_row (ni_virt (y := 57) (T := TX0) ni_dX4_runFlow_92 (by decide) rfl rfl ni_w814 ni_w815 ni_w816 ni_w31 ni_w817 ⟨by decide +kernel, by decide +kernel, by decide +kernel⟩ (by decide) rfl) (ni_muV (by decide)) <|
  ni_row (ni_virt (y := 79) (T := TX4) ni_dX4_runFlow_95 (by decide) rfl rfl ni_w727 ni_w729 ni_w11 ni_w29 ni_w730 ⟨by decide +kernel, by decide +kernel, by decide +kernel⟩ (by decide) rfl) (ni_muV (by decide)) <|
  ni_row (ni_iinc (n := 1) ni_dX4_runFlow_98 (by decide)) ni_muInc <|
  ni_row (ni_okP (ni_goto ni_dX4_runFlow_101 (by decide))) (ni_muP ni_eqGo) <|
  ni_row (ni_ret ni_dX4_runFlow_104) ni_muR <|
  ni_row0
def ni_pr91 : List (Nat × ni_S) := [(0, ni_sLd 0 2 1),
  (1, ni_sC 100 1 4),
  (4, ni_sP (ni_gPush (.int 1) 5)),
  (5, ni_sP (ni_gIc (fun x y => decide (y < x)) 10 8)),
  (8, ni_sP (ni_gPush (.int 2) 9)),
  (9, ni_sR (some .int)),
  (10, ni_sLd 3 3 11),
  (11, ni_sGet 3 5 14),
  (14, ni_sP (ni_gIf (fun x => decide (x = 0)) 32 17)),
  (17, ni_sLd 3 3 18),
  (18, ni_sLd 0 1 19),
  (19, ni_sV 73 1 3 22),
  (22, ni_sLd 0 2 23),
  (23, ni_sC 103 1 26),
  (26, ni_sV 106 1 5 29),
  (29, ni_sP (ni_gGo 33)),
  (32, ni_sP (ni_gPush (.int 3) 33)),
  (33, ni_sR (some .int))]
theorem ni_pk91 : ∀ r ∈ ni_pr91, ni_Ok xs yX4_sendOn cX4_sendOn 4 (some .int) [] r.1 r.2 ∧ ni_MU r.2 := ni_row (ni_iloadn ni_dX4_sendOn_0 rfl) ni_muLd <|
  ni_row (ni_stat (y := 100) ni_dX4_sendOn_1 ni_w773 ni_w774 ni_w45 ni_w775 ⟨by decide +kernel, by decide +kernel, by decide +kernel⟩ (by decide) rfl) ni_muC <|
  ni_row (ni_okP (ni_iconst ni_dX4_sendOn_4 (by decide +kernel))) (ni_muP (ni_eqPush fun _ => rfl)) <|
  ni_row (ni_okP (ni_ic_gt ni_dX4_sendOn_5 (by decide))) (ni_muP ni_eqIc) <|
  ni_row (ni_okP (ni_iconst ni_dX4_sendOn_8 (by decide +kernel))) (ni_muP (ni_eqPush fun _ => rfl)) <|
  ni_row (ni_ret ni_dX4_sendOn_9) ni_muR <|
  ni_row (ni_aloadn ni_dX4_sendOn_10 rfl) ni_muLd <|
  ni_row (ni_get (T := TX3) ni_dX4_sendOn_11 (by decide) rfl (by decide) ni_uX3 ni_w277) ni_muGet <|
  ni_row (ni_okP (ni_if_eq ni_dX4_sendOn_14 (by decide))) (ni_muP ni_eqIf) <|
  ni_row (ni_aloadn ni_dX4_sendOn_17 rfl) ni_muLd <|
  ni_row (ni_iloadn ni_dX4_sendOn_18 rfl) ni_muLd <|
  ni_row (ni_virt (y := 73) (T := TX3) ni_dX4_sendOn_19 (by decide) rfl rfl ni_w557 ni_w558 ni_w559 ni_w32 ni_w560 ⟨by decide +kernel, by decide +kernel, by decide +kernel⟩ (by decide) rfl) (ni_muV (by decide)) <|
  ni_row (ni_iloadn ni_dX4_sendOn_22 rfl) ni_muLd <|
  ni_row (ni_stat (y := 103) ni_dX4_sendOn_23 ni_w776 ni_w777 ni_w45 ni_w778 ⟨by decide +kernel, by decide +kernel, by decide +kernel⟩ (by decide) rfl) ni_muC <|
  ni_row (ni_virt (y := 106) (T := TX6) ni_dX4_sendOn_26 (by decide) rfl rfl ni_w780 ni_w781 ni_w782 ni_w33 ni_w783 ⟨by decide +kernel, by decide +kernel, by decide +kernel⟩ (by decide) rfl) (ni_muV (by decide)) <|
  ni_row (ni_okP (ni_goto ni_dX4_sendOn_29 (by decide))) (ni_muP ni_eqGo) <|
  ni_row (ni_okP (ni_iconst ni_dX4_sendOn_32 (by decide +kernel))) (ni_muP (ni_eqPush fun _ => rfl)) <|
  ni_row (ni_ret ni_dX4_sendOn_33) ni_muR <|
  ni_row0
def ni_pr92 : List (Nat × ni_S) := [(0, ni_sLd 3 0 1),
  (1, ni_sGet 4 4 4),
  (4, ni_sLd 0 3 5),
  (5, ni_sQld 6),
  (6, ni_sSt 3 4 8),
  (8, ni_sLd 3 2 9),
  (9, ni_sLd 3 0 10),
  (10, ni_sGet 4 0 13),
  (13, ni_sV 63 1 2 16),
  (16, ni_sSt 0 5 18),
  (18, ni_sP (ni_gPush (.int 0) 19)),
  (19, ni_sSt 0 6 21),
  (21, ni_sLd 0 6 23),
  (23, ni_sLd 0 5 25),
  (25, ni_sP (ni_gIc (fun x y => decide (y ≤ x)) 80 28)),
  (28, ni_sLd 3 2 29),
  (29, ni_sGet 2 0 32),
  (32, ni_sLd 0 6 34),
  (34, ni_sQld 35),
  (35, ni_sSt 3 7 37),
  (37, ni_sLd 3 7 39),
  (39, ni_sGet 1 1 42),
  (42, ni_sLd 3 4 44),
  (44, ni_sGet 7 1 47),
  (47, ni_sLd 3 7 49),
  (49, ni_sGet 1 0 52),
  (52, ni_sQld 53),
  (53, ni_sGet 1 1 56),
  (56, ni_sP (ni_gIc (fun x y => decide (x ≤ y)) 74 59)),
  (59, ni_sLd 3 4 61),
  (61, ni_sLd 3 7 63),
  (63, ni_sV 137 1 7 66),
  (66, ni_sLd 3 0 67),
  (67, ni_sLd 0 3 68),
  (68, ni_sLd 3 7 70),
  (70, ni_sLd 0 1 71),
  (71, ni_sV 95 3 4 74),
  (74, ni_sInc 6 (1) 77),
  (77, ni_sP (ni_gGo 21)),
  (80, ni_sLd 3 2 81),
  (81, ni_sLd 0 5 83),
  (83, ni_sV 67 1 2 86),
  (86, ni_sR (none))]
theorem ni_pk92 : ∀ r ∈ ni_pr92, ni_Ok xs yX4_takeLetters cX4_takeLetters 8 (none) [] r.1 r.2 ∧ ni_MU r.2 := ni_row (ni_aloadn ni_dX4_takeLetters_0 rfl) ni_muLd <|
  ni_row (ni_get (T := TX4) ni_dX4_takeLetters_1 (by decide) rfl (by decide) ni_uX4 ni_w395) ni_muGet <|
  ni_row (ni_iloadn ni_dX4_takeLetters_4 rfl) ni_muLd <|
  ni_row (ni_aald ni_dX4_takeLetters_5) ni_muQld <|
  ni_row (ni_astore ni_dX4_takeLetters_6 (by decide)) ni_muSt <|
  ni_row (ni_aloadn ni_dX4_takeLetters_8 rfl) ni_muLd <|
  ni_row (ni_aloadn ni_dX4_takeLetters_9 rfl) ni_muLd <|
  ni_row (ni_get (T := TX4) ni_dX4_takeLetters_10 (by decide) rfl (by decide) ni_uX4 ni_w388) ni_muGet <|
  ni_row (ni_virt (y := 63) (T := TX2) ni_dX4_takeLetters_13 (by decide) rfl rfl ni_w718 ni_w719 ni_w720 ni_w34 ni_w721 ⟨by decide +kernel, by decide +kernel, by decide +kernel⟩ (by decide) rfl) (ni_muV (by decide)) <|
  ni_row (ni_istore ni_dX4_takeLetters_16 (by decide)) ni_muSt <|
  ni_row (ni_okP (ni_iconst ni_dX4_takeLetters_18 (by decide +kernel))) (ni_muP (ni_eqPush fun _ => rfl)) <|
  ni_row (ni_istore ni_dX4_takeLetters_19 (by decide)) ni_muSt <|
  ni_row (ni_iload ni_dX4_takeLetters_21) ni_muLd <|
  ni_row (ni_iload ni_dX4_takeLetters_23) ni_muLd <|
  ni_row (ni_okP (ni_ic_ge ni_dX4_takeLetters_25 (by decide))) (ni_muP ni_eqIc) <|
  ni_row (ni_aloadn ni_dX4_takeLetters_28 rfl) ni_muLd <|
  ni_row (ni_get (T := TX2) ni_dX4_takeLetters_29 (by decide) rfl (by decide) ni_uX2 ni_w198) ni_muGet <|
  ni_row (ni_iload ni_dX4_takeLetters_32) ni_muLd <|
  ni_row (ni_aald ni_dX4_takeLetters_34) ni_muQld <|
  ni_row (ni_astore ni_dX4_takeLetters_35 (by decide)) ni_muSt <|
  ni_row (ni_aload ni_dX4_takeLetters_37) ni_muLd <|
  ni_row (ni_get (T := TX1) ni_dX4_takeLetters_39 (by decide) rfl (by decide) ni_uX1 ni_w315) ni_muGet <|
  ni_row (ni_aload ni_dX4_takeLetters_42) ni_muLd <|
  ni_row (ni_get (T := TX9) ni_dX4_takeLetters_44 (by decide) rfl (by decide) ni_uX9 ni_w363) ni_muGet <|
  ni_row (ni_aload ni_dX4_takeLetters_47) ni_muLd <|
  ni_row (ni_get (T := TX1) ni_dX4_takeLetters_49 (by decide) rfl (by decide) ni_uX1 ni_w313) ni_muGet <|
  ni_row (ni_aald ni_dX4_takeLetters_52) ni_muQld <|
  ni_row (ni_get (T := TX1) ni_dX4_takeLetters_53 (by decide) rfl (by decide) ni_uX1 ni_w315) ni_muGet <|
  ni_row (ni_okP (ni_ic_le ni_dX4_takeLetters_56 (by decide))) (ni_muP ni_eqIc) <|
  ni_row (ni_aload ni_dX4_takeLetters_59) ni_muLd <|
  ni_row (ni_aload ni_dX4_takeLetters_61) ni_muLd <|
  ni_row (ni_virt (y := 137) (T := TX9) ni_dX4_takeLetters_63 (by decide) rfl rfl ni_w545 ni_w546 ni_w547 ni_w35 ni_w548 ⟨by decide +kernel, by decide +kernel, by decide +kernel⟩ (by decide) rfl) (ni_muV (by decide)) <|
  ni_row (ni_aloadn ni_dX4_takeLetters_66 rfl) ni_muLd <|
  ni_row (ni_iloadn ni_dX4_takeLetters_67 rfl) ni_muLd <|
  ni_row (ni_aload ni_dX4_takeLetters_68) ni_muLd <|
  ni_row (ni_iloadn ni_dX4_takeLetters_70 rfl) ni_muLd <|
  ni_row (ni_virt (y := 95) (T := TX4) ni_dX4_takeLetters_71 (by decide) rfl rfl ni_w549 ni_w551 ni_w3 ni_w29 ni_w552 ⟨by decide +kernel, by decide +kernel, by decide +kernel⟩ (by decide) rfl) (ni_muV (by decide)) <|
  ni_row (ni_iinc (n := 1) ni_dX4_takeLetters_74 (by decide)) ni_muInc <|
  ni_row (ni_okP (ni_goto ni_dX4_takeLetters_77 (by decide))) (ni_muP ni_eqGo) <|
  ni_row (ni_aloadn ni_dX4_takeLetters_80 rfl) ni_muLd <|
  ni_row (ni_iload ni_dX4_takeLetters_81) ni_muLd <|
  ni_row (ni_virt (y := 67) (T := TX2) ni_dX4_takeLetters_83 (by decide) rfl rfl ni_w722 ni_w723 ni_w724 ni_w34 ni_w725 ⟨by decide +kernel, by decide +kernel, by decide +kernel⟩ (by decide) rfl) (ni_muV (by decide)) <|
  ni_row (ni_ret ni_dX4_takeLetters_86) ni_muR <|
  ni_row0
def ni_pr93 : List (Nat × ni_S) := [(0, ni_sLd 3 3 1),
  (1, ni_sLd 0 1 2),
  (2, ni_sV 73 1 3 5),
  (5, ni_sGet 5 0 8),
  (8, ni_sLd 3 2 9),
  (9, ni_sLd 3 0 10),
  (10, ni_sGet 4 0 13),
  (13, ni_sLd 3 3 14),
  (14, ni_sGet 3 4 17),
  (17, ni_sP (ni_gI (fun x y => x + y) 18)),
  (18, ni_sV 65 2 2 21),
  (21, ni_sR (none))]
theorem ni_pk93 : ∀ r ∈ ni_pr93, ni_Ok xs yX4_tell cX4_tell 4 (none) [] r.1 r.2 ∧ ni_MU r.2 := ni_row (ni_aloadn ni_dX4_tell_0 rfl) ni_muLd <|
  ni_row (ni_iloadn ni_dX4_tell_1 rfl) ni_muLd <|
  ni_row (ni_virt (y := 73) (T := TX3) ni_dX4_tell_2 (by decide) rfl rfl ni_w557 ni_w558 ni_w559 ni_w32 ni_w560 ⟨by decide +kernel, by decide +kernel, by decide +kernel⟩ (by decide) rfl) (ni_muV (by decide)) <|
  ni_row (ni_get (T := TX6) ni_dX4_tell_5 (by decide) rfl (by decide) ni_uX6 ni_w219) ni_muGet <|
  ni_row (ni_aloadn ni_dX4_tell_8 rfl) ni_muLd <|
  ni_row (ni_aloadn ni_dX4_tell_9 rfl) ni_muLd <|
  ni_row (ni_get (T := TX4) ni_dX4_tell_10 (by decide) rfl (by decide) ni_uX4 ni_w388) ni_muGet <|
  ni_row (ni_aloadn ni_dX4_tell_13 rfl) ni_muLd <|
  ni_row (ni_get (T := TX3) ni_dX4_tell_14 (by decide) rfl (by decide) ni_uX3 ni_w275) ni_muGet <|
  ni_row (ni_okP (ni_iadd ni_dX4_tell_17)) (ni_muP ni_eqI) <|
  ni_row (ni_virt (y := 65) (T := TX2) ni_dX4_tell_18 (by decide) rfl rfl ni_w561 ni_w562 ni_w563 ni_w34 ni_w564 ⟨by decide +kernel, by decide +kernel, by decide +kernel⟩ (by decide) rfl) (ni_muV (by decide)) <|
  ni_row (ni_ret ni_dX4_tell_21) ni_muR <|
  ni_row0
def ni_pr94 : List (Nat × ni_S) := [(0, ni_sP (ni_gPush (.int 0) 1)),
  (1, ni_sSt 0 3 2),
  (2, ni_sLd 0 3 3),
  (3, ni_sLd 3 0 4),
  (4, ni_sGet 4 1 7),
  (7, ni_sP (ni_gIc (fun x y => decide (y ≤ x)) 50 10)),
  (10, ni_sLd 3 0 11),
  (11, ni_sGet 4 4 14),
  (14, ni_sLd 0 1 15),
  (15, ni_sQld 16),
  (16, ni_sGet 7 1 19),
  (19, ni_sLd 0 3 20),
  (20, ni_sQld 21),
  (21, ni_sSt 3 4 23),
  (23, ni_sLd 0 3 24),
  (24, ni_sLd 0 1 25),
  (25, ni_sP (ni_gIc (fun x y => decide (x = y)) 44 28)),
  (28, ni_sLd 3 4 30),
  (30, ni_sGet 1 1 33),
  (33, ni_sP (ni_gIf (fun x => decide (x ≤ 0)) 44 36)),
  (36, ni_sLd 3 0 37),
  (37, ni_sLd 0 1 38),
  (38, ni_sLd 3 4 40),
  (40, ni_sLd 3 2 41),
  (41, ni_sV 93 3 4 44),
  (44, ni_sInc 3 (1) 47),
  (47, ni_sP (ni_gGo 2)),
  (50, ni_sR (none))]
theorem ni_pk94 : ∀ r ∈ ni_pr94, ni_Ok xs yX4_tellKept cX4_tellKept 5 (none) [] r.1 r.2 ∧ ni_MU r.2 := ni_row (ni_okP (ni_iconst ni_dX4_tellKept_0 (by decide +kernel))) (ni_muP (ni_eqPush fun _ => rfl)) <|
  ni_row (ni_istoren ni_dX4_tellKept_1 rfl (by decide)) ni_muSt <|
  ni_row (ni_iloadn ni_dX4_tellKept_2 rfl) ni_muLd <|
  ni_row (ni_aloadn ni_dX4_tellKept_3 rfl) ni_muLd <|
  ni_row (ni_get (T := TX4) ni_dX4_tellKept_4 (by decide) rfl (by decide) ni_uX4 ni_w389) ni_muGet <|
  ni_row (ni_okP (ni_ic_ge ni_dX4_tellKept_7 (by decide))) (ni_muP ni_eqIc) <|
  ni_row (ni_aloadn ni_dX4_tellKept_10 rfl) ni_muLd <|
  ni_row (ni_get (T := TX4) ni_dX4_tellKept_11 (by decide) rfl (by decide) ni_uX4 ni_w395) ni_muGet <|
  ni_row (ni_iloadn ni_dX4_tellKept_14 rfl) ni_muLd <|
  ni_row (ni_aald ni_dX4_tellKept_15) ni_muQld <|
  ni_row (ni_get (T := TX9) ni_dX4_tellKept_16 (by decide) rfl (by decide) ni_uX9 ni_w363) ni_muGet <|
  ni_row (ni_iloadn ni_dX4_tellKept_19 rfl) ni_muLd <|
  ni_row (ni_aald ni_dX4_tellKept_20) ni_muQld <|
  ni_row (ni_astore ni_dX4_tellKept_21 (by decide)) ni_muSt <|
  ni_row (ni_iloadn ni_dX4_tellKept_23 rfl) ni_muLd <|
  ni_row (ni_iloadn ni_dX4_tellKept_24 rfl) ni_muLd <|
  ni_row (ni_okP (ni_ic_eq ni_dX4_tellKept_25 (by decide))) (ni_muP ni_eqIc) <|
  ni_row (ni_aload ni_dX4_tellKept_28) ni_muLd <|
  ni_row (ni_get (T := TX1) ni_dX4_tellKept_30 (by decide) rfl (by decide) ni_uX1 ni_w315) ni_muGet <|
  ni_row (ni_okP (ni_if_le ni_dX4_tellKept_33 (by decide))) (ni_muP ni_eqIf) <|
  ni_row (ni_aloadn ni_dX4_tellKept_36 rfl) ni_muLd <|
  ni_row (ni_iloadn ni_dX4_tellKept_37 rfl) ni_muLd <|
  ni_row (ni_aload ni_dX4_tellKept_38) ni_muLd <|
  ni_row (ni_aloadn ni_dX4_tellKept_40 rfl) ni_muLd <|
  ni_row (ni_virt (y := 93) (T := TX4) ni_dX4_tellKept_41 (by decide) rfl rfl ni_w553 ni_w555 ni_w4 ni_w29 ni_w556 ⟨by decide +kernel, by decide +kernel, by decide +kernel⟩ (by decide) rfl) (ni_muV (by decide)) <|
  ni_row (ni_iinc (n := 1) ni_dX4_tellKept_44 (by decide)) ni_muInc <|
  ni_row (ni_okP (ni_goto ni_dX4_tellKept_47 (by decide))) (ni_muP ni_eqGo) <|
  ni_row (ni_ret ni_dX4_tellKept_50) ni_muR <|
  ni_row0
def ni_pr95 : List (Nat × ni_S) := [(0, ni_sP (ni_gPush (.int 0) 1)),
  (1, ni_sSt 0 4 3),
  (3, ni_sLd 0 4 5),
  (5, ni_sLd 3 0 6),
  (6, ni_sGet 4 2 9),
  (9, ni_sP (ni_gIc (fun x y => decide (y ≤ x)) 64 12)),
  (12, ni_sLd 0 4 14),
  (14, ni_sLd 0 3 15),
  (15, ni_sP (ni_gIc (fun x y => decide (x = y)) 58 18)),
  (18, ni_sLd 3 0 19),
  (19, ni_sGet 4 5 22),
  (22, ni_sLd 0 4 24),
  (24, ni_sQld 25),
  (25, ni_sGet 3 5 28),
  (28, ni_sP (ni_gIf (fun x => decide (x = 0)) 58 31)),
  (31, ni_sLd 3 0 32),
  (32, ni_sGet 4 5 35),
  (35, ni_sLd 0 4 37),
  (37, ni_sQld 38),
  (38, ni_sLd 0 1 39),
  (39, ni_sV 74 1 3 42),
  (42, ni_sP (ni_gIf (fun x => decide (x = 0)) 58 45)),
  (45, ni_sLd 3 0 46),
  (46, ni_sLd 0 1 47),
  (47, ni_sLd 3 2 48),
  (48, ni_sLd 3 0 49),
  (49, ni_sGet 4 5 52),
  (52, ni_sLd 0 4 54),
  (54, ni_sQld 55),
  (55, ni_sV 93 3 4 58),
  (58, ni_sInc 4 (1) 61),
  (61, ni_sP (ni_gGo 3)),
  (64, ni_sR (none))]
theorem ni_pk95 : ∀ r ∈ ni_pr95, ni_Ok xs yX4_tellOthers cX4_tellOthers 5 (none) [] r.1 r.2 ∧ ni_MU r.2 := ni_row (ni_okP (ni_iconst ni_dX4_tellOthers_0 (by decide +kernel))) (ni_muP (ni_eqPush fun _ => rfl)) <|
  ni_row (ni_istore ni_dX4_tellOthers_1 (by decide)) ni_muSt <|
  ni_row (ni_iload ni_dX4_tellOthers_3) ni_muLd <|
  ni_row (ni_aloadn ni_dX4_tellOthers_5 rfl) ni_muLd <|
  ni_row (ni_get (T := TX4) ni_dX4_tellOthers_6 (by decide) rfl (by decide) ni_uX4 ni_w391) ni_muGet <|
  ni_row (ni_okP (ni_ic_ge ni_dX4_tellOthers_9 (by decide))) (ni_muP ni_eqIc) <|
  ni_row (ni_iload ni_dX4_tellOthers_12) ni_muLd <|
  ni_row (ni_iloadn ni_dX4_tellOthers_14 rfl) ni_muLd <|
  ni_row (ni_okP (ni_ic_eq ni_dX4_tellOthers_15 (by decide))) (ni_muP ni_eqIc) <|
  ni_row (ni_aloadn ni_dX4_tellOthers_18 rfl) ni_muLd <|
  ni_row (ni_get (T := TX4) ni_dX4_tellOthers_19 (by decide) rfl (by decide) ni_uX4 ni_w397) ni_muGet <|
  ni_row (ni_iload ni_dX4_tellOthers_22) ni_muLd <|
  ni_row (ni_aald ni_dX4_tellOthers_24) ni_muQld <|
  ni_row (ni_get (T := TX3) ni_dX4_tellOthers_25 (by decide) rfl (by decide) ni_uX3 ni_w277) ni_muGet <|
  ni_row (ni_okP (ni_if_eq ni_dX4_tellOthers_28 (by decide))) (ni_muP ni_eqIf) <|
  ni_row (ni_aloadn ni_dX4_tellOthers_31 rfl) ni_muLd <|
  ni_row (ni_get (T := TX4) ni_dX4_tellOthers_32 (by decide) rfl (by decide) ni_uX4 ni_w397) ni_muGet <|
  ni_row (ni_iload ni_dX4_tellOthers_35) ni_muLd <|
  ni_row (ni_aald ni_dX4_tellOthers_37) ni_muQld <|
  ni_row (ni_iloadn ni_dX4_tellOthers_38 rfl) ni_muLd <|
  ni_row (ni_virt (y := 74) (T := TX3) ni_dX4_tellOthers_39 (by decide) rfl rfl ni_w537 ni_w538 ni_w539 ni_w32 ni_w540 ⟨by decide +kernel, by decide +kernel, by decide +kernel⟩ (by decide) rfl) (ni_muV (by decide)) <|
  ni_row (ni_okP (ni_if_eq ni_dX4_tellOthers_42 (by decide))) (ni_muP ni_eqIf) <|
  ni_row (ni_aloadn ni_dX4_tellOthers_45 rfl) ni_muLd <|
  ni_row (ni_iloadn ni_dX4_tellOthers_46 rfl) ni_muLd <|
  ni_row (ni_aloadn ni_dX4_tellOthers_47 rfl) ni_muLd <|
  ni_row (ni_aloadn ni_dX4_tellOthers_48 rfl) ni_muLd <|
  ni_row (ni_get (T := TX4) ni_dX4_tellOthers_49 (by decide) rfl (by decide) ni_uX4 ni_w397) ni_muGet <|
  ni_row (ni_iload ni_dX4_tellOthers_52) ni_muLd <|
  ni_row (ni_aald ni_dX4_tellOthers_54) ni_muQld <|
  ni_row (ni_virt (y := 93) (T := TX4) ni_dX4_tellOthers_55 (by decide) rfl rfl ni_w553 ni_w555 ni_w4 ni_w29 ni_w556 ⟨by decide +kernel, by decide +kernel, by decide +kernel⟩ (by decide) rfl) (ni_muV (by decide)) <|
  ni_row (ni_iinc (n := 1) ni_dX4_tellOthers_58 (by decide)) ni_muInc <|
  ni_row (ni_okP (ni_goto ni_dX4_tellOthers_61 (by decide))) (ni_muP ni_eqGo) <|
  ni_row (ni_ret ni_dX4_tellOthers_64) ni_muR <|
  ni_row0
def ni_pr96_0 : List (Nat × ni_S) := [(0, ni_sP (ni_gPush (.int 0) 1)),
  (1, ni_sSt 0 1 2),
  (2, ni_sLd 0 1 3),
  (3, ni_sLd 3 0 4),
  (4, ni_sGet 4 2 7),
  (7, ni_sP (ni_gIc (fun x y => decide (y ≤ x)) 68 10)),
  (10, ni_sLd 3 0 11),
  (11, ni_sLd 0 1 12),
  (12, ni_sLd 3 0 13),
  (13, ni_sGet 4 5 16),
  (16, ni_sLd 0 1 17),
  (17, ni_sQld 18),
  (18, ni_sGet 3 6 21),
  (21, ni_sGet 5 0 24),
  (24, ni_sLd 3 0 25),
  (25, ni_sGet 4 5 28),
  (28, ni_sLd 0 1 29),
  (29, ni_sQld 30),
  (30, ni_sGet 3 1 33),
  (33, ni_sV 92 3 4 36),
  (36, ni_sLd 3 0 37),
  (37, ni_sLd 0 1 38),
  (38, ni_sLd 3 0 39),
  (39, ni_sGet 4 5 42),
  (42, ni_sLd 0 1 43),
  (43, ni_sQld 44),
  (44, ni_sGet 3 7 47),
  (47, ni_sGet 5 0 50),
  (50, ni_sLd 3 0 51),
  (51, ni_sGet 4 5 54),
  (54, ni_sLd 0 1 55),
  (55, ni_sQld 56),
  (56, ni_sGet 3 0 59),
  (59, ni_sV 92 3 4 62),
  (62, ni_sInc 1 (1) 65),
  (65, ni_sP (ni_gGo 2)),
  (68, ni_sP (ni_gPush (.int 0) 69)),
  (69, ni_sSt 0 1 70),
  (70, ni_sLd 0 1 71),
  (71, ni_sLd 3 0 72),
  (72, ni_sGet 4 2 75),
  (75, ni_sP (ni_gIc (fun x y => decide (y ≤ x)) 148 78)),
  (78, ni_sLd 3 0 79),
  (79, ni_sLd 3 0 80),
  (80, ni_sGet 4 5 83),
  (83, ni_sLd 0 1 84),
  (84, ni_sQld 85),
  (85, ni_sGet 3 1 88),
  (88, ni_sLd 3 0 89),
  (89, ni_sGet 4 5 92),
  (92, ni_sLd 0 1 93),
  (93, ni_sQld 94),
  (94, ni_sGet 3 6 97),
  (97, ni_sGet 5 0 100),
  (100, ni_sLd 3 0 101),
  (101, ni_sGet 4 0 104),
  (104, ni_sV 68 1 2 107),
  (107, ni_sV 79 2 4 110),
  (110, ni_sLd 3 0 111),
  (111, ni_sLd 3 0 112),
  (112, ni_sGet 4 5 115),
  (115, ni_sLd 0 1 116),
  (116, ni_sQld 117),
  (117, ni_sGet 3 0 120),
  (120, ni_sLd 3 0 121),
  (121, ni_sGet 4 5 124),
  (124, ni_sLd 0 1 125),
  (125, ni_sQld 126),
  (126, ni_sGet 3 7 129),
  (129, ni_sGet 5 0 132),
  (132, ni_sLd 3 0 133),
  (133, ni_sGet 4 0 136),
  (136, ni_sV 68 1 2 139),
  (139, ni_sV 79 2 4 142),
  (142, ni_sInc 1 (1) 145),
  (145, ni_sP (ni_gGo 70)),
  (148, ni_sP (ni_gPush (.int 0) 149)),
  (149, ni_sSt 0 1 150),
  (150, ni_sLd 0 1 151),
  (151, ni_sLd 3 0 152),
  (152, ni_sGet 4 3 155),
  (155, ni_sP (ni_gIc (fun x y => decide (y ≤ x)) 169 158)),
  (158, ni_sLd 3 0 159),
  (159, ni_sLd 0 1 160),
  (160, ni_sV 90 1 4 163),
  (163, ni_sInc 1 (1) 166),
  (166, ni_sP (ni_gGo 150)),
  (169, ni_sP (ni_gPush (.int 0) 170)),
  (170, ni_sSt 0 1 171),
  (171, ni_sLd 0 1 172),
  (172, ni_sLd 3 0 173),
  (173, ni_sGet 4 1 176),
  (176, ni_sP (ni_gIc (fun x y => decide (y ≤ x)) 206 179)),
  (179, ni_sLd 3 0 180),
  (180, ni_sGet 4 4 183),
  (183, ni_sLd 0 1 184),
  (184, ni_sQld 185),
  (185, ni_sLd 3 0 186),
  (186, ni_sGet 4 5 189),
  (189, ni_sLd 3 0 190)]
theorem ni_pk96_0 : ∀ r ∈ ni_pr96_0, ni_Ok xs yX4_tick cX4_tick 2 (none) [] r.1 r.2 ∧ ni_MU r.2 := ni_row (ni_okP (ni_iconst ni_dX4_tick_0 (by decide +kernel))) (ni_muP (ni_eqPush fun _ => rfl)) <|
  ni_row (ni_istoren ni_dX4_tick_1 rfl (by decide)) ni_muSt <|
  ni_row (ni_iloadn ni_dX4_tick_2 rfl) ni_muLd <|
  ni_row (ni_aloadn ni_dX4_tick_3 rfl) ni_muLd <|
  ni_row (ni_get (T := TX4) ni_dX4_tick_4 (by decide) rfl (by decide) ni_uX4 ni_w391) ni_muGet <|
  ni_row (ni_okP (ni_ic_ge ni_dX4_tick_7 (by decide))) (ni_muP ni_eqIc) <|
  ni_row (ni_aloadn ni_dX4_tick_10 rfl) ni_muLd <|
  ni_row (ni_iloadn ni_dX4_tick_11 rfl) ni_muLd <|
  ni_row (ni_aloadn ni_dX4_tick_12 rfl) ni_muLd <|
  ni_row (ni_get (T := TX4) ni_dX4_tick_13 (by decide) rfl (by decide) ni_uX4 ni_w397) ni_muGet <|
  ni_row (ni_iloadn ni_dX4_tick_16 rfl) ni_muLd <|
  ni_row (ni_aald ni_dX4_tick_17) ni_muQld <|
  ni_row (ni_get (T := TX3) ni_dX4_tick_18 (by decide) rfl (by decide) ni_uX3 ni_w282) ni_muGet <|
  ni_row (ni_get (T := TX6) ni_dX4_tick_21 (by decide) rfl (by decide) ni_uX6 ni_w219) ni_muGet <|
  ni_row (ni_aloadn ni_dX4_tick_24 rfl) ni_muLd <|
  ni_row (ni_get (T := TX4) ni_dX4_tick_25 (by decide) rfl (by decide) ni_uX4 ni_w397) ni_muGet <|
  ni_row (ni_iloadn ni_dX4_tick_28 rfl) ni_muLd <|
  ni_row (ni_aald ni_dX4_tick_29) ni_muQld <|
  ni_row (ni_get (T := TX3) ni_dX4_tick_30 (by decide) rfl (by decide) ni_uX3 ni_w270) ni_muGet <|
  ni_row (ni_virt (y := 92) (T := TX4) ni_dX4_tick_33 (by decide) rfl rfl ni_w714 ni_w716 ni_w10 ni_w29 ni_w717 ⟨by decide +kernel, by decide +kernel, by decide +kernel⟩ (by decide) rfl) (ni_muV (by decide)) <|
  ni_row (ni_aloadn ni_dX4_tick_36 rfl) ni_muLd <|
  ni_row (ni_iloadn ni_dX4_tick_37 rfl) ni_muLd <|
  ni_row (ni_aloadn ni_dX4_tick_38 rfl) ni_muLd <|
  ni_row (ni_get (T := TX4) ni_dX4_tick_39 (by decide) rfl (by decide) ni_uX4 ni_w397) ni_muGet <|
  ni_row (ni_iloadn ni_dX4_tick_42 rfl) ni_muLd <|
  ni_row (ni_aald ni_dX4_tick_43) ni_muQld <|
  ni_row (ni_get (T := TX3) ni_dX4_tick_44 (by decide) rfl (by decide) ni_uX3 ni_w285) ni_muGet <|
  ni_row (ni_get (T := TX6) ni_dX4_tick_47 (by decide) rfl (by decide) ni_uX6 ni_w219) ni_muGet <|
  ni_row (ni_aloadn ni_dX4_tick_50 rfl) ni_muLd <|
  ni_row (ni_get (T := TX4) ni_dX4_tick_51 (by decide) rfl (by decide) ni_uX4 ni_w397) ni_muGet <|
  ni_row (ni_iloadn ni_dX4_tick_54 rfl) ni_muLd <|
  ni_row (ni_aald ni_dX4_tick_55) ni_muQld <|
  ni_row (ni_get (T := TX3) ni_dX4_tick_56 (by decide) rfl (by decide) ni_uX3 ni_w268) ni_muGet <|
  ni_row (ni_virt (y := 92) (T := TX4) ni_dX4_tick_59 (by decide) rfl rfl ni_w714 ni_w716 ni_w10 ni_w29 ni_w717 ⟨by decide +kernel, by decide +kernel, by decide +kernel⟩ (by decide) rfl) (ni_muV (by decide)) <|
  ni_row (ni_iinc (n := 1) ni_dX4_tick_62 (by decide)) ni_muInc <|
  ni_row (ni_okP (ni_goto ni_dX4_tick_65 (by decide))) (ni_muP ni_eqGo) <|
  ni_row (ni_okP (ni_iconst ni_dX4_tick_68 (by decide +kernel))) (ni_muP (ni_eqPush fun _ => rfl)) <|
  ni_row (ni_istoren ni_dX4_tick_69 rfl (by decide)) ni_muSt <|
  ni_row (ni_iloadn ni_dX4_tick_70 rfl) ni_muLd <|
  ni_row (ni_aloadn ni_dX4_tick_71 rfl) ni_muLd <|
  ni_row (ni_get (T := TX4) ni_dX4_tick_72 (by decide) rfl (by decide) ni_uX4 ni_w391) ni_muGet <|
  ni_row (ni_okP (ni_ic_ge ni_dX4_tick_75 (by decide))) (ni_muP ni_eqIc) <|
  ni_row (ni_aloadn ni_dX4_tick_78 rfl) ni_muLd <|
  ni_row (ni_aloadn ni_dX4_tick_79 rfl) ni_muLd <|
  ni_row (ni_get (T := TX4) ni_dX4_tick_80 (by decide) rfl (by decide) ni_uX4 ni_w397) ni_muGet <|
  ni_row (ni_iloadn ni_dX4_tick_83 rfl) ni_muLd <|
  ni_row (ni_aald ni_dX4_tick_84) ni_muQld <|
  ni_row (ni_get (T := TX3) ni_dX4_tick_85 (by decide) rfl (by decide) ni_uX3 ni_w270) ni_muGet <|
  ni_row (ni_aloadn ni_dX4_tick_88 rfl) ni_muLd <|
  ni_row (ni_get (T := TX4) ni_dX4_tick_89 (by decide) rfl (by decide) ni_uX4 ni_w397) ni_muGet <|
  ni_row (ni_iloadn ni_dX4_tick_92 rfl) ni_muLd <|
  ni_row (ni_aald ni_dX4_tick_93) ni_muQld <|
  ni_row (ni_get (T := TX3) ni_dX4_tick_94 (by decide) rfl (by decide) ni_uX3 ni_w282) ni_muGet <|
  ni_row (ni_get (T := TX6) ni_dX4_tick_97 (by decide) rfl (by decide) ni_uX6 ni_w219) ni_muGet <|
  ni_row (ni_aloadn ni_dX4_tick_100 rfl) ni_muLd <|
  ni_row (ni_get (T := TX4) ni_dX4_tick_101 (by decide) rfl (by decide) ni_uX4 ni_w388) ni_muGet <|
  ni_row (ni_virt (y := 68) (T := TX2) ni_dX4_tick_104 (by decide) rfl rfl ni_w726 ni_w596 ni_w597 ni_w34 ni_w598 ⟨by decide +kernel, by decide +kernel, by decide +kernel⟩ (by decide) rfl) (ni_muV (by decide)) <|
  ni_row (ni_virt (y := 79) (T := TX4) ni_dX4_tick_107 (by decide) rfl rfl ni_w727 ni_w729 ni_w11 ni_w29 ni_w730 ⟨by decide +kernel, by decide +kernel, by decide +kernel⟩ (by decide) rfl) (ni_muV (by decide)) <|
  ni_row (ni_aloadn ni_dX4_tick_110 rfl) ni_muLd <|
  ni_row (ni_aloadn ni_dX4_tick_111 rfl) ni_muLd <|
  ni_row (ni_get (T := TX4) ni_dX4_tick_112 (by decide) rfl (by decide) ni_uX4 ni_w397) ni_muGet <|
  ni_row (ni_iloadn ni_dX4_tick_115 rfl) ni_muLd <|
  ni_row (ni_aald ni_dX4_tick_116) ni_muQld <|
  ni_row (ni_get (T := TX3) ni_dX4_tick_117 (by decide) rfl (by decide) ni_uX3 ni_w268) ni_muGet <|
  ni_row (ni_aloadn ni_dX4_tick_120 rfl) ni_muLd <|
  ni_row (ni_get (T := TX4) ni_dX4_tick_121 (by decide) rfl (by decide) ni_uX4 ni_w397) ni_muGet <|
  ni_row (ni_iloadn ni_dX4_tick_124 rfl) ni_muLd <|
  ni_row (ni_aald ni_dX4_tick_125) ni_muQld <|
  ni_row (ni_get (T := TX3) ni_dX4_tick_126 (by decide) rfl (by decide) ni_uX3 ni_w285) ni_muGet <|
  ni_row (ni_get (T := TX6) ni_dX4_tick_129 (by decide) rfl (by decide) ni_uX6 ni_w219) ni_muGet <|
  ni_row (ni_aloadn ni_dX4_tick_132 rfl) ni_muLd <|
  ni_row (ni_get (T := TX4) ni_dX4_tick_133 (by decide) rfl (by decide) ni_uX4 ni_w388) ni_muGet <|
  ni_row (ni_virt (y := 68) (T := TX2) ni_dX4_tick_136 (by decide) rfl rfl ni_w726 ni_w596 ni_w597 ni_w34 ni_w598 ⟨by decide +kernel, by decide +kernel, by decide +kernel⟩ (by decide) rfl) (ni_muV (by decide)) <|
  ni_row (ni_virt (y := 79) (T := TX4) ni_dX4_tick_139 (by decide) rfl rfl ni_w727 ni_w729 ni_w11 ni_w29 ni_w730 ⟨by decide +kernel, by decide +kernel, by decide +kernel⟩ (by decide) rfl) (ni_muV (by decide)) <|
  ni_row (ni_iinc (n := 1) ni_dX4_tick_142 (by decide)) ni_muInc <|
  ni_row (ni_okP (ni_goto ni_dX4_tick_145 (by decide))) (ni_muP ni_eqGo) <|
  ni_row (ni_okP (ni_iconst ni_dX4_tick_148 (by decide +kernel))) (ni_muP (ni_eqPush fun _ => rfl)) <|
  ni_row (ni_istoren ni_dX4_tick_149 rfl (by decide)) ni_muSt <|
  ni_row (ni_iloadn ni_dX4_tick_150 rfl) ni_muLd <|
  ni_row (ni_aloadn ni_dX4_tick_151 rfl) ni_muLd <|
  ni_row (ni_get (T := TX4) ni_dX4_tick_152 (by decide) rfl (by decide) ni_uX4 ni_w393) ni_muGet <|
  ni_row (ni_okP (ni_ic_ge ni_dX4_tick_155 (by decide))) (ni_muP ni_eqIc) <|
  ni_row (ni_aloadn ni_dX4_tick_158 rfl) ni_muLd <|
  ni_row (ni_iloadn ni_dX4_tick_159 rfl) ni_muLd <|
  ni_row (ni_virt (y := 90) (T := TX4) ni_dX4_tick_160 (by decide) rfl rfl ni_w787 ni_w789 ni_w13 ni_w29 ni_w790 ⟨by decide +kernel, by decide +kernel, by decide +kernel⟩ (by decide) rfl) (ni_muV (by decide)) <|
  ni_row (ni_iinc (n := 1) ni_dX4_tick_163 (by decide)) ni_muInc <|
  ni_row (ni_okP (ni_goto ni_dX4_tick_166 (by decide))) (ni_muP ni_eqGo) <|
  ni_row (ni_okP (ni_iconst ni_dX4_tick_169 (by decide +kernel))) (ni_muP (ni_eqPush fun _ => rfl)) <|
  ni_row (ni_istoren ni_dX4_tick_170 rfl (by decide)) ni_muSt <|
  ni_row (ni_iloadn ni_dX4_tick_171 rfl) ni_muLd <|
  ni_row (ni_aloadn ni_dX4_tick_172 rfl) ni_muLd <|
  ni_row (ni_get (T := TX4) ni_dX4_tick_173 (by decide) rfl (by decide) ni_uX4 ni_w389) ni_muGet <|
  ni_row (ni_okP (ni_ic_ge ni_dX4_tick_176 (by decide))) (ni_muP ni_eqIc) <|
  ni_row (ni_aloadn ni_dX4_tick_179 rfl) ni_muLd <|
  ni_row (ni_get (T := TX4) ni_dX4_tick_180 (by decide) rfl (by decide) ni_uX4 ni_w395) ni_muGet <|
  ni_row (ni_iloadn ni_dX4_tick_183 rfl) ni_muLd <|
  ni_row (ni_aald ni_dX4_tick_184) ni_muQld <|
  ni_row (ni_aloadn ni_dX4_tick_185 rfl) ni_muLd <|
  ni_row (ni_get (T := TX4) ni_dX4_tick_186 (by decide) rfl (by decide) ni_uX4 ni_w397) ni_muGet <|
  ni_row (ni_aloadn ni_dX4_tick_189 rfl) ni_muLd <|
  ni_row0
def ni_pr96_1 : List (Nat × ni_S) := [(190, ni_sGet 4 7 193),
  (193, ni_sLd 3 0 194),
  (194, ni_sGet 4 8 197),
  (197, ni_sV 139 3 7 200),
  (200, ni_sInc 1 (1) 203),
  (203, ni_sP (ni_gGo 171)),
  (206, ni_sP (ni_gPush (.int 0) 207)),
  (207, ni_sSt 0 1 208),
  (208, ni_sLd 0 1 209),
  (209, ni_sLd 3 0 210),
  (210, ni_sGet 4 2 213),
  (213, ni_sP (ni_gIc (fun x y => decide (y ≤ x)) 292 216)),
  (216, ni_sLd 3 0 217),
  (217, ni_sGet 4 5 220),
  (220, ni_sLd 0 1 221),
  (221, ni_sQld 222),
  (222, ni_sGet 3 6 225),
  (225, ni_sLd 3 0 226),
  (226, ni_sGet 4 5 229),
  (229, ni_sLd 0 1 230),
  (230, ni_sQld 231),
  (231, ni_sGet 3 3 234),
  (234, ni_sLd 3 0 235),
  (235, ni_sGet 4 0 238),
  (238, ni_sLd 3 0 239),
  (239, ni_sGet 4 5 242),
  (242, ni_sLd 0 1 243),
  (243, ni_sQld 244),
  (244, ni_sGet 3 4 247),
  (247, ni_sP (ni_gI (fun x y => x + y) 248)),
  (248, ni_sV 117 2 5 251),
  (251, ni_sLd 3 0 252),
  (252, ni_sGet 4 5 255),
  (255, ni_sLd 0 1 256),
  (256, ni_sQld 257),
  (257, ni_sGet 3 7 260),
  (260, ni_sLd 3 0 261),
  (261, ni_sGet 4 5 264),
  (264, ni_sLd 0 1 265),
  (265, ni_sQld 266),
  (266, ni_sGet 3 3 269),
  (269, ni_sLd 3 0 270),
  (270, ni_sGet 4 0 273),
  (273, ni_sLd 3 0 274),
  (274, ni_sGet 4 5 277),
  (277, ni_sLd 0 1 278),
  (278, ni_sQld 279),
  (279, ni_sGet 3 4 282),
  (282, ni_sP (ni_gI (fun x y => x + y) 283)),
  (283, ni_sV 117 2 5 286),
  (286, ni_sInc 1 (1) 289),
  (289, ni_sP (ni_gGo 208)),
  (292, ni_sLd 3 0 293),
  (293, ni_sP (ni_gDup 294)),
  (294, ni_sGet 4 0 297),
  (297, ni_sP (ni_gPush (.int 1) 298)),
  (298, ni_sP (ni_gI (fun x y => x + y) 299)),
  (299, ni_sPut 4 0 (.int) 302),
  (302, ni_sR (none))]
theorem ni_pk96_1 : ∀ r ∈ ni_pr96_1, ni_Ok xs yX4_tick cX4_tick 2 (none) [] r.1 r.2 ∧ ni_MU r.2 := ni_row (ni_get (T := TX4) ni_dX4_tick_190 (by decide) rfl (by decide) ni_uX4 ni_w401) ni_muGet <|
  ni_row (ni_aloadn ni_dX4_tick_193 rfl) ni_muLd <|
  ni_row (ni_get (T := TX4) ni_dX4_tick_194 (by decide) rfl (by decide) ni_uX4 ni_w403) ni_muGet <|
  ni_row (ni_virt (y := 139) (T := TX9) ni_dX4_tick_197 (by decide) rfl rfl ni_w818 ni_w819 ni_w820 ni_w35 ni_w821 ⟨by decide +kernel, by decide +kernel, by decide +kernel⟩ (by decide) rfl) (ni_muV (by decide)) <|
  ni_row (ni_iinc (n := 1) ni_dX4_tick_200 (by decide)) ni_muInc <|
  ni_row (ni_okP (ni_goto ni_dX4_tick_203 (by decide))) (ni_muP ni_eqGo) <|
  ni_row (ni_okP (ni_iconst ni_dX4_tick_206 (by decide +kernel))) (ni_muP (ni_eqPush fun _ => rfl)) <|
  ni_row (ni_istoren ni_dX4_tick_207 rfl (by decide)) ni_muSt <|
  ni_row (ni_iloadn ni_dX4_tick_208 rfl) ni_muLd <|
  ni_row (ni_aloadn ni_dX4_tick_209 rfl) ni_muLd <|
  ni_row (ni_get (T := TX4) ni_dX4_tick_210 (by decide) rfl (by decide) ni_uX4 ni_w391) ni_muGet <|
  ni_row (ni_okP (ni_ic_ge ni_dX4_tick_213 (by decide))) (ni_muP ni_eqIc) <|
  ni_row (ni_aloadn ni_dX4_tick_216 rfl) ni_muLd <|
  ni_row (ni_get (T := TX4) ni_dX4_tick_217 (by decide) rfl (by decide) ni_uX4 ni_w397) ni_muGet <|
  ni_row (ni_iloadn ni_dX4_tick_220 rfl) ni_muLd <|
  ni_row (ni_aald ni_dX4_tick_221) ni_muQld <|
  ni_row (ni_get (T := TX3) ni_dX4_tick_222 (by decide) rfl (by decide) ni_uX3 ni_w282) ni_muGet <|
  ni_row (ni_aloadn ni_dX4_tick_225 rfl) ni_muLd <|
  ni_row (ni_get (T := TX4) ni_dX4_tick_226 (by decide) rfl (by decide) ni_uX4 ni_w397) ni_muGet <|
  ni_row (ni_iloadn ni_dX4_tick_229 rfl) ni_muLd <|
  ni_row (ni_aald ni_dX4_tick_230) ni_muQld <|
  ni_row (ni_get (T := TX3) ni_dX4_tick_231 (by decide) rfl (by decide) ni_uX3 ni_w273) ni_muGet <|
  ni_row (ni_aloadn ni_dX4_tick_234 rfl) ni_muLd <|
  ni_row (ni_get (T := TX4) ni_dX4_tick_235 (by decide) rfl (by decide) ni_uX4 ni_w388) ni_muGet <|
  ni_row (ni_aloadn ni_dX4_tick_238 rfl) ni_muLd <|
  ni_row (ni_get (T := TX4) ni_dX4_tick_239 (by decide) rfl (by decide) ni_uX4 ni_w397) ni_muGet <|
  ni_row (ni_iloadn ni_dX4_tick_242 rfl) ni_muLd <|
  ni_row (ni_aald ni_dX4_tick_243) ni_muQld <|
  ni_row (ni_get (T := TX3) ni_dX4_tick_244 (by decide) rfl (by decide) ni_uX3 ni_w275) ni_muGet <|
  ni_row (ni_okP (ni_iadd ni_dX4_tick_247)) (ni_muP ni_eqI) <|
  ni_row (ni_virt (y := 117) (T := TX6) ni_dX4_tick_248 (by decide) rfl rfl ni_w858 ni_w859 ni_w860 ni_w33 ni_w861 ⟨by decide +kernel, by decide +kernel, by decide +kernel⟩ (by decide) rfl) (ni_muV (by decide)) <|
  ni_row (ni_aloadn ni_dX4_tick_251 rfl) ni_muLd <|
  ni_row (ni_get (T := TX4) ni_dX4_tick_252 (by decide) rfl (by decide) ni_uX4 ni_w397) ni_muGet <|
  ni_row (ni_iloadn ni_dX4_tick_255 rfl) ni_muLd <|
  ni_row (ni_aald ni_dX4_tick_256) ni_muQld <|
  ni_row (ni_get (T := TX3) ni_dX4_tick_257 (by decide) rfl (by decide) ni_uX3 ni_w285) ni_muGet <|
  ni_row (ni_aloadn ni_dX4_tick_260 rfl) ni_muLd <|
  ni_row (ni_get (T := TX4) ni_dX4_tick_261 (by decide) rfl (by decide) ni_uX4 ni_w397) ni_muGet <|
  ni_row (ni_iloadn ni_dX4_tick_264 rfl) ni_muLd <|
  ni_row (ni_aald ni_dX4_tick_265) ni_muQld <|
  ni_row (ni_get (T := TX3) ni_dX4_tick_266 (by decide) rfl (by decide) ni_uX3 ni_w273) ni_muGet <|
  ni_row (ni_aloadn ni_dX4_tick_269 rfl) ni_muLd <|
  ni_row (ni_get (T := TX4) ni_dX4_tick_270 (by decide) rfl (by decide) ni_uX4 ni_w388) ni_muGet <|
  ni_row (ni_aloadn ni_dX4_tick_273 rfl) ni_muLd <|
  ni_row (ni_get (T := TX4) ni_dX4_tick_274 (by decide) rfl (by decide) ni_uX4 ni_w397) ni_muGet <|
  ni_row (ni_iloadn ni_dX4_tick_277 rfl) ni_muLd <|
  ni_row (ni_aald ni_dX4_tick_278) ni_muQld <|
  ni_row (ni_get (T := TX3) ni_dX4_tick_279 (by decide) rfl (by decide) ni_uX3 ni_w275) ni_muGet <|
  ni_row (ni_okP (ni_iadd ni_dX4_tick_282)) (ni_muP ni_eqI) <|
  ni_row (ni_virt (y := 117) (T := TX6) ni_dX4_tick_283 (by decide) rfl rfl ni_w858 ni_w859 ni_w860 ni_w33 ni_w861 ⟨by decide +kernel, by decide +kernel, by decide +kernel⟩ (by decide) rfl) (ni_muV (by decide)) <|
  ni_row (ni_iinc (n := 1) ni_dX4_tick_286 (by decide)) ni_muInc <|
  ni_row (ni_okP (ni_goto ni_dX4_tick_289 (by decide))) (ni_muP ni_eqGo) <|
  ni_row (ni_aloadn ni_dX4_tick_292 rfl) ni_muLd <|
  ni_row (ni_okP (ni_dup ni_dX4_tick_293)) (ni_muP ni_eqDup) <|
  ni_row (ni_get (T := TX4) ni_dX4_tick_294 (by decide) rfl (by decide) ni_uX4 ni_w388) ni_muGet <|
  ni_row (ni_okP (ni_iconst ni_dX4_tick_297 (by decide +kernel))) (ni_muP (ni_eqPush fun _ => rfl)) <|
  ni_row (ni_okP (ni_iadd ni_dX4_tick_298)) (ni_muP ni_eqI) <|
  ni_row (ni_putA (T := TX4) (ty0 := tyX4) (b := false) (Or.inl rfl) rfl ni_dX4_tick_299 (by decide) rfl (by decide) ni_uX4 tyX4_ok nmX4 ni_w388) ni_muPut <|
  ni_row (ni_ret ni_dX4_tick_302) ni_muR <|
  ni_row0
def ni_pr96 : List (Nat × ni_S) := ni_pr96_0 ++ (ni_pr96_1)
theorem ni_pk96 : ∀ r ∈ ni_pr96, ni_Ok xs yX4_tick cX4_tick 2 (none) [] r.1 r.2 ∧ ni_MU r.2 := List.forall_mem_append.mpr ⟨ni_pk96_0, ni_pk96_1⟩
end NIP
