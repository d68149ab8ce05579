section NIP
variable {xs : List Int32}
def ni_pr55 : List (Nat × ni_S) := [(0, ni_sLd 3 0 1),
  (1, ni_sLd 3 0 2),
  (2, ni_sGet 0 9 5),
  (5, ni_sLd 3 0 6),
  (6, ni_sGet 0 7 9),
  (9, ni_sP (ni_gI (fun x y => x + y) 10)),
  (10, ni_sLd 3 0 11),
  (11, ni_sGet 0 8 14),
  (14, ni_sP (ni_gIM (fun x y => if y < x then y else x) 17)),
  (17, ni_sPut 0 9 (.int) 20),
  (20, ni_sR (none))]
theorem ni_pk55 : ∀ r ∈ ni_pr55, ni_Ok xs yX0_gainTokens cX0_gainTokens 1 (none) [] r.1 r.2 ∧ ni_MU r.2 := ni_row (ni_aloadn ni_dX0_gainTokens_0 rfl) ni_muLd <|
  ni_row (ni_aloadn ni_dX0_gainTokens_1 rfl) ni_muLd <|
  ni_row (ni_get (T := TX0) ni_dX0_gainTokens_2 (by decide) rfl (by decide) ni_uX0 ni_w118) ni_muGet <|
  ni_row (ni_aloadn ni_dX0_gainTokens_5 rfl) ni_muLd <|
  ni_row (ni_get (T := TX0) ni_dX0_gainTokens_6 (by decide) rfl (by decide) ni_uX0 ni_w114) ni_muGet <|
  ni_row (ni_okP (ni_iadd ni_dX0_gainTokens_9)) (ni_muP ni_eqI) <|
  ni_row (ni_aloadn ni_dX0_gainTokens_10 rfl) ni_muLd <|
  ni_row (ni_get (T := TX0) ni_dX0_gainTokens_11 (by decide) rfl (by decide) ni_uX0 ni_w116) ni_muGet <|
  ni_row (ni_okP (ni_min ni_dX0_gainTokens_14 ni_w795 ni_w796 ni_w46 ni_w797)) (ni_muP ni_eqIM) <|
  ni_row (ni_putA (T := TX0) (ty0 := tyX0) (b := false) (Or.inl rfl) rfl ni_dX0_gainTokens_17 (by decide) rfl (by decide) ni_uX0 tyX0_ok nmX0 ni_w118) ni_muPut <|
  ni_row (ni_ret ni_dX0_gainTokens_20) ni_muR <|
  ni_row0
def ni_pr56 : List (Nat × ni_S) := [(0, ni_sLd 3 0 1),
  (1, ni_sGet 0 7 4),
  (4, ni_sP (ni_gIf (fun x => decide (x ≤ 0)) 11 7)),
  (7, ni_sP (ni_gPush (.int 1) 8)),
  (8, ni_sP (ni_gGo 12)),
  (11, ni_sP (ni_gPush (.int 0) 12)),
  (12, ni_sR (some .boolean))]
theorem ni_pk56 : ∀ r ∈ ni_pr56, ni_Ok xs yX0_isShaped cX0_isShaped 1 (some .boolean) [] r.1 r.2 ∧ ni_MU r.2 := ni_row (ni_aloadn ni_dX0_isShaped_0 rfl) ni_muLd <|
  ni_row (ni_get (T := TX0) ni_dX0_isShaped_1 (by decide) rfl (by decide) ni_uX0 ni_w114) ni_muGet <|
  ni_row (ni_okP (ni_if_le ni_dX0_isShaped_4 (by decide))) (ni_muP ni_eqIf) <|
  ni_row (ni_okP (ni_iconst ni_dX0_isShaped_7 (by decide +kernel))) (ni_muP (ni_eqPush fun _ => rfl)) <|
  ni_row (ni_okP (ni_goto ni_dX0_isShaped_8 (by decide))) (ni_muP ni_eqGo) <|
  ni_row (ni_okP (ni_iconst ni_dX0_isShaped_11 (by decide +kernel))) (ni_muP (ni_eqPush fun _ => rfl)) <|
  ni_row (ni_ret ni_dX0_isShaped_12) ni_muR <|
  ni_row0
def ni_pr57 : List (Nat × ni_S) := [(0, ni_sLd 3 0 1),
  (1, ni_sGet 0 11 4),
  (4, ni_sP (ni_gIf (fun x => decide (x = 0)) 18 7)),
  (7, ni_sLd 3 0 8),
  (8, ni_sGet 0 9 11),
  (11, ni_sLd 3 0 12),
  (12, ni_sGet 0 2 15),
  (15, ni_sP (ni_gIc (fun x y => decide (y ≤ x)) 20 18)),
  (18, ni_sP (ni_gPush (.int (-1)) 19)),
  (19, ni_sR (some .int)),
  (20, ni_sLd 3 0 21),
  (21, ni_sP (ni_gDup 22)),
  (22, ni_sGet 0 9 25),
  (25, ni_sLd 3 0 26),
  (26, ni_sGet 0 2 29),
  (29, ni_sP (ni_gI (fun x y => x - y) 30)),
  (30, ni_sPut 0 9 (.int) 33),
  (33, ni_sLd 3 0 34),
  (34, ni_sGet 0 10 37),
  (37, ni_sP (ni_gPush (.int 0) 38)),
  (38, ni_sAld .int 0 39),
  (39, ni_sSt 0 1 40),
  (40, ni_sP (ni_gPush (.int 1) 41)),
  (41, ni_sSt 0 2 42),
  (42, ni_sLd 0 2 43),
  (43, ni_sLd 3 0 44),
  (44, ni_sGet 0 11 47),
  (47, ni_sP (ni_gIc (fun x y => decide (y ≤ x)) 70 50)),
  (50, ni_sLd 3 0 51),
  (51, ni_sGet 0 10 54),
  (54, ni_sLd 0 2 55),
  (55, ni_sP (ni_gPush (.int 1) 56)),
  (56, ni_sP (ni_gI (fun x y => x - y) 57)),
  (57, ni_sLd 3 0 58),
  (58, ni_sGet 0 10 61),
  (61, ni_sLd 0 2 62),
  (62, ni_sAld .int 0 63),
  (63, ni_sAst .int 0 64),
  (64, ni_sInc 2 (1) 67),
  (67, ni_sP (ni_gGo 42)),
  (70, ni_sLd 3 0 71),
  (71, ni_sP (ni_gDup 72)),
  (72, ni_sGet 0 11 75),
  (75, ni_sP (ni_gPush (.int 1) 76)),
  (76, ni_sP (ni_gI (fun x y => x - y) 77)),
  (77, ni_sPut 0 11 (.int) 80),
  (80, ni_sLd 0 1 81),
  (81, ni_sR (some .int))]
theorem ni_pk57 : ∀ r ∈ ni_pr57, ni_Ok xs yX0_pull cX0_pull 3 (some .int) [] r.1 r.2 ∧ ni_MU r.2 := ni_row (ni_aloadn ni_dX0_pull_0 rfl) ni_muLd <|
  ni_row (ni_get (T := TX0) ni_dX0_pull_1 (by decide) rfl (by decide) ni_uX0 ni_w121) ni_muGet <|
  ni_row (ni_okP (ni_if_eq ni_dX0_pull_4 (by decide))) (ni_muP ni_eqIf) <|
  ni_row (ni_aloadn ni_dX0_pull_7 rfl) ni_muLd <|
  ni_row (ni_get (T := TX0) ni_dX0_pull_8 (by decide) rfl (by decide) ni_uX0 ni_w118) ni_muGet <|
  ni_row (ni_aloadn ni_dX0_pull_11 rfl) ni_muLd <|
  ni_row (ni_get (T := TX0) ni_dX0_pull_12 (by decide) rfl (by decide) ni_uX0 ni_w103) ni_muGet <|
  ni_row (ni_okP (ni_ic_ge ni_dX0_pull_15 (by decide))) (ni_muP ni_eqIc) <|
  ni_row (ni_okP (ni_iconst ni_dX0_pull_18 (by decide +kernel))) (ni_muP (ni_eqPush fun _ => rfl)) <|
  ni_row (ni_ret ni_dX0_pull_19) ni_muR <|
  ni_row (ni_aloadn ni_dX0_pull_20 rfl) ni_muLd <|
  ni_row (ni_okP (ni_dup ni_dX0_pull_21)) (ni_muP ni_eqDup) <|
  ni_row (ni_get (T := TX0) ni_dX0_pull_22 (by decide) rfl (by decide) ni_uX0 ni_w118) ni_muGet <|
  ni_row (ni_aloadn ni_dX0_pull_25 rfl) ni_muLd <|
  ni_row (ni_get (T := TX0) ni_dX0_pull_26 (by decide) rfl (by decide) ni_uX0 ni_w103) ni_muGet <|
  ni_row (ni_okP (ni_isub ni_dX0_pull_29)) (ni_muP ni_eqI) <|
  ni_row (ni_putA (T := TX0) (ty0 := tyX0) (b := false) (Or.inl rfl) rfl ni_dX0_pull_30 (by decide) rfl (by decide) ni_uX0 tyX0_ok nmX0 ni_w118) ni_muPut <|
  ni_row (ni_aloadn ni_dX0_pull_33 rfl) ni_muLd <|
  ni_row (ni_get (T := TX0) ni_dX0_pull_34 (by decide) rfl (by decide) ni_uX0 ni_w120) ni_muGet <|
  ni_row (ni_okP (ni_iconst ni_dX0_pull_37 (by decide +kernel))) (ni_muP (ni_eqPush fun _ => rfl)) <|
  ni_row (ni_iald ni_dX0_pull_38) ni_muAld <|
  ni_row (ni_istoren ni_dX0_pull_39 rfl (by decide)) ni_muSt <|
  ni_row (ni_okP (ni_iconst ni_dX0_pull_40 (by decide +kernel))) (ni_muP (ni_eqPush fun _ => rfl)) <|
  ni_row (ni_istoren ni_dX0_pull_41 rfl (by decide)) ni_muSt <|
  ni_row (ni_iloadn ni_dX0_pull_42 rfl) ni_muLd <|
  ni_row (ni_aloadn ni_dX0_pull_43 rfl) ni_muLd <|
  ni_row (ni_get (T := TX0) ni_dX0_pull_44 (by decide) rfl (by decide) ni_uX0 ni_w121) ni_muGet <|
  ni_row (ni_okP (ni_ic_ge ni_dX0_pull_47 (by decide))) (ni_muP ni_eqIc) <|
  ni_row (ni_aloadn ni_dX0_pull_50 rfl) ni_muLd <|
  ni_row (ni_get (T := TX0) ni_dX0_pull_51 (by decide) rfl (by decide) ni_uX0 ni_w120) ni_muGet <|
  ni_row (ni_iloadn ni_dX0_pull_54 rfl) ni_muLd <|
  ni_row (ni_okP (ni_iconst ni_dX0_pull_55 (by decide +kernel))) (ni_muP (ni_eqPush fun _ => rfl)) <|
  ni_row (ni_okP (ni_isub ni_dX0_pull_56)) (ni_muP ni_eqI) <|
  ni_row (ni_aloadn ni_dX0_pull_57 rfl) ni_muLd <|
  ni_row (ni_get (T := TX0) ni_dX0_pull_58 (by decide) rfl (by decide) ni_uX0 ni_w120) ni_muGet <|
  ni_row (ni_iloadn ni_dX0_pull_61 rfl) ni_muLd <|
  ni_row (ni_iald ni_dX0_pull_62) ni_muAld <|
  ni_row (ni_iast ni_dX0_pull_63) ni_muAst <|
  ni_row (ni_iinc (n := 1) ni_dX0_pull_64 (by decide)) ni_muInc <|
  ni_row (ni_okP (ni_goto ni_dX0_pull_67 (by decide))) (ni_muP ni_eqGo) <|
  ni_row (ni_aloadn ni_dX0_pull_70 rfl) ni_muLd <|
  ni_row (ni_okP (ni_dup ni_dX0_pull_71)) (ni_muP ni_eqDup) <|
  ni_row (ni_get (T := TX0) ni_dX0_pull_72 (by decide) rfl (by decide) ni_uX0 ni_w121) ni_muGet <|
  ni_row (ni_okP (ni_iconst ni_dX0_pull_75 (by decide +kernel))) (ni_muP (ni_eqPush fun _ => rfl)) <|
  ni_row (ni_okP (ni_isub ni_dX0_pull_76)) (ni_muP ni_eqI) <|
  ni_row (ni_putA (T := TX0) (ty0 := tyX0) (b := false) (Or.inl rfl) rfl ni_dX0_pull_77 (by decide) rfl (by decide) ni_uX0 tyX0_ok nmX0 ni_w121) ni_muPut <|
  ni_row (ni_iloadn ni_dX0_pull_80 rfl) ni_muLd <|
  ni_row (ni_ret ni_dX0_pull_81) ni_muR <|
  ni_row0
def ni_pr58 : List (Nat × ni_S) := [(0, ni_sLd 3 0 1),
  (1, ni_sGet 0 11 4),
  (4, ni_sP (ni_gPush (.int 10) 6)),
  (6, ni_sP (ni_gIc (fun x y => decide (x < y)) 20 9)),
  (9, ni_sLd 3 0 10),
  (10, ni_sGet 0 14 13),
  (13, ni_sP (ni_gPush (.int 0) 14)),
  (14, ni_sP (ni_gDup2 15)),
  (15, ni_sAld .int 0 16),
  (16, ni_sP (ni_gPush (.int 1) 17)),
  (17, ni_sP (ni_gI (fun x y => x + y) 18)),
  (18, ni_sAst .int 0 19),
  (19, ni_sR (none)),
  (20, ni_sLd 3 0 21),
  (21, ni_sGet 0 10 24),
  (24, ni_sLd 3 0 25),
  (25, ni_sGet 0 11 28),
  (28, ni_sLd 0 1 29),
  (29, ni_sAst .int 0 30),
  (30, ni_sLd 3 0 31),
  (31, ni_sP (ni_gDup 32)),
  (32, ni_sGet 0 11 35),
  (35, ni_sP (ni_gPush (.int 1) 36)),
  (36, ni_sP (ni_gI (fun x y => x + y) 37)),
  (37, ni_sPut 0 11 (.int) 40),
  (40, ni_sR (none))]
theorem ni_pk58 : ∀ r ∈ ni_pr58, ni_Ok xs yX0_push cX0_push 2 (none) [] r.1 r.2 ∧ ni_MU r.2 := ni_row (ni_aloadn ni_dX0_push_0 rfl) ni_muLd <|
  ni_row (ni_get (T := TX0) ni_dX0_push_1 (by decide) rfl (by decide) ni_uX0 ni_w121) ni_muGet <|
  ni_row (ni_okP (ni_bipush ni_dX0_push_4 (by decide +kernel))) (ni_muP (ni_eqPush fun _ => rfl)) <|
  ni_row (ni_okP (ni_ic_lt ni_dX0_push_6 (by decide))) (ni_muP ni_eqIc) <|
  ni_row (ni_aloadn ni_dX0_push_9 rfl) ni_muLd <|
  ni_row (ni_get (T := TX0) ni_dX0_push_10 (by decide) rfl (by decide) ni_uX0 ni_w128) ni_muGet <|
  ni_row (ni_okP (ni_iconst ni_dX0_push_13 (by decide +kernel))) (ni_muP (ni_eqPush fun _ => rfl)) <|
  ni_row (ni_okP (ni_dup2 ni_dX0_push_14)) (ni_muP ni_eqDup2) <|
  ni_row (ni_iald ni_dX0_push_15) ni_muAld <|
  ni_row (ni_okP (ni_iconst ni_dX0_push_16 (by decide +kernel))) (ni_muP (ni_eqPush fun _ => rfl)) <|
  ni_row (ni_okP (ni_iadd ni_dX0_push_17)) (ni_muP ni_eqI) <|
  ni_row (ni_iast ni_dX0_push_18) ni_muAst <|
  ni_row (ni_ret ni_dX0_push_19) ni_muR <|
  ni_row (ni_aloadn ni_dX0_push_20 rfl) ni_muLd <|
  ni_row (ni_get (T := TX0) ni_dX0_push_21 (by decide) rfl (by decide) ni_uX0 ni_w120) ni_muGet <|
  ni_row (ni_aloadn ni_dX0_push_24 rfl) ni_muLd <|
  ni_row (ni_get (T := TX0) ni_dX0_push_25 (by decide) rfl (by decide) ni_uX0 ni_w121) ni_muGet <|
  ni_row (ni_iloadn ni_dX0_push_28 rfl) ni_muLd <|
  ni_row (ni_iast ni_dX0_push_29) ni_muAst <|
  ni_row (ni_aloadn ni_dX0_push_30 rfl) ni_muLd <|
  ni_row (ni_okP (ni_dup ni_dX0_push_31)) (ni_muP ni_eqDup) <|
  ni_row (ni_get (T := TX0) ni_dX0_push_32 (by decide) rfl (by decide) ni_uX0 ni_w121) ni_muGet <|
  ni_row (ni_okP (ni_iconst ni_dX0_push_35 (by decide +kernel))) (ni_muP (ni_eqPush fun _ => rfl)) <|
  ni_row (ni_okP (ni_iadd ni_dX0_push_36)) (ni_muP ni_eqI) <|
  ni_row (ni_putA (T := TX0) (ty0 := tyX0) (b := false) (Or.inl rfl) rfl ni_dX0_push_37 (by decide) rfl (by decide) ni_uX0 tyX0_ok nmX0 ni_w121) ni_muPut <|
  ni_row (ni_ret ni_dX0_push_40) ni_muR <|
  ni_row0
def ni_pr59 : List (Nat × ni_S) := [(0, ni_sLd 3 0 1),
  (1, ni_sP (ni_gObj 4)),
  (4, ni_sLd 3 0 5),
  (5, ni_sLd 0 1 6),
  (6, ni_sPut 1 0 (.int) 9),
  (9, ni_sLd 3 0 10),
  (10, ni_sLd 0 2 11),
  (11, ni_sPut 1 1 (.int) 14),
  (14, ni_sLd 3 0 15),
  (15, ni_sLd 0 3 16),
  (16, ni_sPut 1 2 (.int) 19),
  (19, ni_sLd 3 0 20),
  (20, ni_sLd 3 4 22),
  (22, ni_sPut 1 3 (.array (.int)) 25),
  (25, ni_sLd 3 0 26),
  (26, ni_sLd 3 5 28),
  (28, ni_sPut 1 4 (.array (.int)) 31),
  (31, ni_sR (none))]
theorem ni_pk59 : ∀ r ∈ ni_pr59, ni_Ok xs yX1_init cX1_init 6 (none) [] r.1 r.2 ∧ ni_MU r.2 := ni_row (ni_aloadn ni_dX1_init_0 rfl) ni_muLd <|
  ni_row (ni_okP (ni_objInit ni_dX1_init_1 ni_w310 ni_w55 ni_w56)) (ni_muP ni_eqObj) <|
  ni_row (ni_aloadn ni_dX1_init_4 rfl) ni_muLd <|
  ni_row (ni_iloadn ni_dX1_init_5 rfl) ni_muLd <|
  ni_row (ni_putA (T := TX1) (ty0 := tyX1) (b := true) (Or.inr ⟨rfl, rfl, rfl⟩) rfl ni_dX1_init_6 (by decide) rfl (by decide) ni_uX1 tyX1_ok nmX1 ni_w311) ni_muPut <|
  ni_row (ni_aloadn ni_dX1_init_9 rfl) ni_muLd <|
  ni_row (ni_iloadn ni_dX1_init_10 rfl) ni_muLd <|
  ni_row (ni_putA (T := TX1) (ty0 := tyX1) (b := true) (Or.inr ⟨rfl, rfl, rfl⟩) rfl ni_dX1_init_11 (by decide) rfl (by decide) ni_uX1 tyX1_ok nmX1 ni_w314) ni_muPut <|
  ni_row (ni_aloadn ni_dX1_init_14 rfl) ni_muLd <|
  ni_row (ni_iloadn ni_dX1_init_15 rfl) ni_muLd <|
  ni_row (ni_putA (T := TX1) (ty0 := tyX1) (b := true) (Or.inr ⟨rfl, rfl, rfl⟩) rfl ni_dX1_init_16 (by decide) rfl (by decide) ni_uX1 tyX1_ok nmX1 ni_w317) ni_muPut <|
  ni_row (ni_aloadn ni_dX1_init_19 rfl) ni_muLd <|
  ni_row (ni_aload ni_dX1_init_20) ni_muLd <|
  ni_row (ni_putA (T := TX1) (ty0 := tyX1) (b := true) (Or.inr ⟨rfl, rfl, rfl⟩) rfl ni_dX1_init_22 (by decide) rfl (by decide) ni_uX1 tyX1_ok nmX1 ni_w318) ni_muPut <|
  ni_row (ni_aloadn ni_dX1_init_25 rfl) ni_muLd <|
  ni_row (ni_aload ni_dX1_init_26) ni_muLd <|
  ni_row (ni_putA (T := TX1) (ty0 := tyX1) (b := true) (Or.inr ⟨rfl, rfl, rfl⟩) rfl ni_dX1_init_28 (by decide) rfl (by decide) ni_uX1 tyX1_ok nmX1 ni_w320) ni_muPut <|
  ni_row (ni_ret ni_dX1_init_31) ni_muR <|
  ni_row0
def ni_pr60 : List (Nat × ni_S) := [(0, ni_sLd 3 0 1),
  (1, ni_sGet 1 2 4),
  (4, ni_sLd 0 1 5),
  (5, ni_sP (ni_gI (fun x y => x >>> (y &&& 31)) 6)),
  (6, ni_sP (ni_gPush (.int 1) 7)),
  (7, ni_sP (ni_gI (fun x y => x &&& y) 8)),
  (8, ni_sP (ni_gIf (fun x => decide (x = 0)) 15 11)),
  (11, ni_sP (ni_gPush (.int 1) 12)),
  (12, ni_sP (ni_gGo 16)),
  (15, ni_sP (ni_gPush (.int 0) 16)),
  (16, ni_sR (some .boolean))]
theorem ni_pk60 : ∀ r ∈ ni_pr60, ni_Ok xs yX1_hasLink cX1_hasLink 2 (some .boolean) [] r.1 r.2 ∧ ni_MU r.2 := ni_row (ni_aloadn ni_dX1_hasLink_0 rfl) ni_muLd <|
  ni_row (ni_get (T := TX1) ni_dX1_hasLink_1 (by decide) rfl (by decide) ni_uX1 ni_w317) ni_muGet <|
  ni_row (ni_iloadn ni_dX1_hasLink_4 rfl) ni_muLd <|
  ni_row (ni_okP (ni_ishr ni_dX1_hasLink_5)) (ni_muP ni_eqI) <|
  ni_row (ni_okP (ni_iconst ni_dX1_hasLink_6 (by decide +kernel))) (ni_muP (ni_eqPush fun _ => rfl)) <|
  ni_row (ni_okP (ni_iand ni_dX1_hasLink_7)) (ni_muP ni_eqI) <|
  ni_row (ni_okP (ni_if_eq ni_dX1_hasLink_8 (by decide))) (ni_muP ni_eqIf) <|
  ni_row (ni_okP (ni_iconst ni_dX1_hasLink_11 (by decide +kernel))) (ni_muP (ni_eqPush fun _ => rfl)) <|
  ni_row (ni_okP (ni_goto ni_dX1_hasLink_12 (by decide))) (ni_muP ni_eqGo) <|
  ni_row (ni_okP (ni_iconst ni_dX1_hasLink_15 (by decide +kernel))) (ni_muP (ni_eqPush fun _ => rfl)) <|
  ni_row (ni_ret ni_dX1_hasLink_16) ni_muR <|
  ni_row0
def ni_pr61 : List (Nat × ni_S) := [(0, ni_sLd 3 0 1),
  (1, ni_sP (ni_gObj 4)),
  (4, ni_sLd 3 0 5),
  (5, ni_sP (ni_gPush (.int 8) 7)),
  (7, ni_sANew 4 10),
  (10, ni_sPut 2 0 (.array (.object "Switchyard$Letter")) 13),
  (13, ni_sLd 3 0 14),
  (14, ni_sP (ni_gPush (.int 8) 16)),
  (16, ni_sNewa 0 .int 18),
  (18, ni_sPut 2 1 (.array (.int)) 21),
  (21, ni_sLd 3 0 22),
  (22, ni_sP (ni_gPush (.int 21) 24)),
  (24, ni_sNewa 0 .int 26),
  (26, ni_sPut 2 3 (.array (.int)) 29),
  (29, ni_sP (ni_gPush (.int 0) 30)),
  (30, ni_sSt 0 1 31),
  (31, ni_sLd 0 1 32),
  (32, ni_sP (ni_gPush (.int 21) 34)),
  (34, ni_sP (ni_gIc (fun x y => decide (y ≤ x)) 50 37)),
  (37, ni_sLd 3 0 38),
  (38, ni_sGet 2 3 41),
  (41, ni_sLd 0 1 42),
  (42, ni_sP (ni_gPush (.int (-1)) 43)),
  (43, ni_sAst .int 0 44),
  (44, ni_sInc 1 (1) 47),
  (47, ni_sP (ni_gGo 31)),
  (50, ni_sR (none))]
theorem ni_pk61 : ∀ r ∈ ni_pr61, ni_Ok xs yX2_init cX2_init 2 (none) [] r.1 r.2 ∧ ni_MU r.2 := ni_row (ni_aloadn ni_dX2_init_0 rfl) ni_muLd <|
  ni_row (ni_okP (ni_objInit ni_dX2_init_1 ni_w194 ni_w55 ni_w56)) (ni_muP ni_eqObj) <|
  ni_row (ni_aloadn ni_dX2_init_4 rfl) ni_muLd <|
  ni_row (ni_okP (ni_bipush ni_dX2_init_5 (by decide +kernel))) (ni_muP (ni_eqPush fun _ => rfl)) <|
  ni_row (ni_anew ni_dX2_init_7 rfl ni_w195 (by decide)) ni_muANew <|
  ni_row (ni_putA (T := TX2) (ty0 := tyX2) (b := false) (Or.inl rfl) rfl ni_dX2_init_10 (by decide) rfl (by decide) ni_uX2 tyX2_ok nmX2 ni_w197) ni_muPut <|
  ni_row (ni_aloadn ni_dX2_init_13 rfl) ni_muLd <|
  ni_row (ni_okP (ni_bipush ni_dX2_init_14 (by decide +kernel))) (ni_muP (ni_eqPush fun _ => rfl)) <|
  ni_row (ni_newa ni_dX2_init_16 rfl rfl (by decide) ni_w93) ni_muNewa <|
  ni_row (ni_putA (T := TX2) (ty0 := tyX2) (b := false) (Or.inl rfl) rfl ni_dX2_init_18 (by decide) rfl (by decide) ni_uX2 tyX2_ok nmX2 ni_w199) ni_muPut <|
  ni_row (ni_aloadn ni_dX2_init_21 rfl) ni_muLd <|
  ni_row (ni_okP (ni_bipush ni_dX2_init_22 (by decide +kernel))) (ni_muP (ni_eqPush fun _ => rfl)) <|
  ni_row (ni_newa ni_dX2_init_24 rfl rfl (by decide) ni_w93) ni_muNewa <|
  ni_row (ni_putA (T := TX2) (ty0 := tyX2) (b := true) (Or.inr ⟨rfl, rfl, rfl⟩) rfl ni_dX2_init_26 (by decide) rfl (by decide) ni_uX2 tyX2_ok nmX2 ni_w203) ni_muPut <|
  ni_row (ni_okP (ni_iconst ni_dX2_init_29 (by decide +kernel))) (ni_muP (ni_eqPush fun _ => rfl)) <|
  ni_row (ni_istoren ni_dX2_init_30 rfl (by decide)) ni_muSt <|
  ni_row (ni_iloadn ni_dX2_init_31 rfl) ni_muLd <|
  ni_row (ni_okP (ni_bipush ni_dX2_init_32 (by decide +kernel))) (ni_muP (ni_eqPush fun _ => rfl)) <|
  ni_row (ni_okP (ni_ic_ge ni_dX2_init_34 (by decide))) (ni_muP ni_eqIc) <|
  ni_row (ni_aloadn ni_dX2_init_37 rfl) ni_muLd <|
  ni_row (ni_get (T := TX2) ni_dX2_init_38 (by decide) rfl (by decide) ni_uX2 ni_w203) ni_muGet <|
  ni_row (ni_iloadn ni_dX2_init_41 rfl) ni_muLd <|
  ni_row (ni_okP (ni_iconst ni_dX2_init_42 (by decide +kernel))) (ni_muP (ni_eqPush fun _ => rfl)) <|
  ni_row (ni_iast ni_dX2_init_43) ni_muAst <|
  ni_row (ni_iinc (n := 1) ni_dX2_init_44 (by decide)) ni_muInc <|
  ni_row (ni_okP (ni_goto ni_dX2_init_47 (by decide))) (ni_muP ni_eqGo) <|
  ni_row (ni_ret ni_dX2_init_50) ni_muR <|
  ni_row0
def ni_pr62 : List (Nat × ni_S) := [(0, ni_sLd 3 0 1),
  (1, ni_sP (ni_gPush (.int 0) 2)),
  (2, ni_sPut 2 2 (.int) 5),
  (5, ni_sLd 3 0 6),
  (6, ni_sGet 2 0 9),
  (9, ni_sLen 10),
  (10, ni_sLd 3 1 11),
  (11, ni_sGet 2 2 14),
  (14, ni_sP (ni_gIc (fun x y => decide (y ≤ x)) 26 17)),
  (17, ni_sLd 3 0 18),
  (18, ni_sLd 3 1 19),
  (19, ni_sGet 2 0 22),
  (22, ni_sLen 23),
  (23, ni_sV 64 1 2 26),
  (26, ni_sP (ni_gPush (.int 0) 27)),
  (27, ni_sSt 0 2 28),
  (28, ni_sLd 0 2 29),
  (29, ni_sLd 3 1 30),
  (30, ni_sGet 2 2 33),
  (33, ni_sP (ni_gIc (fun x y => decide (y ≤ x)) 66 36)),
  (36, ni_sLd 3 0 37),
  (37, ni_sGet 2 0 40),
  (40, ni_sLd 0 2 41),
  (41, ni_sLd 3 1 42),
  (42, ni_sGet 2 0 45),
  (45, ni_sLd 0 2 46),
  (46, ni_sQld 47),
  (47, ni_sQst 48),
  (48, ni_sLd 3 0 49),
  (49, ni_sGet 2 1 52),
  (52, ni_sLd 0 2 53),
  (53, ni_sLd 3 1 54),
  (54, ni_sGet 2 1 57),
  (57, ni_sLd 0 2 58),
  (58, ni_sAld .int 0 59),
  (59, ni_sAst .int 0 60),
  (60, ni_sInc 2 (1) 63),
  (63, ni_sP (ni_gGo 28)),
  (66, ni_sLd 3 0 67),
  (67, ni_sLd 3 1 68),
  (68, ni_sGet 2 2 71),
  (71, ni_sPut 2 2 (.int) 74),
  (74, ni_sLd 3 1 75),
  (75, ni_sGet 2 3 78),
  (78, ni_sP (ni_gPush (.int 0) 79)),
  (79, ni_sLd 3 0 80),
  (80, ni_sGet 2 3 83),
  (83, ni_sP (ni_gPush (.int 0) 84)),
  (84, ni_sP (ni_gPush (.int 21) 86)),
  (86, ni_sCopy 89),
  (89, ni_sLd 3 0 90),
  (90, ni_sLd 3 1 91),
  (91, ni_sGet 2 4 94),
  (94, ni_sPut 2 4 (.int) 97),
  (97, ni_sR (none))]
theorem ni_pk62 : ∀ r ∈ ni_pr62, ni_Ok xs yX2_copyFrom cX2_copyFrom 3 (none) [] r.1 r.2 ∧ ni_MU r.2 := ni_row (ni_aloadn ni_dX2_copyFrom_0 rfl) ni_muLd <|
  ni_row (ni_okP (ni_iconst ni_dX2_copyFrom_1 (by decide +kernel))) (ni_muP (ni_eqPush fun _ => rfl)) <|
  ni_row (ni_putA (T := TX2) (ty0 := tyX2) (b := false) (Or.inl rfl) rfl ni_dX2_copyFrom_2 (by decide) rfl (by decide) ni_uX2 tyX2_ok nmX2 ni_w200) ni_muPut <|
  ni_row (ni_aloadn ni_dX2_copyFrom_5 rfl) ni_muLd <|
  ni_row (ni_get (T := TX2) ni_dX2_copyFrom_6 (by decide) rfl (by decide) ni_uX2 ni_w197) ni_muGet <|
  ni_row (ni_len ni_dX2_copyFrom_9) ni_muLen <|
  ni_row (ni_aloadn ni_dX2_copyFrom_10 rfl) ni_muLd <|
  ni_row (ni_get (T := TX2) ni_dX2_copyFrom_11 (by decide) rfl (by decide) ni_uX2 ni_w200) ni_muGet <|
  ni_row (ni_okP (ni_ic_ge ni_dX2_copyFrom_14 (by decide))) (ni_muP ni_eqIc) <|
  ni_row (ni_aloadn ni_dX2_copyFrom_17 rfl) ni_muLd <|
  ni_row (ni_aloadn ni_dX2_copyFrom_18 rfl) ni_muLd <|
  ni_row (ni_get (T := TX2) ni_dX2_copyFrom_19 (by decide) rfl (by decide) ni_uX2 ni_w197) ni_muGet <|
  ni_row (ni_len ni_dX2_copyFrom_22) ni_muLen <|
  ni_row (ni_virt (y := 64) (T := TX2) ni_dX2_copyFrom_23 (by decide) rfl rfl ni_w565 ni_w567 ni_w5 ni_w34 ni_w568 ⟨by decide +kernel, by decide +kernel, by decide +kernel⟩ (by decide) rfl) (ni_muV (by decide)) <|
  ni_row (ni_okP (ni_iconst ni_dX2_copyFrom_26 (by decide +kernel))) (ni_muP (ni_eqPush fun _ => rfl)) <|
  ni_row (ni_istoren ni_dX2_copyFrom_27 rfl (by decide)) ni_muSt <|
  ni_row (ni_iloadn ni_dX2_copyFrom_28 rfl) ni_muLd <|
  ni_row (ni_aloadn ni_dX2_copyFrom_29 rfl) ni_muLd <|
  ni_row (ni_get (T := TX2) ni_dX2_copyFrom_30 (by decide) rfl (by decide) ni_uX2 ni_w200) ni_muGet <|
  ni_row (ni_okP (ni_ic_ge ni_dX2_copyFrom_33 (by decide))) (ni_muP ni_eqIc) <|
  ni_row (ni_aloadn ni_dX2_copyFrom_36 rfl) ni_muLd <|
  ni_row (ni_get (T := TX2) ni_dX2_copyFrom_37 (by decide) rfl (by decide) ni_uX2 ni_w197) ni_muGet <|
  ni_row (ni_iloadn ni_dX2_copyFrom_40 rfl) ni_muLd <|
  ni_row (ni_aloadn ni_dX2_copyFrom_41 rfl) ni_muLd <|
  ni_row (ni_get (T := TX2) ni_dX2_copyFrom_42 (by decide) rfl (by decide) ni_uX2 ni_w197) ni_muGet <|
  ni_row (ni_iloadn ni_dX2_copyFrom_45 rfl) ni_muLd <|
  ni_row (ni_aald ni_dX2_copyFrom_46) ni_muQld <|
  ni_row (ni_aast ni_dX2_copyFrom_47) ni_muQst <|
  ni_row (ni_aloadn ni_dX2_copyFrom_48 rfl) ni_muLd <|
  ni_row (ni_get (T := TX2) ni_dX2_copyFrom_49 (by decide) rfl (by decide) ni_uX2 ni_w199) ni_muGet <|
  ni_row (ni_iloadn ni_dX2_copyFrom_52 rfl) ni_muLd <|
  ni_row (ni_aloadn ni_dX2_copyFrom_53 rfl) ni_muLd <|
  ni_row (ni_get (T := TX2) ni_dX2_copyFrom_54 (by decide) rfl (by decide) ni_uX2 ni_w199) ni_muGet <|
  ni_row (ni_iloadn ni_dX2_copyFrom_57 rfl) ni_muLd <|
  ni_row (ni_iald ni_dX2_copyFrom_58) ni_muAld <|
  ni_row (ni_iast ni_dX2_copyFrom_59) ni_muAst <|
  ni_row (ni_iinc (n := 1) ni_dX2_copyFrom_60 (by decide)) ni_muInc <|
  ni_row (ni_okP (ni_goto ni_dX2_copyFrom_63 (by decide))) (ni_muP ni_eqGo) <|
  ni_row (ni_aloadn ni_dX2_copyFrom_66 rfl) ni_muLd <|
  ni_row (ni_aloadn ni_dX2_copyFrom_67 rfl) ni_muLd <|
  ni_row (ni_get (T := TX2) ni_dX2_copyFrom_68 (by decide) rfl (by decide) ni_uX2 ni_w200) ni_muGet <|
  ni_row (ni_putA (T := TX2) (ty0 := tyX2) (b := false) (Or.inl rfl) rfl ni_dX2_copyFrom_71 (by decide) rfl (by decide) ni_uX2 tyX2_ok nmX2 ni_w200) ni_muPut <|
  ni_row (ni_aloadn ni_dX2_copyFrom_74 rfl) ni_muLd <|
  ni_row (ni_get (T := TX2) ni_dX2_copyFrom_75 (by decide) rfl (by decide) ni_uX2 ni_w203) ni_muGet <|
  ni_row (ni_okP (ni_iconst ni_dX2_copyFrom_78 (by decide +kernel))) (ni_muP (ni_eqPush fun _ => rfl)) <|
  ni_row (ni_aloadn ni_dX2_copyFrom_79 rfl) ni_muLd <|
  ni_row (ni_get (T := TX2) ni_dX2_copyFrom_80 (by decide) rfl (by decide) ni_uX2 ni_w203) ni_muGet <|
  ni_row (ni_okP (ni_iconst ni_dX2_copyFrom_83 (by decide +kernel))) (ni_muP (ni_eqPush fun _ => rfl)) <|
  ni_row (ni_okP (ni_bipush ni_dX2_copyFrom_84 (by decide +kernel))) (ni_muP (ni_eqPush fun _ => rfl)) <|
  ni_row (ni_copy ni_dX2_copyFrom_86 ni_w938 ni_w920 ni_w919 ni_w48) ni_muCopy <|
  ni_row (ni_aloadn ni_dX2_copyFrom_89 rfl) ni_muLd <|
  ni_row (ni_aloadn ni_dX2_copyFrom_90 rfl) ni_muLd <|
  ni_row (ni_get (T := TX2) ni_dX2_copyFrom_91 (by decide) rfl (by decide) ni_uX2 ni_w205) ni_muGet <|
  ni_row (ni_putA (T := TX2) (ty0 := tyX2) (b := false) (Or.inl rfl) rfl ni_dX2_copyFrom_94 (by decide) rfl (by decide) ni_uX2 tyX2_ok nmX2 ni_w205) ni_muPut <|
  ni_row (ni_ret ni_dX2_copyFrom_97) ni_muR <|
  ni_row0
def ni_pr63 : List (Nat × ni_S) := [(0, ni_sP (ni_gPush (.int 0) 1)),
  (1, ni_sSt 0 2 2),
  (2, ni_sLd 0 2 3),
  (3, ni_sLd 3 0 4),
  (4, ni_sGet 2 2 7),
  (7, ni_sP (ni_gIc (fun x y => decide (y ≤ x)) 26 10)),
  (10, ni_sLd 3 0 11),
  (11, ni_sGet 2 1 14),
  (14, ni_sLd 0 2 15),
  (15, ni_sAld .int 0 16),
  (16, ni_sLd 0 1 17),
  (17, ni_sP (ni_gIc (fun x y => decide (y < x)) 26 20)),
  (20, ni_sInc 2 (1) 23),
  (23, ni_sP (ni_gGo 2)),
  (26, ni_sLd 0 2 27),
  (27, ni_sR (some .int))]
theorem ni_pk63 : ∀ r ∈ ni_pr63, ni_Ok xs yX2_lettersDue cX2_lettersDue 3 (some .int) [] r.1 r.2 ∧ ni_MU r.2 := ni_row (ni_okP (ni_iconst ni_dX2_lettersDue_0 (by decide +kernel))) (ni_muP (ni_eqPush fun _ => rfl)) <|
  ni_row (ni_istoren ni_dX2_lettersDue_1 rfl (by decide)) ni_muSt <|
  ni_row (ni_iloadn ni_dX2_lettersDue_2 rfl) ni_muLd <|
  ni_row (ni_aloadn ni_dX2_lettersDue_3 rfl) ni_muLd <|
  ni_row (ni_get (T := TX2) ni_dX2_lettersDue_4 (by decide) rfl (by decide) ni_uX2 ni_w200) ni_muGet <|
  ni_row (ni_okP (ni_ic_ge ni_dX2_lettersDue_7 (by decide))) (ni_muP ni_eqIc) <|
  ni_row (ni_aloadn ni_dX2_lettersDue_10 rfl) ni_muLd <|
  ni_row (ni_get (T := TX2) ni_dX2_lettersDue_11 (by decide) rfl (by decide) ni_uX2 ni_w199) ni_muGet <|
  ni_row (ni_iloadn ni_dX2_lettersDue_14 rfl) ni_muLd <|
  ni_row (ni_iald ni_dX2_lettersDue_15) ni_muAld <|
  ni_row (ni_iloadn ni_dX2_lettersDue_16 rfl) ni_muLd <|
  ni_row (ni_okP (ni_ic_gt ni_dX2_lettersDue_17 (by decide))) (ni_muP ni_eqIc) <|
  ni_row (ni_iinc (n := 1) ni_dX2_lettersDue_20 (by decide)) ni_muInc <|
  ni_row (ni_okP (ni_goto ni_dX2_lettersDue_23 (by decide))) (ni_muP ni_eqGo) <|
  ni_row (ni_iloadn ni_dX2_lettersDue_26 rfl) ni_muLd <|
  ni_row (ni_ret ni_dX2_lettersDue_27) ni_muR <|
  ni_row0
def ni_pr64 : List (Nat × ni_S) := [(0, ni_sLd 0 1 1),
  (1, ni_sANew 4 4),
  (4, ni_sSt 3 2 5),
  (5, ni_sLd 0 1 6),
  (6, ni_sNewa 0 .int 8),
  (8, ni_sSt 3 3 9),
  (9, ni_sP (ni_gPush (.int 0) 10)),
  (10, ni_sSt 0 4 12),
  (12, ni_sLd 0 4 14),
  (14, ni_sLd 3 0 15),
  (15, ni_sGet 2 2 18),
  (18, ni_sP (ni_gIc (fun x y => decide (y ≤ x)) 49 21)),
  (21, ni_sLd 3 2 22),
  (22, ni_sLd 0 4 24),
  (24, ni_sLd 3 0 25),
  (25, ni_sGet 2 0 28),
  (28, ni_sLd 0 4 30),
  (30, ni_sQld 31),
  (31, ni_sQst 32),
  (32, ni_sLd 3 3 33),
  (33, ni_sLd 0 4 35),
  (35, ni_sLd 3 0 36),
  (36, ni_sGet 2 1 39),
  (39, ni_sLd 0 4 41),
  (41, ni_sAld .int 0 42),
  (42, ni_sAst .int 0 43),
  (43, ni_sInc 4 (1) 46),
  (46, ni_sP (ni_gGo 12)),
  (49, ni_sLd 3 0 50),
  (50, ni_sLd 3 2 51),
  (51, ni_sPut 2 0 (.array (.object "Switchyard$Letter")) 54),
  (54, ni_sLd 3 0 55),
  (55, ni_sLd 3 3 56),
  (56, ni_sPut 2 1 (.array (.int)) 59),
  (59, ni_sR (none))]
theorem ni_pk64 : ∀ r ∈ ni_pr64, ni_Ok xs yX2_makeRoom cX2_makeRoom 5 (none) [] r.1 r.2 ∧ ni_MU r.2 := ni_row (ni_iloadn ni_dX2_makeRoom_0 rfl) ni_muLd <|
  ni_row (ni_anew ni_dX2_makeRoom_1 rfl ni_w195 (by decide)) ni_muANew <|
  ni_row (ni_astoren ni_dX2_makeRoom_4 rfl (by decide)) ni_muSt <|
  ni_row (ni_iloadn ni_dX2_makeRoom_5 rfl) ni_muLd <|
  ni_row (ni_newa ni_dX2_makeRoom_6 rfl rfl (by decide) ni_w93) ni_muNewa <|
  ni_row (ni_astoren ni_dX2_makeRoom_8 rfl (by decide)) ni_muSt <|
  ni_row (ni_okP (ni_iconst ni_dX2_makeRoom_9 (by decide +kernel))) (ni_muP (ni_eqPush fun _ => rfl)) <|
  ni_row (ni_istore ni_dX2_makeRoom_10 (by decide)) ni_muSt <|
  ni_row (ni_iload ni_dX2_makeRoom_12) ni_muLd <|
  ni_row (ni_aloadn ni_dX2_makeRoom_14 rfl) ni_muLd <|
  ni_row (ni_get (T := TX2) ni_dX2_makeRoom_15 (by decide) rfl (by decide) ni_uX2 ni_w200) ni_muGet <|
  ni_row (ni_okP (ni_ic_ge ni_dX2_makeRoom_18 (by decide))) (ni_muP ni_eqIc) <|
  ni_row (ni_aloadn ni_dX2_makeRoom_21 rfl) ni_muLd <|
  ni_row (ni_iload ni_dX2_makeRoom_22) ni_muLd <|
  ni_row (ni_aloadn ni_dX2_makeRoom_24 rfl) ni_muLd <|
  ni_row (ni_get (T := TX2) ni_dX2_makeRoom_25 (by decide) rfl (by decide) ni_uX2 ni_w197) ni_muGet <|
  ni_row (ni_iload ni_dX2_makeRoom_28) ni_muLd <|
  ni_row (ni_aald ni_dX2_makeRoom_30) ni_muQld <|
  ni_row (ni_aast ni_dX2_makeRoom_31) ni_muQst <|
  ni_row (ni_aloadn ni_dX2_makeRoom_32 rfl) ni_muLd <|
  ni_row (ni_iload ni_dX2_makeRoom_33) ni_muLd <|
  ni_row (ni_aloadn ni_dX2_makeRoom_35 rfl) ni_muLd <|
  ni_row (ni_get (T := TX2) ni_dX2_makeRoom_36 (by decide) rfl (by decide) ni_uX2 ni_w199) ni_muGet <|
  ni_row (ni_iload ni_dX2_makeRoom_39) ni_muLd <|
  ni_row (ni_iald ni_dX2_makeRoom_41) ni_muAld <|
  ni_row (ni_iast ni_dX2_makeRoom_42) ni_muAst <|
  ni_row (ni_iinc (n := 1) ni_dX2_makeRoom_43 (by decide)) ni_muInc <|
  ni_row (ni_okP (ni_goto ni_dX2_makeRoom_46 (by decide))) (ni_muP ni_eqGo) <|
  ni_row (ni_aloadn ni_dX2_makeRoom_49 rfl) ni_muLd <|
  ni_row (ni_aloadn ni_dX2_makeRoom_50 rfl) ni_muLd <|
  ni_row (ni_putA (T := TX2) (ty0 := tyX2) (b := false) (Or.inl rfl) rfl ni_dX2_makeRoom_51 (by decide) rfl (by decide) ni_uX2 tyX2_ok nmX2 ni_w197) ni_muPut <|
  ni_row (ni_aloadn ni_dX2_makeRoom_54 rfl) ni_muLd <|
  ni_row (ni_aloadn ni_dX2_makeRoom_55 rfl) ni_muLd <|
  ni_row (ni_putA (T := TX2) (ty0 := tyX2) (b := false) (Or.inl rfl) rfl ni_dX2_makeRoom_56 (by decide) rfl (by decide) ni_uX2 tyX2_ok nmX2 ni_w199) ni_muPut <|
  ni_row (ni_ret ni_dX2_makeRoom_59) ni_muR <|
  ni_row0
def ni_pr65 : List (Nat × ni_S) := [(0, ni_sLd 3 0 1),
  (1, ni_sGet 2 2 4),
  (4, ni_sP (ni_gPush (.int 2048) 7)),
  (7, ni_sP (ni_gIc (fun x y => decide (x < y)) 11 10)),
  (10, ni_sR (none)),
  (11, ni_sLd 3 0 12),
  (12, ni_sGet 2 2 15),
  (15, ni_sLd 3 0 16),
  (16, ni_sGet 2 0 19),
  (19, ni_sLen 20),
  (20, ni_sP (ni_gIc (fun x y => decide (x < y)) 33 23)),
  (23, ni_sLd 3 0 24),
  (24, ni_sLd 3 0 25),
  (25, ni_sGet 2 2 28),
  (28, ni_sP (ni_gPush (.int 2) 29)),
  (29, ni_sP (ni_gI (fun x y => x * y) 30)),
  (30, ni_sV 64 1 2 33),
  (33, ni_sLd 3 0 34),
  (34, ni_sGet 2 0 37),
  (37, ni_sLd 3 0 38),
  (38, ni_sGet 2 2 41),
  (41, ni_sLd 3 1 42),
  (42, ni_sQst 43),
  (43, ni_sLd 3 0 44),
  (44, ni_sGet 2 1 47),
  (47, ni_sLd 3 0 48),
  (48, ni_sGet 2 2 51),
  (51, ni_sLd 0 2 52),
  (52, ni_sAst .int 0 53),
  (53, ni_sLd 3 0 54),
  (54, ni_sP (ni_gDup 55)),
  (55, ni_sGet 2 2 58),
  (58, ni_sP (ni_gPush (.int 1) 59)),
  (59, ni_sP (ni_gI (fun x y => x + y) 60)),
  (60, ni_sPut 2 2 (.int) 63),
  (63, ni_sR (none))]
theorem ni_pk65 : ∀ r ∈ ni_pr65, ni_Ok xs yX2_putLetter cX2_putLetter 3 (none) [] r.1 r.2 ∧ ni_MU r.2 := ni_row (ni_aloadn ni_dX2_putLetter_0 rfl) ni_muLd <|
  ni_row (ni_get (T := TX2) ni_dX2_putLetter_1 (by decide) rfl (by decide) ni_uX2 ni_w200) ni_muGet <|
  ni_row (ni_okP (ni_sipush ni_dX2_putLetter_4 (by decide +kernel))) (ni_muP (ni_eqPush fun _ => rfl)) <|
  ni_row (ni_okP (ni_ic_lt ni_dX2_putLetter_7 (by decide))) (ni_muP ni_eqIc) <|
  ni_row (ni_ret ni_dX2_putLetter_10) ni_muR <|
  ni_row (ni_aloadn ni_dX2_putLetter_11 rfl) ni_muLd <|
  ni_row (ni_get (T := TX2) ni_dX2_putLetter_12 (by decide) rfl (by decide) ni_uX2 ni_w200) ni_muGet <|
  ni_row (ni_aloadn ni_dX2_putLetter_15 rfl) ni_muLd <|
  ni_row (ni_get (T := TX2) ni_dX2_putLetter_16 (by decide) rfl (by decide) ni_uX2 ni_w197) ni_muGet <|
  ni_row (ni_len ni_dX2_putLetter_19) ni_muLen <|
  ni_row (ni_okP (ni_ic_lt ni_dX2_putLetter_20 (by decide))) (ni_muP ni_eqIc) <|
  ni_row (ni_aloadn ni_dX2_putLetter_23 rfl) ni_muLd <|
  ni_row (ni_aloadn ni_dX2_putLetter_24 rfl) ni_muLd <|
  ni_row (ni_get (T := TX2) ni_dX2_putLetter_25 (by decide) rfl (by decide) ni_uX2 ni_w200) ni_muGet <|
  ni_row (ni_okP (ni_iconst ni_dX2_putLetter_28 (by decide +kernel))) (ni_muP (ni_eqPush fun _ => rfl)) <|
  ni_row (ni_okP (ni_imul ni_dX2_putLetter_29)) (ni_muP ni_eqI) <|
  ni_row (ni_virt (y := 64) (T := TX2) ni_dX2_putLetter_30 (by decide) rfl rfl ni_w565 ni_w567 ni_w5 ni_w34 ni_w568 ⟨by decide +kernel, by decide +kernel, by decide +kernel⟩ (by decide) rfl) (ni_muV (by decide)) <|
  ni_row (ni_aloadn ni_dX2_putLetter_33 rfl) ni_muLd <|
  ni_row (ni_get (T := TX2) ni_dX2_putLetter_34 (by decide) rfl (by decide) ni_uX2 ni_w197) ni_muGet <|
  ni_row (ni_aloadn ni_dX2_putLetter_37 rfl) ni_muLd <|
  ni_row (ni_get (T := TX2) ni_dX2_putLetter_38 (by decide) rfl (by decide) ni_uX2 ni_w200) ni_muGet <|
  ni_row (ni_aloadn ni_dX2_putLetter_41 rfl) ni_muLd <|
  ni_row (ni_aast ni_dX2_putLetter_42) ni_muQst <|
  ni_row (ni_aloadn ni_dX2_putLetter_43 rfl) ni_muLd <|
  ni_row (ni_get (T := TX2) ni_dX2_putLetter_44 (by decide) rfl (by decide) ni_uX2 ni_w199) ni_muGet <|
  ni_row (ni_aloadn ni_dX2_putLetter_47 rfl) ni_muLd <|
  ni_row (ni_get (T := TX2) ni_dX2_putLetter_48 (by decide) rfl (by decide) ni_uX2 ni_w200) ni_muGet <|
  ni_row (ni_iloadn ni_dX2_putLetter_51 rfl) ni_muLd <|
  ni_row (ni_iast ni_dX2_putLetter_52) ni_muAst <|
  ni_row (ni_aloadn ni_dX2_putLetter_53 rfl) ni_muLd <|
  ni_row (ni_okP (ni_dup ni_dX2_putLetter_54)) (ni_muP ni_eqDup) <|
  ni_row (ni_get (T := TX2) ni_dX2_putLetter_55 (by decide) rfl (by decide) ni_uX2 ni_w200) ni_muGet <|
  ni_row (ni_okP (ni_iconst ni_dX2_putLetter_58 (by decide +kernel))) (ni_muP (ni_eqPush fun _ => rfl)) <|
  ni_row (ni_okP (ni_iadd ni_dX2_putLetter_59)) (ni_muP ni_eqI) <|
  ni_row (ni_putA (T := TX2) (ty0 := tyX2) (b := false) (Or.inl rfl) rfl ni_dX2_putLetter_60 (by decide) rfl (by decide) ni_uX2 tyX2_ok nmX2 ni_w200) ni_muPut <|
  ni_row (ni_ret ni_dX2_putLetter_63) ni_muR <|
  ni_row0
def ni_pr66 : List (Nat × ni_S) := [(0, ni_sLd 3 0 1),
  (1, ni_sGet 2 3 4),
  (4, ni_sLd 0 2 5),
  (5, ni_sP (ni_gPush (.int 21) 7)),
  (7, ni_sC 158 2 10),
  (10, ni_sLd 0 1 11),
  (11, ni_sAst .int 0 12),
  (12, ni_sLd 3 0 13),
  (13, ni_sP (ni_gDup 14)),
  (14, ni_sGet 2 4 17),
  (17, ni_sP (ni_gPush (.int 1) 18)),
  (18, ni_sP (ni_gI (fun x y => x + y) 19)),
  (19, ni_sPut 2 4 (.int) 22),
  (22, ni_sR (none))]
theorem ni_pk66 : ∀ r ∈ ni_pr66, ni_Ok xs yX2_putPacket cX2_putPacket 3 (none) [] r.1 r.2 ∧ ni_MU r.2 := ni_row (ni_aloadn ni_dX2_putPacket_0 rfl) ni_muLd <|
  ni_row (ni_get (T := TX2) ni_dX2_putPacket_1 (by decide) rfl (by decide) ni_uX2 ni_w203) ni_muGet <|
  ni_row (ni_iloadn ni_dX2_putPacket_4 rfl) ni_muLd <|
  ni_row (ni_okP (ni_bipush ni_dX2_putPacket_5 (by decide +kernel))) (ni_muP (ni_eqPush fun _ => rfl)) <|
  ni_row (ni_stat (y := 158) ni_dX2_putPacket_7 ni_w599 ni_w600 ni_w46 ni_w601 ⟨by decide +kernel, by decide +kernel, by decide +kernel⟩ (by decide) rfl) ni_muC <|
  ni_row (ni_iloadn ni_dX2_putPacket_10 rfl) ni_muLd <|
  ni_row (ni_iast ni_dX2_putPacket_11) ni_muAst <|
  ni_row (ni_aloadn ni_dX2_putPacket_12 rfl) ni_muLd <|
  ni_row (ni_okP (ni_dup ni_dX2_putPacket_13)) (ni_muP ni_eqDup) <|
  ni_row (ni_get (T := TX2) ni_dX2_putPacket_14 (by decide) rfl (by decide) ni_uX2 ni_w205) ni_muGet <|
  ni_row (ni_okP (ni_iconst ni_dX2_putPacket_17 (by decide +kernel))) (ni_muP (ni_eqPush fun _ => rfl)) <|
  ni_row (ni_okP (ni_iadd ni_dX2_putPacket_18)) (ni_muP ni_eqI) <|
  ni_row (ni_putA (T := TX2) (ty0 := tyX2) (b := false) (Or.inl rfl) rfl ni_dX2_putPacket_19 (by decide) rfl (by decide) ni_uX2 tyX2_ok nmX2 ni_w205) ni_muPut <|
  ni_row (ni_ret ni_dX2_putPacket_22) ni_muR <|
  ni_row0
def ni_pr67 : List (Nat × ni_S) := [(0, ni_sLd 0 1 1),
  (1, ni_sSt 0 2 2),
  (2, ni_sLd 0 2 3),
  (3, ni_sLd 3 0 4),
  (4, ni_sGet 2 2 7),
  (7, ni_sP (ni_gIc (fun x y => decide (y ≤ x)) 44 10)),
  (10, ni_sLd 3 0 11),
  (11, ni_sGet 2 0 14),
  (14, ni_sLd 0 2 15),
  (15, ni_sLd 0 1 16),
  (16, ni_sP (ni_gI (fun x y => x - y) 17)),
  (17, ni_sLd 3 0 18),
  (18, ni_sGet 2 0 21),
  (21, ni_sLd 0 2 22),
  (22, ni_sQld 23),
  (23, ni_sQst 24),
  (24, ni_sLd 3 0 25),
  (25, ni_sGet 2 1 28),
  (28, ni_sLd 0 2 29),
  (29, ni_sLd 0 1 30),
  (30, ni_sP (ni_gI (fun x y => x - y) 31)),
  (31, ni_sLd 3 0 32),
  (32, ni_sGet 2 1 35),
  (35, ni_sLd 0 2 36),
  (36, ni_sAld .int 0 37),
  (37, ni_sAst .int 0 38),
  (38, ni_sInc 2 (1) 41),
  (41, ni_sP (ni_gGo 2)),
  (44, ni_sLd 3 0 45),
  (45, ni_sP (ni_gDup 46)),
  (46, ni_sGet 2 2 49),
  (49, ni_sLd 0 1 50),
  (50, ni_sP (ni_gI (fun x y => x - y) 51)),
  (51, ni_sPut 2 2 (.int) 54),
  (54, ni_sR (none))]
theorem ni_pk67 : ∀ r ∈ ni_pr67, ni_Ok xs yX2_removeLetters cX2_removeLetters 3 (none) [] r.1 r.2 ∧ ni_MU r.2 := ni_row (ni_iloadn ni_dX2_removeLetters_0 rfl) ni_muLd <|
  ni_row (ni_istoren ni_dX2_removeLetters_1 rfl (by decide)) ni_muSt <|
  ni_row (ni_iloadn ni_dX2_removeLetters_2 rfl) ni_muLd <|
  ni_row (ni_aloadn ni_dX2_removeLetters_3 rfl) ni_muLd <|
  ni_row (ni_get (T := TX2) ni_dX2_removeLetters_4 (by decide) rfl (by decide) ni_uX2 ni_w200) ni_muGet <|
  ni_row (ni_okP (ni_ic_ge ni_dX2_removeLetters_7 (by decide))) (ni_muP ni_eqIc) <|
  ni_row (ni_aloadn ni_dX2_removeLetters_10 rfl) ni_muLd <|
  ni_row (ni_get (T := TX2) ni_dX2_removeLetters_11 (by decide) rfl (by decide) ni_uX2 ni_w197) ni_muGet <|
  ni_row (ni_iloadn ni_dX2_removeLetters_14 rfl) ni_muLd <|
  ni_row (ni_iloadn ni_dX2_removeLetters_15 rfl) ni_muLd <|
  ni_row (ni_okP (ni_isub ni_dX2_removeLetters_16)) (ni_muP ni_eqI) <|
  ni_row (ni_aloadn ni_dX2_removeLetters_17 rfl) ni_muLd <|
  ni_row (ni_get (T := TX2) ni_dX2_removeLetters_18 (by decide) rfl (by decide) ni_uX2 ni_w197) ni_muGet <|
  ni_row (ni_iloadn ni_dX2_removeLetters_21 rfl) ni_muLd <|
  ni_row (ni_aald ni_dX2_removeLetters_22) ni_muQld <|
  ni_row (ni_aast ni_dX2_removeLetters_23) ni_muQst <|
  ni_row (ni_aloadn ni_dX2_removeLetters_24 rfl) ni_muLd <|
  ni_row (ni_get (T := TX2) ni_dX2_removeLetters_25 (by decide) rfl (by decide) ni_uX2 ni_w199) ni_muGet <|
  ni_row (ni_iloadn ni_dX2_removeLetters_28 rfl) ni_muLd <|
  ni_row (ni_iloadn ni_dX2_removeLetters_29 rfl) ni_muLd <|
  ni_row (ni_okP (ni_isub ni_dX2_removeLetters_30)) (ni_muP ni_eqI) <|
  ni_row (ni_aloadn ni_dX2_removeLetters_31 rfl) ni_muLd <|
  ni_row (ni_get (T := TX2) ni_dX2_removeLetters_32 (by decide) rfl (by decide) ni_uX2 ni_w199) ni_muGet <|
  ni_row (ni_iloadn ni_dX2_removeLetters_35 rfl) ni_muLd <|
  ni_row (ni_iald ni_dX2_removeLetters_36) ni_muAld <|
  ni_row (ni_iast ni_dX2_removeLetters_37) ni_muAst <|
  ni_row (ni_iinc (n := 1) ni_dX2_removeLetters_38 (by decide)) ni_muInc <|
  ni_row (ni_okP (ni_goto ni_dX2_removeLetters_41 (by decide))) (ni_muP ni_eqGo) <|
  ni_row (ni_aloadn ni_dX2_removeLetters_44 rfl) ni_muLd <|
  ni_row (ni_okP (ni_dup ni_dX2_removeLetters_45)) (ni_muP ni_eqDup) <|
  ni_row (ni_get (T := TX2) ni_dX2_removeLetters_46 (by decide) rfl (by decide) ni_uX2 ni_w200) ni_muGet <|
  ni_row (ni_iloadn ni_dX2_removeLetters_49 rfl) ni_muLd <|
  ni_row (ni_okP (ni_isub ni_dX2_removeLetters_50)) (ni_muP ni_eqI) <|
  ni_row (ni_putA (T := TX2) (ty0 := tyX2) (b := false) (Or.inl rfl) rfl ni_dX2_removeLetters_51 (by decide) rfl (by decide) ni_uX2 tyX2_ok nmX2 ni_w200) ni_muPut <|
  ni_row (ni_ret ni_dX2_removeLetters_54) ni_muR <|
  ni_row0
def ni_pr68 : List (Nat × ni_S) := [(0, ni_sLd 0 1 1),
  (1, ni_sP (ni_gPush (.int 21) 3)),
  (3, ni_sC 158 2 6),
  (6, ni_sSt 0 2 7),
  (7, ni_sLd 3 0 8),
  (8, ni_sGet 2 3 11),
  (11, ni_sLd 0 2 12),
  (12, ni_sAld .int 0 13),
  (13, ni_sSt 0 3 14),
  (14, ni_sLd 0 3 15),
  (15, ni_sP (ni_gPush (.int (-1)) 16)),
  (16, ni_sP (ni_gIc (fun x y => decide (x = y)) 36 19)),
  (19, ni_sLd 3 0 20),
  (20, ni_sGet 2 3 23),
  (23, ni_sLd 0 2 24),
  (24, ni_sP (ni_gPush (.int (-1)) 25)),
  (25, ni_sAst .int 0 26),
  (26, ni_sLd 3 0 27),
  (27, ni_sP (ni_gDup 28)),
  (28, ni_sGet 2 4 31),
  (31, ni_sP (ni_gPush (.int 1) 32)),
  (32, ni_sP (ni_gI (fun x y => x - y) 33)),
  (33, ni_sPut 2 4 (.int) 36),
  (36, ni_sLd 0 3 37),
  (37, ni_sR (some .int))]
theorem ni_pk68 : ∀ r ∈ ni_pr68, ni_Ok xs yX2_takePacket cX2_takePacket 4 (some .int) [] r.1 r.2 ∧ ni_MU r.2 := ni_row (ni_iloadn ni_dX2_takePacket_0 rfl) ni_muLd <|
  ni_row (ni_okP (ni_bipush ni_dX2_takePacket_1 (by decide +kernel))) (ni_muP (ni_eqPush fun _ => rfl)) <|
  ni_row (ni_stat (y := 158) ni_dX2_takePacket_3 ni_w599 ni_w600 ni_w46 ni_w601 ⟨by decide +kernel, by decide +kernel, by decide +kernel⟩ (by decide) rfl) ni_muC <|
  ni_row (ni_istoren ni_dX2_takePacket_6 rfl (by decide)) ni_muSt <|
  ni_row (ni_aloadn ni_dX2_takePacket_7 rfl) ni_muLd <|
  ni_row (ni_get (T := TX2) ni_dX2_takePacket_8 (by decide) rfl (by decide) ni_uX2 ni_w203) ni_muGet <|
  ni_row (ni_iloadn ni_dX2_takePacket_11 rfl) ni_muLd <|
  ni_row (ni_iald ni_dX2_takePacket_12) ni_muAld <|
  ni_row (ni_istoren ni_dX2_takePacket_13 rfl (by decide)) ni_muSt <|
  ni_row (ni_iloadn ni_dX2_takePacket_14 rfl) ni_muLd <|
  ni_row (ni_okP (ni_iconst ni_dX2_takePacket_15 (by decide +kernel))) (ni_muP (ni_eqPush fun _ => rfl)) <|
  ni_row (ni_okP (ni_ic_eq ni_dX2_takePacket_16 (by decide))) (ni_muP ni_eqIc) <|
  ni_row (ni_aloadn ni_dX2_takePacket_19 rfl) ni_muLd <|
  ni_row (ni_get (T := TX2) ni_dX2_takePacket_20 (by decide) rfl (by decide) ni_uX2 ni_w203) ni_muGet <|
  ni_row (ni_iloadn ni_dX2_takePacket_23 rfl) ni_muLd <|
  ni_row (ni_okP (ni_iconst ni_dX2_takePacket_24 (by decide +kernel))) (ni_muP (ni_eqPush fun _ => rfl)) <|
  ni_row (ni_iast ni_dX2_takePacket_25) ni_muAst <|
  ni_row (ni_aloadn ni_dX2_takePacket_26 rfl) ni_muLd <|
  ni_row (ni_okP (ni_dup ni_dX2_takePacket_27)) (ni_muP ni_eqDup) <|
  ni_row (ni_get (T := TX2) ni_dX2_takePacket_28 (by decide) rfl (by decide) ni_uX2 ni_w205) ni_muGet <|
  ni_row (ni_okP (ni_iconst ni_dX2_takePacket_31 (by decide +kernel))) (ni_muP (ni_eqPush fun _ => rfl)) <|
  ni_row (ni_okP (ni_isub ni_dX2_takePacket_32)) (ni_muP ni_eqI) <|
  ni_row (ni_putA (T := TX2) (ty0 := tyX2) (b := false) (Or.inl rfl) rfl ni_dX2_takePacket_33 (by decide) rfl (by decide) ni_uX2 tyX2_ok nmX2 ni_w205) ni_muPut <|
  ni_row (ni_iloadn ni_dX2_takePacket_36 rfl) ni_muLd <|
  ni_row (ni_ret ni_dX2_takePacket_37) ni_muR <|
  ni_row0
def ni_pr69 : List (Nat × ni_S) := [(0, ni_sLd 3 0 1),
  (1, ni_sP (ni_gObj 4)),
  (4, ni_sLd 3 0 5),
  (5, ni_sNew 5 [.null, .int 0, .int 0, .int 0, .int 0, .null, .null, .int 0, .int 0, .null, .int 0, .int 0, .int 0, .int 0] 8),
  (8, ni_sP (ni_gDup 9)),
  (9, ni_sI 105 0 12),
  (12, ni_sPut 3 6 (.object "Switchyard$Port") 15),
  (15, ni_sLd 3 0 16),
  (16, ni_sNew 5 [.null, .int 0, .int 0, .int 0, .int 0, .null, .null, .int 0, .int 0, .null, .int 0, .int 0, .int 0, .int 0] 19),
  (19, ni_sP (ni_gDup 20)),
  (20, ni_sI 105 0 23),
  (23, ni_sPut 3 7 (.object "Switchyard$Port") 26),
  (26, ni_sR (none))]
theorem ni_pk69 : ∀ r ∈ ni_pr69, ni_Ok xs yX3_init cX3_init 1 (none) [] r.1 r.2 ∧ ni_MU r.2 := ni_row (ni_aloadn ni_dX3_init_0 rfl) ni_muLd <|
  ni_row (ni_okP (ni_objInit ni_dX3_init_1 ni_w182 ni_w55 ni_w56)) (ni_muP ni_eqObj) <|
  ni_row (ni_aloadn ni_dX3_init_4 rfl) ni_muLd <|
  ni_row (ni_new (T := TX6) (ty0 := tyX6) ni_dX3_init_5 (by decide) rfl ni_uX6 tyX6_ok rfl (by decide +kernel) ni_w183 ni_w184 ni_w33) (ni_muNew fun _ => rfl) <|
  ni_row (ni_okP (ni_dup ni_dX3_init_8)) (ni_muP ni_eqDup) <|
  ni_row (ni_init (y := 105) ni_dX3_init_9 rfl rfl ni_w185 ni_w186 ni_w33 ni_w187 ⟨by decide +kernel, by decide +kernel, by decide +kernel⟩ (by decide) rfl) ni_muI <|
  ni_row (ni_putA (T := TX3) (ty0 := tyX3) (b := true) (Or.inr ⟨rfl, rfl, rfl⟩) rfl ni_dX3_init_12 (by decide) rfl (by decide) ni_uX3 tyX3_ok nmX3 ni_w281) ni_muPut <|
  ni_row (ni_aloadn ni_dX3_init_15 rfl) ni_muLd <|
  ni_row (ni_new (T := TX6) (ty0 := tyX6) ni_dX3_init_16 (by decide) rfl ni_uX6 tyX6_ok rfl (by decide +kernel) ni_w183 ni_w184 ni_w33) (ni_muNew fun _ => rfl) <|
  ni_row (ni_okP (ni_dup ni_dX3_init_19)) (ni_muP ni_eqDup) <|
  ni_row (ni_init (y := 105) ni_dX3_init_20 rfl rfl ni_w185 ni_w186 ni_w33 ni_w187 ⟨by decide +kernel, by decide +kernel, by decide +kernel⟩ (by decide) rfl) ni_muI <|
  ni_row (ni_putA (T := TX3) (ty0 := tyX3) (b := true) (Or.inr ⟨rfl, rfl, rfl⟩) rfl ni_dX3_init_23 (by decide) rfl (by decide) ni_uX3 tyX3_ok nmX3 ni_w284) ni_muPut <|
  ni_row (ni_ret ni_dX3_init_26) ni_muR <|
  ni_row0
def ni_pr70 : List (Nat × ni_S) := [(0, ni_sLd 3 0 1),
  (1, ni_sLd 3 1 2),
  (2, ni_sGet 3 0 5),
  (5, ni_sPut 3 0 (.int) 8),
  (8, ni_sLd 3 0 9),
  (9, ni_sLd 3 1 10),
  (10, ni_sGet 3 1 13),
  (13, ni_sPut 3 1 (.int) 16),
  (16, ni_sLd 3 0 17),
  (17, ni_sLd 3 1 18),
  (18, ni_sGet 3 2 21),
  (21, ni_sPut 3 2 (.int) 24),
  (24, ni_sLd 3 0 25),
  (25, ni_sLd 3 1 26),
  (26, ni_sGet 3 3 29),
  (29, ni_sPut 3 3 (.int) 32),
  (32, ni_sLd 3 0 33),
  (33, ni_sLd 3 1 34),
  (34, ni_sGet 3 4 37),
  (37, ni_sPut 3 4 (.int) 40),
  (40, ni_sLd 3 0 41),
  (41, ni_sLd 3 1 42),
  (42, ni_sGet 3 5 45),
  (45, ni_sPut 3 5 (.boolean) 48),
  (48, ni_sLd 3 0 49),
  (49, ni_sGet 3 6 52),
  (52, ni_sLd 3 1 53),
  (53, ni_sGet 3 6 56),
  (56, ni_sV 109 1 5 59),
  (59, ni_sLd 3 0 60),
  (60, ni_sGet 3 7 63),
  (63, ni_sLd 3 1 64),
  (64, ni_sGet 3 7 67),
  (67, ni_sV 109 1 5 70),
  (70, ni_sR (none))]
theorem ni_pk70 : ∀ r ∈ ni_pr70, ni_Ok xs yX3_copyFrom cX3_copyFrom 2 (none) [] r.1 r.2 ∧ ni_MU r.2 := ni_row (ni_aloadn ni_dX3_copyFrom_0 rfl) ni_muLd <|
  ni_row (ni_aloadn ni_dX3_copyFrom_1 rfl) ni_muLd <|
  ni_row (ni_get (T := TX3) ni_dX3_copyFrom_2 (by decide) rfl (by decide) ni_uX3 ni_w267) ni_muGet <|
  ni_row (ni_putA (T := TX3) (ty0 := tyX3) (b := false) (Or.inl rfl) rfl ni_dX3_copyFrom_5 (by decide) rfl (by decide) ni_uX3 tyX3_ok nmX3 ni_w267) ni_muPut <|
  ni_row (ni_aloadn ni_dX3_copyFrom_8 rfl) ni_muLd <|
  ni_row (ni_aloadn ni_dX3_copyFrom_9 rfl) ni_muLd <|
  ni_row (ni_get (T := TX3) ni_dX3_copyFrom_10 (by decide) rfl (by decide) ni_uX3 ni_w269) ni_muGet <|
  ni_row (ni_putA (T := TX3) (ty0 := tyX3) (b := false) (Or.inl rfl) rfl ni_dX3_copyFrom_13 (by decide) rfl (by decide) ni_uX3 tyX3_ok nmX3 ni_w269) ni_muPut <|
  ni_row (ni_aloadn ni_dX3_copyFrom_16 rfl) ni_muLd <|
  ni_row (ni_aloadn ni_dX3_copyFrom_17 rfl) ni_muLd <|
  ni_row (ni_get (T := TX3) ni_dX3_copyFrom_18 (by decide) rfl (by decide) ni_uX3 ni_w272) ni_muGet <|
  ni_row (ni_putA (T := TX3) (ty0 := tyX3) (b := false) (Or.inl rfl) rfl ni_dX3_copyFrom_21 (by decide) rfl (by decide) ni_uX3 tyX3_ok nmX3 ni_w272) ni_muPut <|
  ni_row (ni_aloadn ni_dX3_copyFrom_24 rfl) ni_muLd <|
  ni_row (ni_aloadn ni_dX3_copyFrom_25 rfl) ni_muLd <|
  ni_row (ni_get (T := TX3) ni_dX3_copyFrom_26 (by decide) rfl (by decide) ni_uX3 ni_w274) ni_muGet <|
  ni_row (ni_putA (T := TX3) (ty0 := tyX3) (b := false) (Or.inl rfl) rfl ni_dX3_copyFrom_29 (by decide) rfl (by decide) ni_uX3 tyX3_ok nmX3 ni_w274) ni_muPut <|
  ni_row (ni_aloadn ni_dX3_copyFrom_32 rfl) ni_muLd <|
  ni_row (ni_aloadn ni_dX3_copyFrom_33 rfl) ni_muLd <|
  ni_row (ni_get (T := TX3) ni_dX3_copyFrom_34 (by decide) rfl (by decide) ni_uX3 ni_w276) ni_muGet <|
  ni_row (ni_putA (T := TX3) (ty0 := tyX3) (b := false) (Or.inl rfl) rfl ni_dX3_copyFrom_37 (by decide) rfl (by decide) ni_uX3 tyX3_ok nmX3 ni_w276) ni_muPut <|
  ni_row (ni_aloadn ni_dX3_copyFrom_40 rfl) ni_muLd <|
  ni_row (ni_aloadn ni_dX3_copyFrom_41 rfl) ni_muLd <|
  ni_row (ni_get (T := TX3) ni_dX3_copyFrom_42 (by decide) rfl (by decide) ni_uX3 ni_w279) ni_muGet <|
  ni_row (ni_putA (T := TX3) (ty0 := tyX3) (b := false) (Or.inl rfl) rfl ni_dX3_copyFrom_45 (by decide) rfl (by decide) ni_uX3 tyX3_ok nmX3 ni_w279) ni_muPut <|
  ni_row (ni_aloadn ni_dX3_copyFrom_48 rfl) ni_muLd <|
  ni_row (ni_get (T := TX3) ni_dX3_copyFrom_49 (by decide) rfl (by decide) ni_uX3 ni_w281) ni_muGet <|
  ni_row (ni_aloadn ni_dX3_copyFrom_52 rfl) ni_muLd <|
  ni_row (ni_get (T := TX3) ni_dX3_copyFrom_53 (by decide) rfl (by decide) ni_uX3 ni_w281) ni_muGet <|
  ni_row (ni_virt (y := 109) (T := TX6) ni_dX3_copyFrom_56 (by decide) rfl rfl ni_w930 ni_w931 ni_w932 ni_w33 ni_w933 ⟨by decide +kernel, by decide +kernel, by decide +kernel⟩ (by decide) rfl) (ni_muV (by decide)) <|
  ni_row (ni_aloadn ni_dX3_copyFrom_59 rfl) ni_muLd <|
  ni_row (ni_get (T := TX3) ni_dX3_copyFrom_60 (by decide) rfl (by decide) ni_uX3 ni_w284) ni_muGet <|
  ni_row (ni_aloadn ni_dX3_copyFrom_63 rfl) ni_muLd <|
  ni_row (ni_get (T := TX3) ni_dX3_copyFrom_64 (by decide) rfl (by decide) ni_uX3 ni_w284) ni_muGet <|
  ni_row (ni_virt (y := 109) (T := TX6) ni_dX3_copyFrom_67 (by decide) rfl rfl ni_w930 ni_w931 ni_w932 ni_w33 ni_w933 ⟨by decide +kernel, by decide +kernel, by decide +kernel⟩ (by decide) rfl) (ni_muV (by decide)) <|
  ni_row (ni_ret ni_dX3_copyFrom_70) ni_muR <|
  ni_row0
end NIP
