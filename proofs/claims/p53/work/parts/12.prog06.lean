section NIP
variable {xs : List Int32}
def ni_pr97 : List (Nat × ni_S) := [(0, ni_sLd 3 0 1),
  (1, ni_sGet 4 4 4),
  (4, ni_sLd 0 1 5),
  (5, ni_sQld 6),
  (6, ni_sSt 3 2 7),
  (7, ni_sP (ni_gPush (.int 0) 8)),
  (8, ni_sSt 0 3 9),
  (9, ni_sP (ni_gPush (.int 14) 11)),
  (11, ni_sNewa 0 .int 13),
  (13, ni_sSt 3 4 15),
  (15, ni_sP (ni_gPush (.int 0) 16)),
  (16, ni_sSt 0 5 18),
  (18, ni_sLd 0 5 20),
  (20, ni_sLd 3 0 21),
  (21, ni_sGet 4 2 24),
  (24, ni_sP (ni_gIc (fun x y => decide (y ≤ x)) 82 27)),
  (27, ni_sLd 3 0 28),
  (28, ni_sGet 4 5 31),
  (31, ni_sLd 0 5 33),
  (33, ni_sQld 34),
  (34, ni_sGet 3 5 37),
  (37, ni_sP (ni_gIf (fun x => decide (x = 0)) 76 40)),
  (40, ni_sLd 3 0 41),
  (41, ni_sGet 4 5 44),
  (44, ni_sLd 0 5 46),
  (46, ni_sQld 47),
  (47, ni_sLd 0 1 48),
  (48, ni_sV 74 1 3 51),
  (51, ni_sP (ni_gIf (fun x => decide (x = 0)) 76 54)),
  (54, ni_sLd 0 3 55),
  (55, ni_sP (ni_gPush (.int 1) 56)),
  (56, ni_sLd 0 5 58),
  (58, ni_sP (ni_gI (fun x y => x <<< (y &&& 31)) 59)),
  (59, ni_sP (ni_gI (fun x y => x ||| y) 60)),
  (60, ni_sSt 0 3 61),
  (61, ni_sLd 3 4 63),
  (63, ni_sLd 0 5 65),
  (65, ni_sLd 3 0 66),
  (66, ni_sGet 4 5 69),
  (69, ni_sLd 0 5 71),
  (71, ni_sQld 72),
  (72, ni_sGet 3 2 75),
  (75, ni_sAst .int 0 76),
  (76, ni_sInc 5 (1) 79),
  (79, ni_sP (ni_gGo 18)),
  (82, ni_sLd 3 2 83),
  (83, ni_sGet 7 1 86),
  (86, ni_sLd 0 1 87),
  (87, ni_sQld 88),
  (88, ni_sGet 1 1 91),
  (91, ni_sP (ni_gPush (.int 1) 92)),
  (92, ni_sP (ni_gI (fun x y => x + y) 93)),
  (93, ni_sSt 0 5 95),
  (95, ni_sNew 1 [.int 0, .int 0, .int 0, .null, .null] 98),
  (98, ni_sP (ni_gDup 99)),
  (99, ni_sLd 0 1 100),
  (100, ni_sLd 0 5 102),
  (102, ni_sLd 0 3 103),
  (103, ni_sLd 3 4 105),
  (105, ni_sLd 3 0 106),
  (106, ni_sGet 4 7 109),
  (109, ni_sLd 0 1 110),
  (110, ni_sV 130 1 6 113),
  (113, ni_sI 59 5 116),
  (116, ni_sSt 3 6 118),
  (118, ni_sLd 3 2 119),
  (119, ni_sLd 3 6 121),
  (121, ni_sV 137 1 7 124),
  (124, ni_sLd 3 0 125),
  (125, ni_sLd 0 1 126),
  (126, ni_sLd 3 6 128),
  (128, ni_sP (ni_gPush (.int (-1)) 129)),
  (129, ni_sV 95 3 4 132),
  (132, ni_sR (none))]
theorem ni_pk97 : ∀ r ∈ ni_pr97, ni_Ok xs yX4_writeLetter cX4_writeLetter 7 (none) [] r.1 r.2 ∧ ni_MU r.2 := ni_row (ni_aloadn ni_dX4_writeLetter_0 rfl) ni_muLd <|
  ni_row (ni_get (T := TX4) ni_dX4_writeLetter_1 (by decide) rfl (by decide) ni_uX4 ni_w395) ni_muGet <|
  ni_row (ni_iloadn ni_dX4_writeLetter_4 rfl) ni_muLd <|
  ni_row (ni_aald ni_dX4_writeLetter_5) ni_muQld <|
  ni_row (ni_astoren ni_dX4_writeLetter_6 rfl (by decide)) ni_muSt <|
  ni_row (ni_okP (ni_iconst ni_dX4_writeLetter_7 (by decide +kernel))) (ni_muP (ni_eqPush fun _ => rfl)) <|
  ni_row (ni_istoren ni_dX4_writeLetter_8 rfl (by decide)) ni_muSt <|
  ni_row (ni_okP (ni_bipush ni_dX4_writeLetter_9 (by decide +kernel))) (ni_muP (ni_eqPush fun _ => rfl)) <|
  ni_row (ni_newa ni_dX4_writeLetter_11 rfl rfl (by decide) ni_w93) ni_muNewa <|
  ni_row (ni_astore ni_dX4_writeLetter_13 (by decide)) ni_muSt <|
  ni_row (ni_okP (ni_iconst ni_dX4_writeLetter_15 (by decide +kernel))) (ni_muP (ni_eqPush fun _ => rfl)) <|
  ni_row (ni_istore ni_dX4_writeLetter_16 (by decide)) ni_muSt <|
  ni_row (ni_iload ni_dX4_writeLetter_18) ni_muLd <|
  ni_row (ni_aloadn ni_dX4_writeLetter_20 rfl) ni_muLd <|
  ni_row (ni_get (T := TX4) ni_dX4_writeLetter_21 (by decide) rfl (by decide) ni_uX4 ni_w391) ni_muGet <|
  ni_row (ni_okP (ni_ic_ge ni_dX4_writeLetter_24 (by decide))) (ni_muP ni_eqIc) <|
  ni_row (ni_aloadn ni_dX4_writeLetter_27 rfl) ni_muLd <|
  ni_row (ni_get (T := TX4) ni_dX4_writeLetter_28 (by decide) rfl (by decide) ni_uX4 ni_w397) ni_muGet <|
  ni_row (ni_iload ni_dX4_writeLetter_31) ni_muLd <|
  ni_row (ni_aald ni_dX4_writeLetter_33) ni_muQld <|
  ni_row (ni_get (T := TX3) ni_dX4_writeLetter_34 (by decide) rfl (by decide) ni_uX3 ni_w277) ni_muGet <|
  ni_row (ni_okP (ni_if_eq ni_dX4_writeLetter_37 (by decide))) (ni_muP ni_eqIf) <|
  ni_row (ni_aloadn ni_dX4_writeLetter_40 rfl) ni_muLd <|
  ni_row (ni_get (T := TX4) ni_dX4_writeLetter_41 (by decide) rfl (by decide) ni_uX4 ni_w397) ni_muGet <|
  ni_row (ni_iload ni_dX4_writeLetter_44) ni_muLd <|
  ni_row (ni_aald ni_dX4_writeLetter_46) ni_muQld <|
  ni_row (ni_iloadn ni_dX4_writeLetter_47 rfl) ni_muLd <|
  ni_row (ni_virt (y := 74) (T := TX3) ni_dX4_writeLetter_48 (by decide) rfl rfl ni_w537 ni_w538 ni_w539 ni_w32 ni_w540 ⟨by decide +kernel, by decide +kernel, by decide +kernel⟩ (by decide) rfl) (ni_muV (by decide)) <|
  ni_row (ni_okP (ni_if_eq ni_dX4_writeLetter_51 (by decide))) (ni_muP ni_eqIf) <|
  ni_row (ni_iloadn ni_dX4_writeLetter_54 rfl) ni_muLd <|
  ni_row (ni_okP (ni_iconst ni_dX4_writeLetter_55 (by decide +kernel))) (ni_muP (ni_eqPush fun _ => rfl)) <|
  ni_row (ni_iload ni_dX4_writeLetter_56) ni_muLd <|
  ni_row (ni_okP (ni_ishl ni_dX4_writeLetter_58)) (ni_muP ni_eqI) <|
  ni_row (ni_okP (ni_ior ni_dX4_writeLetter_59)) (ni_muP ni_eqI) <|
  ni_row (ni_istoren ni_dX4_writeLetter_60 rfl (by decide)) ni_muSt <|
  ni_row (ni_aload ni_dX4_writeLetter_61) ni_muLd <|
  ni_row (ni_iload ni_dX4_writeLetter_63) ni_muLd <|
  ni_row (ni_aloadn ni_dX4_writeLetter_65 rfl) ni_muLd <|
  ni_row (ni_get (T := TX4) ni_dX4_writeLetter_66 (by decide) rfl (by decide) ni_uX4 ni_w397) ni_muGet <|
  ni_row (ni_iload ni_dX4_writeLetter_69) ni_muLd <|
  ni_row (ni_aald ni_dX4_writeLetter_71) ni_muQld <|
  ni_row (ni_get (T := TX3) ni_dX4_writeLetter_72 (by decide) rfl (by decide) ni_uX3 ni_w271) ni_muGet <|
  ni_row (ni_iast ni_dX4_writeLetter_75) ni_muAst <|
  ni_row (ni_iinc (n := 1) ni_dX4_writeLetter_76 (by decide)) ni_muInc <|
  ni_row (ni_okP (ni_goto ni_dX4_writeLetter_79 (by decide))) (ni_muP ni_eqGo) <|
  ni_row (ni_aloadn ni_dX4_writeLetter_82 rfl) ni_muLd <|
  ni_row (ni_get (T := TX9) ni_dX4_writeLetter_83 (by decide) rfl (by decide) ni_uX9 ni_w363) ni_muGet <|
  ni_row (ni_iloadn ni_dX4_writeLetter_86 rfl) ni_muLd <|
  ni_row (ni_aald ni_dX4_writeLetter_87) ni_muQld <|
  ni_row (ni_get (T := TX1) ni_dX4_writeLetter_88 (by decide) rfl (by decide) ni_uX1 ni_w315) ni_muGet <|
  ni_row (ni_okP (ni_iconst ni_dX4_writeLetter_91 (by decide +kernel))) (ni_muP (ni_eqPush fun _ => rfl)) <|
  ni_row (ni_okP (ni_iadd ni_dX4_writeLetter_92)) (ni_muP ni_eqI) <|
  ni_row (ni_istore ni_dX4_writeLetter_93 (by decide)) ni_muSt <|
  ni_row (ni_new (T := TX1) (ty0 := tyX1) ni_dX4_writeLetter_95 (by decide) rfl ni_uX1 tyX1_ok rfl (by decide +kernel) ni_w305 ni_w306 ni_w36) (ni_muNew fun _ => rfl) <|
  ni_row (ni_okP (ni_dup ni_dX4_writeLetter_98)) (ni_muP ni_eqDup) <|
  ni_row (ni_iloadn ni_dX4_writeLetter_99 rfl) ni_muLd <|
  ni_row (ni_iload ni_dX4_writeLetter_100) ni_muLd <|
  ni_row (ni_iloadn ni_dX4_writeLetter_102 rfl) ni_muLd <|
  ni_row (ni_aload ni_dX4_writeLetter_103) ni_muLd <|
  ni_row (ni_aloadn ni_dX4_writeLetter_105 rfl) ni_muLd <|
  ni_row (ni_get (T := TX4) ni_dX4_writeLetter_106 (by decide) rfl (by decide) ni_uX4 ni_w401) ni_muGet <|
  ni_row (ni_iloadn ni_dX4_writeLetter_109 rfl) ni_muLd <|
  ni_row (ni_virt (y := 130) (T := TX8) ni_dX4_writeLetter_110 (by decide) rfl rfl ni_w541 ni_w542 ni_w543 ni_w30 ni_w544 ⟨by decide +kernel, by decide +kernel, by decide +kernel⟩ (by decide) rfl) (ni_muV (by decide)) <|
  ni_row (ni_init (y := 59) ni_dX4_writeLetter_113 rfl rfl ni_w307 ni_w308 ni_w36 ni_w309 ⟨by decide +kernel, by decide +kernel, by decide +kernel⟩ (by decide) rfl) ni_muI <|
  ni_row (ni_astore ni_dX4_writeLetter_116 (by decide)) ni_muSt <|
  ni_row (ni_aloadn ni_dX4_writeLetter_118 rfl) ni_muLd <|
  ni_row (ni_aload ni_dX4_writeLetter_119) ni_muLd <|
  ni_row (ni_virt (y := 137) (T := TX9) ni_dX4_writeLetter_121 (by decide) rfl rfl ni_w545 ni_w546 ni_w547 ni_w35 ni_w548 ⟨by decide +kernel, by decide +kernel, by decide +kernel⟩ (by decide) rfl) (ni_muV (by decide)) <|
  ni_row (ni_aloadn ni_dX4_writeLetter_124 rfl) ni_muLd <|
  ni_row (ni_iloadn ni_dX4_writeLetter_125 rfl) ni_muLd <|
  ni_row (ni_aload ni_dX4_writeLetter_126) ni_muLd <|
  ni_row (ni_okP (ni_iconst ni_dX4_writeLetter_128 (by decide +kernel))) (ni_muP (ni_eqPush fun _ => rfl)) <|
  ni_row (ni_virt (y := 95) (T := TX4) ni_dX4_writeLetter_129 (by decide) rfl rfl ni_w549 ni_w551 ni_w3 ni_w29 ni_w552 ⟨by decide +kernel, by decide +kernel, by decide +kernel⟩ (by decide) rfl) (ni_muV (by decide)) <|
  ni_row (ni_ret ni_dX4_writeLetter_132) ni_muR <|
  ni_row0
def ni_pr98 : List (Nat × ni_S) := [(0, ni_sLd 0 0 1),
  (1, ni_sP (ni_gPush (.int 10) 3)),
  (3, ni_sP (ni_gI (fun x y => x >>> (y &&& 31)) 4)),
  (4, ni_sP (ni_gPush (.int 3) 5)),
  (5, ni_sP (ni_gI (fun x y => x &&& y) 6)),
  (6, ni_sR (some .int))]
theorem ni_pk98 : ∀ r ∈ ni_pr98, ni_Ok xs yX5_classOf cX5_classOf 1 (some .int) [] r.1 r.2 ∧ ni_MU r.2 := ni_row (ni_iloadn ni_dX5_classOf_0 rfl) ni_muLd <|
  ni_row (ni_okP (ni_bipush ni_dX5_classOf_1 (by decide +kernel))) (ni_muP (ni_eqPush fun _ => rfl)) <|
  ni_row (ni_okP (ni_ishr ni_dX5_classOf_3)) (ni_muP ni_eqI) <|
  ni_row (ni_okP (ni_iconst ni_dX5_classOf_4 (by decide +kernel))) (ni_muP (ni_eqPush fun _ => rfl)) <|
  ni_row (ni_okP (ni_iand ni_dX5_classOf_5)) (ni_muP ni_eqI) <|
  ni_row (ni_ret ni_dX5_classOf_6) ni_muR <|
  ni_row0
def ni_pr99 : List (Nat × ni_S) := [(0, ni_sLd 0 0 1),
  (1, ni_sP (ni_gPush (.int 15) 3)),
  (3, ni_sP (ni_gI (fun x y => x &&& y) 4)),
  (4, ni_sR (some .int))]
theorem ni_pk99 : ∀ r ∈ ni_pr99, ni_Ok xs yX5_flowOf cX5_flowOf 1 (some .int) [] r.1 r.2 ∧ ni_MU r.2 := ni_row (ni_iloadn ni_dX5_flowOf_0 rfl) ni_muLd <|
  ni_row (ni_okP (ni_bipush ni_dX5_flowOf_1 (by decide +kernel))) (ni_muP (ni_eqPush fun _ => rfl)) <|
  ni_row (ni_okP (ni_iand ni_dX5_flowOf_3)) (ni_muP ni_eqI) <|
  ni_row (ni_ret ni_dX5_flowOf_4) ni_muR <|
  ni_row0
def ni_pr100 : List (Nat × ni_S) := [(0, ni_sLd 0 0 1),
  (1, ni_sP (ni_gPush (.int 21) 3)),
  (3, ni_sP (ni_gI (fun x y => x >>> (y &&& 31)) 4)),
  (4, ni_sR (some .int))]
theorem ni_pk100 : ∀ r ∈ ni_pr100, ni_Ok xs yX5_lifeOf cX5_lifeOf 1 (some .int) [] r.1 r.2 ∧ ni_MU r.2 := ni_row (ni_iloadn ni_dX5_lifeOf_0 rfl) ni_muLd <|
  ni_row (ni_okP (ni_bipush ni_dX5_lifeOf_1 (by decide +kernel))) (ni_muP (ni_eqPush fun _ => rfl)) <|
  ni_row (ni_okP (ni_ishr ni_dX5_lifeOf_3)) (ni_muP ni_eqI) <|
  ni_row (ni_ret ni_dX5_lifeOf_4) ni_muR <|
  ni_row0
def ni_pr101 : List (Nat × ni_S) := [(0, ni_sLd 0 0 1),
  (1, ni_sP (ni_gPush (.int 4) 2)),
  (2, ni_sP (ni_gI (fun x y => x >>> (y &&& 31)) 3)),
  (3, ni_sP (ni_gPush (.int 63) 5)),
  (5, ni_sP (ni_gI (fun x y => x &&& y) 6)),
  (6, ni_sR (some .int))]
theorem ni_pk101 : ∀ r ∈ ni_pr101, ni_Ok xs yX5_numberOf cX5_numberOf 1 (some .int) [] r.1 r.2 ∧ ni_MU r.2 := ni_row (ni_iloadn ni_dX5_numberOf_0 rfl) ni_muLd <|
  ni_row (ni_okP (ni_iconst ni_dX5_numberOf_1 (by decide +kernel))) (ni_muP (ni_eqPush fun _ => rfl)) <|
  ni_row (ni_okP (ni_ishr ni_dX5_numberOf_2)) (ni_muP ni_eqI) <|
  ni_row (ni_okP (ni_bipush ni_dX5_numberOf_3 (by decide +kernel))) (ni_muP (ni_eqPush fun _ => rfl)) <|
  ni_row (ni_okP (ni_iand ni_dX5_numberOf_5)) (ni_muP ni_eqI) <|
  ni_row (ni_ret ni_dX5_numberOf_6) ni_muR <|
  ni_row0
def ni_pr102 : List (Nat × ni_S) := [(0, ni_sLd 0 0 1),
  (1, ni_sLd 0 1 2),
  (2, ni_sP (ni_gPush (.int 4) 3)),
  (3, ni_sP (ni_gI (fun x y => x <<< (y &&& 31)) 4)),
  (4, ni_sP (ni_gI (fun x y => x ||| y) 5)),
  (5, ni_sLd 0 3 6),
  (6, ni_sP (ni_gPush (.int 10) 8)),
  (8, ni_sP (ni_gI (fun x y => x <<< (y &&& 31)) 9)),
  (9, ni_sP (ni_gI (fun x y => x ||| y) 10)),
  (10, ni_sLd 0 2 11),
  (11, ni_sP (ni_gPush (.int 12) 13)),
  (13, ni_sP (ni_gI (fun x y => x <<< (y &&& 31)) 14)),
  (14, ni_sP (ni_gI (fun x y => x ||| y) 15)),
  (15, ni_sP (ni_gPush (.int (25165824)) 17)),
  (17, ni_sP (ni_gI (fun x y => x ||| y) 18)),
  (18, ni_sR (some .int))]
theorem ni_pk102 : ∀ r ∈ ni_pr102, ni_Ok xs yX5_of cX5_of 4 (some .int) [] r.1 r.2 ∧ ni_MU r.2 := ni_row (ni_iloadn ni_dX5_of_0 rfl) ni_muLd <|
  ni_row (ni_iloadn ni_dX5_of_1 rfl) ni_muLd <|
  ni_row (ni_okP (ni_iconst ni_dX5_of_2 (by decide +kernel))) (ni_muP (ni_eqPush fun _ => rfl)) <|
  ni_row (ni_okP (ni_ishl ni_dX5_of_3)) (ni_muP ni_eqI) <|
  ni_row (ni_okP (ni_ior ni_dX5_of_4)) (ni_muP ni_eqI) <|
  ni_row (ni_iloadn ni_dX5_of_5 rfl) ni_muLd <|
  ni_row (ni_okP (ni_bipush ni_dX5_of_6 (by decide +kernel))) (ni_muP (ni_eqPush fun _ => rfl)) <|
  ni_row (ni_okP (ni_ishl ni_dX5_of_8)) (ni_muP ni_eqI) <|
  ni_row (ni_okP (ni_ior ni_dX5_of_9)) (ni_muP ni_eqI) <|
  ni_row (ni_iloadn ni_dX5_of_10 rfl) ni_muLd <|
  ni_row (ni_okP (ni_bipush ni_dX5_of_11 (by decide +kernel))) (ni_muP (ni_eqPush fun _ => rfl)) <|
  ni_row (ni_okP (ni_ishl ni_dX5_of_13)) (ni_muP ni_eqI) <|
  ni_row (ni_okP (ni_ior ni_dX5_of_14)) (ni_muP ni_eqI) <|
  ni_row (ni_okP (ni_ldc ni_dX5_of_15 ni_w805)) (ni_muP (ni_eqPush fun _ => rfl)) <|
  ni_row (ni_okP (ni_ior ni_dX5_of_17)) (ni_muP ni_eqI) <|
  ni_row (ni_ret ni_dX5_of_18) ni_muR <|
  ni_row0
def ni_pr103 : List (Nat × ni_S) := [(0, ni_sLd 0 0 1),
  (1, ni_sP (ni_gPush (.int (2097152)) 3)),
  (3, ni_sP (ni_gI (fun x y => x - y) 4)),
  (4, ni_sR (some .int))]
theorem ni_pk103 : ∀ r ∈ ni_pr103, ni_Ok xs yX5_older cX5_older 1 (some .int) [] r.1 r.2 ∧ ni_MU r.2 := ni_row (ni_iloadn ni_dX5_older_0 rfl) ni_muLd <|
  ni_row (ni_okP (ni_ldc ni_dX5_older_1 ni_w779)) (ni_muP (ni_eqPush fun _ => rfl)) <|
  ni_row (ni_okP (ni_isub ni_dX5_older_3)) (ni_muP ni_eqI) <|
  ni_row (ni_ret ni_dX5_older_4) ni_muR <|
  ni_row0
def ni_pr104 : List (Nat × ni_S) := [(0, ni_sLd 0 0 1),
  (1, ni_sP (ni_gPush (.int 12) 3)),
  (3, ni_sP (ni_gI (fun x y => x >>> (y &&& 31)) 4)),
  (4, ni_sP (ni_gPush (.int 511) 7)),
  (7, ni_sP (ni_gI (fun x y => x &&& y) 8)),
  (8, ni_sR (some .int))]
theorem ni_pk104 : ∀ r ∈ ni_pr104, ni_Ok xs yX5_sizeOf cX5_sizeOf 1 (some .int) [] r.1 r.2 ∧ ni_MU r.2 := ni_row (ni_iloadn ni_dX5_sizeOf_0 rfl) ni_muLd <|
  ni_row (ni_okP (ni_bipush ni_dX5_sizeOf_1 (by decide +kernel))) (ni_muP (ni_eqPush fun _ => rfl)) <|
  ni_row (ni_okP (ni_ishr ni_dX5_sizeOf_3)) (ni_muP ni_eqI) <|
  ni_row (ni_okP (ni_sipush ni_dX5_sizeOf_4 (by decide +kernel))) (ni_muP (ni_eqPush fun _ => rfl)) <|
  ni_row (ni_okP (ni_iand ni_dX5_sizeOf_7)) (ni_muP ni_eqI) <|
  ni_row (ni_ret ni_dX5_sizeOf_8) ni_muR <|
  ni_row0
def ni_pr105 : List (Nat × ni_S) := [(0, ni_sLd 3 0 1),
  (1, ni_sP (ni_gObj 4)),
  (4, ni_sLd 3 0 5),
  (5, ni_sNew 2 [.null, .null, .int 0, .null, .int 0] 8),
  (8, ni_sP (ni_gDup 9)),
  (9, ni_sI 61 0 12),
  (12, ni_sPut 5 0 (.object "Switchyard$Line") 15),
  (15, ni_sLd 3 0 16),
  (16, ni_sP (ni_gPush (.int 0) 17)),
  (17, ni_sPut 5 1 (.int) 20),
  (20, ni_sLd 3 0 21),
  (21, ni_sP (ni_gPush (.int 2000) 24)),
  (24, ni_sPut 5 2 (.int) 27),
  (27, ni_sLd 3 0 28),
  (28, ni_sP (ni_gPush (.int 4) 29)),
  (29, ni_sNewa 0 .int 31),
  (31, ni_sPut 5 5 (.array (.int)) 34),
  (34, ni_sLd 3 0 35),
  (35, ni_sP (ni_gPush (.int 4) 36)),
  (36, ni_sNewa 0 .int 38),
  (38, ni_sPut 5 6 (.array (.int)) 41),
  (41, ni_sLd 3 0 42),
  (42, ni_sP (ni_gPush (.int 250) 45)),
  (45, ni_sNewa 0 .int 47),
  (47, ni_sPut 5 9 (.array (.int)) 50),
  (50, ni_sLd 3 0 51),
  (51, ni_sP (ni_gPush (.int (-1)) 52)),
  (52, ni_sPut 5 12 (.int) 55),
  (55, ni_sP (ni_gPush (.int 0) 56)),
  (56, ni_sSt 0 1 57),
  (57, ni_sLd 0 1 58),
  (58, ni_sP (ni_gPush (.int 4) 59)),
  (59, ni_sP (ni_gIc (fun x y => decide (y ≤ x)) 75 62)),
  (62, ni_sLd 3 0 63),
  (63, ni_sGet 5 5 66),
  (66, ni_sLd 0 1 67),
  (67, ni_sP (ni_gPush (.int 1) 68)),
  (68, ni_sAst .int 0 69),
  (69, ni_sInc 1 (1) 72),
  (72, ni_sP (ni_gGo 57)),
  (75, ni_sR (none))]
theorem ni_pk105 : ∀ r ∈ ni_pr105, ni_Ok xs yX6_init cX6_init 2 (none) [] r.1 r.2 ∧ ni_MU r.2 := ni_row (ni_aloadn ni_dX6_init_0 rfl) ni_muLd <|
  ni_row (ni_okP (ni_objInit ni_dX6_init_1 ni_w188 ni_w55 ni_w56)) (ni_muP ni_eqObj) <|
  ni_row (ni_aloadn ni_dX6_init_4 rfl) ni_muLd <|
  ni_row (ni_new (T := TX2) (ty0 := tyX2) ni_dX6_init_5 (by decide) rfl ni_uX2 tyX2_ok rfl (by decide +kernel) ni_w189 ni_w190 ni_w34) (ni_muNew fun _ => rfl) <|
  ni_row (ni_okP (ni_dup ni_dX6_init_8)) (ni_muP ni_eqDup) <|
  ni_row (ni_init (y := 61) ni_dX6_init_9 rfl rfl ni_w191 ni_w192 ni_w34 ni_w193 ⟨by decide +kernel, by decide +kernel, by decide +kernel⟩ (by decide) rfl) ni_muI <|
  ni_row (ni_putA (T := TX6) (ty0 := tyX6) (b := true) (Or.inr ⟨rfl, rfl, rfl⟩) rfl ni_dX6_init_12 (by decide) rfl (by decide) ni_uX6 tyX6_ok nmX6 ni_w217) ni_muPut <|
  ni_row (ni_aloadn ni_dX6_init_15 rfl) ni_muLd <|
  ni_row (ni_okP (ni_iconst ni_dX6_init_16 (by decide +kernel))) (ni_muP (ni_eqPush fun _ => rfl)) <|
  ni_row (ni_putA (T := TX6) (ty0 := tyX6) (b := false) (Or.inl rfl) rfl ni_dX6_init_17 (by decide) rfl (by decide) ni_uX6 tyX6_ok nmX6 ni_w220) ni_muPut <|
  ni_row (ni_aloadn ni_dX6_init_20 rfl) ni_muLd <|
  ni_row (ni_okP (ni_sipush ni_dX6_init_21 (by decide +kernel))) (ni_muP (ni_eqPush fun _ => rfl)) <|
  ni_row (ni_putA (T := TX6) (ty0 := tyX6) (b := false) (Or.inl rfl) rfl ni_dX6_init_24 (by decide) rfl (by decide) ni_uX6 tyX6_ok nmX6 ni_w221) ni_muPut <|
  ni_row (ni_aloadn ni_dX6_init_27 rfl) ni_muLd <|
  ni_row (ni_okP (ni_iconst ni_dX6_init_28 (by decide +kernel))) (ni_muP (ni_eqPush fun _ => rfl)) <|
  ni_row (ni_newa ni_dX6_init_29 rfl rfl (by decide) ni_w93) ni_muNewa <|
  ni_row (ni_putA (T := TX6) (ty0 := tyX6) (b := true) (Or.inr ⟨rfl, rfl, rfl⟩) rfl ni_dX6_init_31 (by decide) rfl (by decide) ni_uX6 tyX6_ok nmX6 ni_w224) ni_muPut <|
  ni_row (ni_aloadn ni_dX6_init_34 rfl) ni_muLd <|
  ni_row (ni_okP (ni_iconst ni_dX6_init_35 (by decide +kernel))) (ni_muP (ni_eqPush fun _ => rfl)) <|
  ni_row (ni_newa ni_dX6_init_36 rfl rfl (by decide) ni_w93) ni_muNewa <|
  ni_row (ni_putA (T := TX6) (ty0 := tyX6) (b := true) (Or.inr ⟨rfl, rfl, rfl⟩) rfl ni_dX6_init_38 (by decide) rfl (by decide) ni_uX6 tyX6_ok nmX6 ni_w226) ni_muPut <|
  ni_row (ni_aloadn ni_dX6_init_41 rfl) ni_muLd <|
  ni_row (ni_okP (ni_sipush ni_dX6_init_42 (by decide +kernel))) (ni_muP (ni_eqPush fun _ => rfl)) <|
  ni_row (ni_newa ni_dX6_init_45 rfl rfl (by decide) ni_w93) ni_muNewa <|
  ni_row (ni_putA (T := TX6) (ty0 := tyX6) (b := true) (Or.inr ⟨rfl, rfl, rfl⟩) rfl ni_dX6_init_47 (by decide) rfl (by decide) ni_uX6 tyX6_ok nmX6 ni_w230) ni_muPut <|
  ni_row (ni_aloadn ni_dX6_init_50 rfl) ni_muLd <|
  ni_row (ni_okP (ni_iconst ni_dX6_init_51 (by decide +kernel))) (ni_muP (ni_eqPush fun _ => rfl)) <|
  ni_row (ni_putA (T := TX6) (ty0 := tyX6) (b := false) (Or.inl rfl) rfl ni_dX6_init_52 (by decide) rfl (by decide) ni_uX6 tyX6_ok nmX6 ni_w235) ni_muPut <|
  ni_row (ni_okP (ni_iconst ni_dX6_init_55 (by decide +kernel))) (ni_muP (ni_eqPush fun _ => rfl)) <|
  ni_row (ni_istoren ni_dX6_init_56 rfl (by decide)) ni_muSt <|
  ni_row (ni_iloadn ni_dX6_init_57 rfl) ni_muLd <|
  ni_row (ni_okP (ni_iconst ni_dX6_init_58 (by decide +kernel))) (ni_muP (ni_eqPush fun _ => rfl)) <|
  ni_row (ni_okP (ni_ic_ge ni_dX6_init_59 (by decide))) (ni_muP ni_eqIc) <|
  ni_row (ni_aloadn ni_dX6_init_62 rfl) ni_muLd <|
  ni_row (ni_get (T := TX6) ni_dX6_init_63 (by decide) rfl (by decide) ni_uX6 ni_w224) ni_muGet <|
  ni_row (ni_iloadn ni_dX6_init_66 rfl) ni_muLd <|
  ni_row (ni_okP (ni_iconst ni_dX6_init_67 (by decide +kernel))) (ni_muP (ni_eqPush fun _ => rfl)) <|
  ni_row (ni_iast ni_dX6_init_68) ni_muAst <|
  ni_row (ni_iinc (n := 1) ni_dX6_init_69 (by decide)) ni_muInc <|
  ni_row (ni_okP (ni_goto ni_dX6_init_72 (by decide))) (ni_muP ni_eqGo) <|
  ni_row (ni_ret ni_dX6_init_75) ni_muR <|
  ni_row0
def ni_pr106 : List (Nat × ni_S) := [(0, ni_sLd 0 1 1),
  (1, ni_sC 104 1 4),
  (4, ni_sSt 0 2 5),
  (5, ni_sLd 3 0 6),
  (6, ni_sGet 5 11 9),
  (9, ni_sLd 0 2 10),
  (10, ni_sP (ni_gI (fun x y => x + y) 11)),
  (11, ni_sLd 3 0 12),
  (12, ni_sGet 5 2 15),
  (15, ni_sP (ni_gIc (fun x y => decide (y < x)) 28 18)),
  (18, ni_sLd 3 0 19),
  (19, ni_sGet 5 10 22),
  (22, ni_sP (ni_gPush (.int 250) 25)),
  (25, ni_sP (ni_gIc (fun x y => decide (x < y)) 30 28)),
  (28, ni_sP (ni_gPush (.int 4) 29)),
  (29, ni_sR (some .int)),
  (30, ni_sLd 3 0 31),
  (31, ni_sGet 5 3 34),
  (34, ni_sP (ni_gIf (fun x => decide (x = 0)) 71 37)),
  (37, ni_sP (ni_gPush (.int 2) 38)),
  (38, ni_sLd 3 0 39),
  (39, ni_sGet 5 11 42),
  (42, ni_sP (ni_gI (fun x y => x * y) 43)),
  (43, ni_sLd 3 0 44),
  (44, ni_sGet 5 2 47),
  (47, ni_sP (ni_gIc (fun x y => decide (x < y)) 71 50)),
  (50, ni_sLd 3 0 51),
  (51, ni_sP (ni_gDup 52)),
  (52, ni_sGet 5 4 55),
  (55, ni_sP (ni_gPush (.int 1) 56)),
  (56, ni_sP (ni_gI (fun x y => x + y) 57)),
  (57, ni_sPut 5 4 (.int) 60),
  (60, ni_sLd 3 0 61),
  (61, ni_sGet 5 4 64),
  (64, ni_sP (ni_gPush (.int 3) 65)),
  (65, ni_sP (ni_gI0 (fun x y => x - x / y * y) 66)),
  (66, ni_sP (ni_gIf (fun x => decide (¬ x = 0)) 71 69)),
  (69, ni_sP (ni_gPush (.int 5) 70)),
  (70, ni_sR (some .int)),
  (71, ni_sLd 3 0 72),
  (72, ni_sGet 5 9 75),
  (75, ni_sLd 3 0 76),
  (76, ni_sGet 5 10 79),
  (79, ni_sLd 0 1 80),
  (80, ni_sAst .int 0 81),
  (81, ni_sLd 3 0 82),
  (82, ni_sP (ni_gDup 83)),
  (83, ni_sGet 5 10 86),
  (86, ni_sP (ni_gPush (.int 1) 87)),
  (87, ni_sP (ni_gI (fun x y => x + y) 88)),
  (88, ni_sPut 5 10 (.int) 91),
  (91, ni_sLd 3 0 92),
  (92, ni_sP (ni_gDup 93)),
  (93, ni_sGet 5 11 96),
  (96, ni_sLd 0 2 97),
  (97, ni_sP (ni_gI (fun x y => x + y) 98)),
  (98, ni_sPut 5 11 (.int) 101),
  (101, ni_sP (ni_gPush (.int (-1)) 102)),
  (102, ni_sR (some .int))]
theorem ni_pk106 : ∀ r ∈ ni_pr106, ni_Ok xs yX6_accept cX6_accept 3 (some .int) [] r.1 r.2 ∧ ni_MU r.2 := ni_row (ni_iloadn ni_dX6_accept_0 rfl) ni_muLd <|
  ni_row (ni_stat (y := 104) ni_dX6_accept_1 ni_w784 ni_w785 ni_w45 ni_w786 ⟨by decide +kernel, by decide +kernel, by decide +kernel⟩ (by decide) rfl) ni_muC <|
  ni_row (ni_istoren ni_dX6_accept_4 rfl (by decide)) ni_muSt <|
  ni_row (ni_aloadn ni_dX6_accept_5 rfl) ni_muLd <|
  ni_row (ni_get (T := TX6) ni_dX6_accept_6 (by decide) rfl (by decide) ni_uX6 ni_w233) ni_muGet <|
  ni_row (ni_iloadn ni_dX6_accept_9 rfl) ni_muLd <|
  ni_row (ni_okP (ni_iadd ni_dX6_accept_10)) (ni_muP ni_eqI) <|
  ni_row (ni_aloadn ni_dX6_accept_11 rfl) ni_muLd <|
  ni_row (ni_get (T := TX6) ni_dX6_accept_12 (by decide) rfl (by decide) ni_uX6 ni_w221) ni_muGet <|
  ni_row (ni_okP (ni_ic_gt ni_dX6_accept_15 (by decide))) (ni_muP ni_eqIc) <|
  ni_row (ni_aloadn ni_dX6_accept_18 rfl) ni_muLd <|
  ni_row (ni_get (T := TX6) ni_dX6_accept_19 (by decide) rfl (by decide) ni_uX6 ni_w231) ni_muGet <|
  ni_row (ni_okP (ni_sipush ni_dX6_accept_22 (by decide +kernel))) (ni_muP (ni_eqPush fun _ => rfl)) <|
  ni_row (ni_okP (ni_ic_lt ni_dX6_accept_25 (by decide))) (ni_muP ni_eqIc) <|
  ni_row (ni_okP (ni_iconst ni_dX6_accept_28 (by decide +kernel))) (ni_muP (ni_eqPush fun _ => rfl)) <|
  ni_row (ni_ret ni_dX6_accept_29) ni_muR <|
  ni_row (ni_aloadn ni_dX6_accept_30 rfl) ni_muLd <|
  ni_row (ni_get (T := TX6) ni_dX6_accept_31 (by decide) rfl (by decide) ni_uX6 ni_w222) ni_muGet <|
  ni_row (ni_okP (ni_if_eq ni_dX6_accept_34 (by decide))) (ni_muP ni_eqIf) <|
  ni_row (ni_okP (ni_iconst ni_dX6_accept_37 (by decide +kernel))) (ni_muP (ni_eqPush fun _ => rfl)) <|
  ni_row (ni_aloadn ni_dX6_accept_38 rfl) ni_muLd <|
  ni_row (ni_get (T := TX6) ni_dX6_accept_39 (by decide) rfl (by decide) ni_uX6 ni_w233) ni_muGet <|
  ni_row (ni_okP (ni_imul ni_dX6_accept_42)) (ni_muP ni_eqI) <|
  ni_row (ni_aloadn ni_dX6_accept_43 rfl) ni_muLd <|
  ni_row (ni_get (T := TX6) ni_dX6_accept_44 (by decide) rfl (by decide) ni_uX6 ni_w221) ni_muGet <|
  ni_row (ni_okP (ni_ic_lt ni_dX6_accept_47 (by decide))) (ni_muP ni_eqIc) <|
  ni_row (ni_aloadn ni_dX6_accept_50 rfl) ni_muLd <|
  ni_row (ni_okP (ni_dup ni_dX6_accept_51)) (ni_muP ni_eqDup) <|
  ni_row (ni_get (T := TX6) ni_dX6_accept_52 (by decide) rfl (by decide) ni_uX6 ni_w223) ni_muGet <|
  ni_row (ni_okP (ni_iconst ni_dX6_accept_55 (by decide +kernel))) (ni_muP (ni_eqPush fun _ => rfl)) <|
  ni_row (ni_okP (ni_iadd ni_dX6_accept_56)) (ni_muP ni_eqI) <|
  ni_row (ni_putA (T := TX6) (ty0 := tyX6) (b := false) (Or.inl rfl) rfl ni_dX6_accept_57 (by decide) rfl (by decide) ni_uX6 tyX6_ok nmX6 ni_w223) ni_muPut <|
  ni_row (ni_aloadn ni_dX6_accept_60 rfl) ni_muLd <|
  ni_row (ni_get (T := TX6) ni_dX6_accept_61 (by decide) rfl (by decide) ni_uX6 ni_w223) ni_muGet <|
  ni_row (ni_okP (ni_iconst ni_dX6_accept_64 (by decide +kernel))) (ni_muP (ni_eqPush fun _ => rfl)) <|
  ni_row (ni_okP (ni_irem ni_dX6_accept_65)) (ni_muP ni_eqI0) <|
  ni_row (ni_okP (ni_if_ne ni_dX6_accept_66 (by decide))) (ni_muP ni_eqIf) <|
  ni_row (ni_okP (ni_iconst ni_dX6_accept_69 (by decide +kernel))) (ni_muP (ni_eqPush fun _ => rfl)) <|
  ni_row (ni_ret ni_dX6_accept_70) ni_muR <|
  ni_row (ni_aloadn ni_dX6_accept_71 rfl) ni_muLd <|
  ni_row (ni_get (T := TX6) ni_dX6_accept_72 (by decide) rfl (by decide) ni_uX6 ni_w230) ni_muGet <|
  ni_row (ni_aloadn ni_dX6_accept_75 rfl) ni_muLd <|
  ni_row (ni_get (T := TX6) ni_dX6_accept_76 (by decide) rfl (by decide) ni_uX6 ni_w231) ni_muGet <|
  ni_row (ni_iloadn ni_dX6_accept_79 rfl) ni_muLd <|
  ni_row (ni_iast ni_dX6_accept_80) ni_muAst <|
  ni_row (ni_aloadn ni_dX6_accept_81 rfl) ni_muLd <|
  ni_row (ni_okP (ni_dup ni_dX6_accept_82)) (ni_muP ni_eqDup) <|
  ni_row (ni_get (T := TX6) ni_dX6_accept_83 (by decide) rfl (by decide) ni_uX6 ni_w231) ni_muGet <|
  ni_row (ni_okP (ni_iconst ni_dX6_accept_86 (by decide +kernel))) (ni_muP (ni_eqPush fun _ => rfl)) <|
  ni_row (ni_okP (ni_iadd ni_dX6_accept_87)) (ni_muP ni_eqI) <|
  ni_row (ni_putA (T := TX6) (ty0 := tyX6) (b := false) (Or.inl rfl) rfl ni_dX6_accept_88 (by decide) rfl (by decide) ni_uX6 tyX6_ok nmX6 ni_w231) ni_muPut <|
  ni_row (ni_aloadn ni_dX6_accept_91 rfl) ni_muLd <|
  ni_row (ni_okP (ni_dup ni_dX6_accept_92)) (ni_muP ni_eqDup) <|
  ni_row (ni_get (T := TX6) ni_dX6_accept_93 (by decide) rfl (by decide) ni_uX6 ni_w233) ni_muGet <|
  ni_row (ni_iloadn ni_dX6_accept_96 rfl) ni_muLd <|
  ni_row (ni_okP (ni_iadd ni_dX6_accept_97)) (ni_muP ni_eqI) <|
  ni_row (ni_putA (T := TX6) (ty0 := tyX6) (b := false) (Or.inl rfl) rfl ni_dX6_accept_98 (by decide) rfl (by decide) ni_uX6 tyX6_ok nmX6 ni_w233) ni_muPut <|
  ni_row (ni_okP (ni_iconst ni_dX6_accept_101 (by decide +kernel))) (ni_muP (ni_eqPush fun _ => rfl)) <|
  ni_row (ni_ret ni_dX6_accept_102) ni_muR <|
  ni_row0
def ni_pr107 : List (Nat × ni_S) := [(0, ni_sP (ni_gPush (.int 0) 1)),
  (1, ni_sSt 0 1 2),
  (2, ni_sLd 0 1 3),
  (3, ni_sP (ni_gPush (.int 4) 4)),
  (4, ni_sP (ni_gIc (fun x y => decide (y ≤ x)) 20 7)),
  (7, ni_sLd 3 0 8),
  (8, ni_sGet 5 6 11),
  (11, ni_sLd 0 1 12),
  (12, ni_sP (ni_gPush (.int 0) 13)),
  (13, ni_sAst .int 0 14),
  (14, ni_sInc 1 (1) 17),
  (17, ni_sP (ni_gGo 2)),
  (20, ni_sLd 3 0 21),
  (21, ni_sP (ni_gPush (.int 0) 22)),
  (22, ni_sPut 5 7 (.int) 25),
  (25, ni_sLd 3 0 26),
  (26, ni_sP (ni_gPush (.int 0) 27)),
  (27, ni_sPut 5 8 (.boolean) 30),
  (30, ni_sR (none))]
theorem ni_pk107 : ∀ r ∈ ni_pr107, ni_Ok xs yX6_clearTurns cX6_clearTurns 2 (none) [] r.1 r.2 ∧ ni_MU r.2 := ni_row (ni_okP (ni_iconst ni_dX6_clearTurns_0 (by decide +kernel))) (ni_muP (ni_eqPush fun _ => rfl)) <|
  ni_row (ni_istoren ni_dX6_clearTurns_1 rfl (by decide)) ni_muSt <|
  ni_row (ni_iloadn ni_dX6_clearTurns_2 rfl) ni_muLd <|
  ni_row (ni_okP (ni_iconst ni_dX6_clearTurns_3 (by decide +kernel))) (ni_muP (ni_eqPush fun _ => rfl)) <|
  ni_row (ni_okP (ni_ic_ge ni_dX6_clearTurns_4 (by decide))) (ni_muP ni_eqIc) <|
  ni_row (ni_aloadn ni_dX6_clearTurns_7 rfl) ni_muLd <|
  ni_row (ni_get (T := TX6) ni_dX6_clearTurns_8 (by decide) rfl (by decide) ni_uX6 ni_w226) ni_muGet <|
  ni_row (ni_iloadn ni_dX6_clearTurns_11 rfl) ni_muLd <|
  ni_row (ni_okP (ni_iconst ni_dX6_clearTurns_12 (by decide +kernel))) (ni_muP (ni_eqPush fun _ => rfl)) <|
  ni_row (ni_iast ni_dX6_clearTurns_13) ni_muAst <|
  ni_row (ni_iinc (n := 1) ni_dX6_clearTurns_14 (by decide)) ni_muInc <|
  ni_row (ni_okP (ni_goto ni_dX6_clearTurns_17 (by decide))) (ni_muP ni_eqGo) <|
  ni_row (ni_aloadn ni_dX6_clearTurns_20 rfl) ni_muLd <|
  ni_row (ni_okP (ni_iconst ni_dX6_clearTurns_21 (by decide +kernel))) (ni_muP (ni_eqPush fun _ => rfl)) <|
  ni_row (ni_putA (T := TX6) (ty0 := tyX6) (b := false) (Or.inl rfl) rfl ni_dX6_clearTurns_22 (by decide) rfl (by decide) ni_uX6 tyX6_ok nmX6 ni_w228) ni_muPut <|
  ni_row (ni_aloadn ni_dX6_clearTurns_25 rfl) ni_muLd <|
  ni_row (ni_okP (ni_iconst ni_dX6_clearTurns_26 (by decide +kernel))) (ni_muP (ni_eqPush fun _ => rfl)) <|
  ni_row (ni_putA (T := TX6) (ty0 := tyX6) (b := false) (Or.inl rfl) rfl ni_dX6_clearTurns_27 (by decide) rfl (by decide) ni_uX6 tyX6_ok nmX6 ni_w229) ni_muPut <|
  ni_row (ni_ret ni_dX6_clearTurns_30) ni_muR <|
  ni_row0
def ni_pr108 : List (Nat × ni_S) := [(0, ni_sLd 3 0 1),
  (1, ni_sLd 0 1 2),
  (2, ni_sPut 5 1 (.int) 5),
  (5, ni_sLd 3 0 6),
  (6, ni_sLd 0 2 7),
  (7, ni_sPut 5 2 (.int) 10),
  (10, ni_sLd 3 0 11),
  (11, ni_sLd 0 3 12),
  (12, ni_sPut 5 3 (.boolean) 15),
  (15, ni_sLd 3 0 16),
  (16, ni_sP (ni_gPush (.int 0) 17)),
  (17, ni_sPut 5 4 (.int) 20),
  (20, ni_sLd 3 0 21),
  (21, ni_sV 107 0 5 24),
  (24, ni_sR (none))]
theorem ni_pk108 : ∀ r ∈ ni_pr108, ni_Ok xs yX6_configure cX6_configure 4 (none) [] r.1 r.2 ∧ ni_MU r.2 := ni_row (ni_aloadn ni_dX6_configure_0 rfl) ni_muLd <|
  ni_row (ni_iloadn ni_dX6_configure_1 rfl) ni_muLd <|
  ni_row (ni_putA (T := TX6) (ty0 := tyX6) (b := false) (Or.inl rfl) rfl ni_dX6_configure_2 (by decide) rfl (by decide) ni_uX6 tyX6_ok nmX6 ni_w220) ni_muPut <|
  ni_row (ni_aloadn ni_dX6_configure_5 rfl) ni_muLd <|
  ni_row (ni_iloadn ni_dX6_configure_6 rfl) ni_muLd <|
  ni_row (ni_putA (T := TX6) (ty0 := tyX6) (b := false) (Or.inl rfl) rfl ni_dX6_configure_7 (by decide) rfl (by decide) ni_uX6 tyX6_ok nmX6 ni_w221) ni_muPut <|
  ni_row (ni_aloadn ni_dX6_configure_10 rfl) ni_muLd <|
  ni_row (ni_iloadn ni_dX6_configure_11 rfl) ni_muLd <|
  ni_row (ni_putA (T := TX6) (ty0 := tyX6) (b := false) (Or.inl rfl) rfl ni_dX6_configure_12 (by decide) rfl (by decide) ni_uX6 tyX6_ok nmX6 ni_w222) ni_muPut <|
  ni_row (ni_aloadn ni_dX6_configure_15 rfl) ni_muLd <|
  ni_row (ni_okP (ni_iconst ni_dX6_configure_16 (by decide +kernel))) (ni_muP (ni_eqPush fun _ => rfl)) <|
  ni_row (ni_putA (T := TX6) (ty0 := tyX6) (b := false) (Or.inl rfl) rfl ni_dX6_configure_17 (by decide) rfl (by decide) ni_uX6 tyX6_ok nmX6 ni_w223) ni_muPut <|
  ni_row (ni_aloadn ni_dX6_configure_20 rfl) ni_muLd <|
  ni_row (ni_virt (y := 107) (T := TX6) ni_dX6_configure_21 (by decide) rfl rfl ni_w602 ni_w603 ni_w604 ni_w33 ni_w605 ⟨by decide +kernel, by decide +kernel, by decide +kernel⟩ (by decide) rfl) (ni_muV (by decide)) <|
  ni_row (ni_ret ni_dX6_configure_24) ni_muR <|
  ni_row0
def ni_pr109 : List (Nat × ni_S) := [(0, ni_sLd 3 0 1),
  (1, ni_sGet 5 0 4),
  (4, ni_sLd 3 1 5),
  (5, ni_sGet 5 0 8),
  (8, ni_sV 62 1 2 11),
  (11, ni_sLd 3 0 12),
  (12, ni_sLd 3 1 13),
  (13, ni_sGet 5 1 16),
  (16, ni_sPut 5 1 (.int) 19),
  (19, ni_sLd 3 0 20),
  (20, ni_sLd 3 1 21),
  (21, ni_sGet 5 2 24),
  (24, ni_sPut 5 2 (.int) 27),
  (27, ni_sLd 3 0 28),
  (28, ni_sLd 3 1 29),
  (29, ni_sGet 5 3 32),
  (32, ni_sPut 5 3 (.boolean) 35),
  (35, ni_sLd 3 0 36),
  (36, ni_sLd 3 1 37),
  (37, ni_sGet 5 4 40),
  (40, ni_sPut 5 4 (.int) 43),
  (43, ni_sLd 3 1 44),
  (44, ni_sGet 5 5 47),
  (47, ni_sP (ni_gPush (.int 0) 48)),
  (48, ni_sLd 3 0 49),
  (49, ni_sGet 5 5 52),
  (52, ni_sP (ni_gPush (.int 0) 53)),
  (53, ni_sP (ni_gPush (.int 4) 54)),
  (54, ni_sCopy 57),
  (57, ni_sLd 3 1 58),
  (58, ni_sGet 5 6 61),
  (61, ni_sP (ni_gPush (.int 0) 62)),
  (62, ni_sLd 3 0 63),
  (63, ni_sGet 5 6 66),
  (66, ni_sP (ni_gPush (.int 0) 67)),
  (67, ni_sP (ni_gPush (.int 4) 68)),
  (68, ni_sCopy 71),
  (71, ni_sLd 3 0 72),
  (72, ni_sLd 3 1 73),
  (73, ni_sGet 5 7 76),
  (76, ni_sPut 5 7 (.int) 79),
  (79, ni_sLd 3 0 80),
  (80, ni_sLd 3 1 81),
  (81, ni_sGet 5 8 84),
  (84, ni_sPut 5 8 (.boolean) 87),
  (87, ni_sLd 3 0 88),
  (88, ni_sLd 3 1 89),
  (89, ni_sGet 5 10 92),
  (92, ni_sPut 5 10 (.int) 95),
  (95, ni_sLd 3 1 96),
  (96, ni_sGet 5 9 99),
  (99, ni_sP (ni_gPush (.int 0) 100)),
  (100, ni_sLd 3 0 101),
  (101, ni_sGet 5 9 104),
  (104, ni_sP (ni_gPush (.int 0) 105)),
  (105, ni_sLd 3 0 106),
  (106, ni_sGet 5 10 109),
  (109, ni_sCopy 112),
  (112, ni_sLd 3 0 113),
  (113, ni_sLd 3 1 114),
  (114, ni_sGet 5 11 117),
  (117, ni_sPut 5 11 (.int) 120),
  (120, ni_sLd 3 0 121),
  (121, ni_sLd 3 1 122),
  (122, ni_sGet 5 12 125),
  (125, ni_sPut 5 12 (.int) 128),
  (128, ni_sLd 3 0 129),
  (129, ni_sLd 3 1 130),
  (130, ni_sGet 5 13 133),
  (133, ni_sPut 5 13 (.int) 136),
  (136, ni_sR (none))]
theorem ni_pk109 : ∀ r ∈ ni_pr109, ni_Ok xs yX6_copyFrom cX6_copyFrom 2 (none) [] r.1 r.2 ∧ ni_MU r.2 := ni_row (ni_aloadn ni_dX6_copyFrom_0 rfl) ni_muLd <|
  ni_row (ni_get (T := TX6) ni_dX6_copyFrom_1 (by decide) rfl (by decide) ni_uX6 ni_w217) ni_muGet <|
  ni_row (ni_aloadn ni_dX6_copyFrom_4 rfl) ni_muLd <|
  ni_row (ni_get (T := TX6) ni_dX6_copyFrom_5 (by decide) rfl (by decide) ni_uX6 ni_w217) ni_muGet <|
  ni_row (ni_virt (y := 62) (T := TX2) ni_dX6_copyFrom_8 (by decide) rfl rfl ni_w934 ni_w935 ni_w936 ni_w34 ni_w937 ⟨by decide +kernel, by decide +kernel, by decide +kernel⟩ (by decide) rfl) (ni_muV (by decide)) <|
  ni_row (ni_aloadn ni_dX6_copyFrom_11 rfl) ni_muLd <|
  ni_row (ni_aloadn ni_dX6_copyFrom_12 rfl) ni_muLd <|
  ni_row (ni_get (T := TX6) ni_dX6_copyFrom_13 (by decide) rfl (by decide) ni_uX6 ni_w220) ni_muGet <|
  ni_row (ni_putA (T := TX6) (ty0 := tyX6) (b := false) (Or.inl rfl) rfl ni_dX6_copyFrom_16 (by decide) rfl (by decide) ni_uX6 tyX6_ok nmX6 ni_w220) ni_muPut <|
  ni_row (ni_aloadn ni_dX6_copyFrom_19 rfl) ni_muLd <|
  ni_row (ni_aloadn ni_dX6_copyFrom_20 rfl) ni_muLd <|
  ni_row (ni_get (T := TX6) ni_dX6_copyFrom_21 (by decide) rfl (by decide) ni_uX6 ni_w221) ni_muGet <|
  ni_row (ni_putA (T := TX6) (ty0 := tyX6) (b := false) (Or.inl rfl) rfl ni_dX6_copyFrom_24 (by decide) rfl (by decide) ni_uX6 tyX6_ok nmX6 ni_w221) ni_muPut <|
  ni_row (ni_aloadn ni_dX6_copyFrom_27 rfl) ni_muLd <|
  ni_row (ni_aloadn ni_dX6_copyFrom_28 rfl) ni_muLd <|
  ni_row (ni_get (T := TX6) ni_dX6_copyFrom_29 (by decide) rfl (by decide) ni_uX6 ni_w222) ni_muGet <|
  ni_row (ni_putA (T := TX6) (ty0 := tyX6) (b := false) (Or.inl rfl) rfl ni_dX6_copyFrom_32 (by decide) rfl (by decide) ni_uX6 tyX6_ok nmX6 ni_w222) ni_muPut <|
  ni_row (ni_aloadn ni_dX6_copyFrom_35 rfl) ni_muLd <|
  ni_row (ni_aloadn ni_dX6_copyFrom_36 rfl) ni_muLd <|
  ni_row (ni_get (T := TX6) ni_dX6_copyFrom_37 (by decide) rfl (by decide) ni_uX6 ni_w223) ni_muGet <|
  ni_row (ni_putA (T := TX6) (ty0 := tyX6) (b := false) (Or.inl rfl) rfl ni_dX6_copyFrom_40 (by decide) rfl (by decide) ni_uX6 tyX6_ok nmX6 ni_w223) ni_muPut <|
  ni_row (ni_aloadn ni_dX6_copyFrom_43 rfl) ni_muLd <|
  ni_row (ni_get (T := TX6) ni_dX6_copyFrom_44 (by decide) rfl (by decide) ni_uX6 ni_w224) ni_muGet <|
  ni_row (ni_okP (ni_iconst ni_dX6_copyFrom_47 (by decide +kernel))) (ni_muP (ni_eqPush fun _ => rfl)) <|
  ni_row (ni_aloadn ni_dX6_copyFrom_48 rfl) ni_muLd <|
  ni_row (ni_get (T := TX6) ni_dX6_copyFrom_49 (by decide) rfl (by decide) ni_uX6 ni_w224) ni_muGet <|
  ni_row (ni_okP (ni_iconst ni_dX6_copyFrom_52 (by decide +kernel))) (ni_muP (ni_eqPush fun _ => rfl)) <|
  ni_row (ni_okP (ni_iconst ni_dX6_copyFrom_53 (by decide +kernel))) (ni_muP (ni_eqPush fun _ => rfl)) <|
  ni_row (ni_copy ni_dX6_copyFrom_54 ni_w939 ni_w920 ni_w919 ni_w48) ni_muCopy <|
  ni_row (ni_aloadn ni_dX6_copyFrom_57 rfl) ni_muLd <|
  ni_row (ni_get (T := TX6) ni_dX6_copyFrom_58 (by decide) rfl (by decide) ni_uX6 ni_w226) ni_muGet <|
  ni_row (ni_okP (ni_iconst ni_dX6_copyFrom_61 (by decide +kernel))) (ni_muP (ni_eqPush fun _ => rfl)) <|
  ni_row (ni_aloadn ni_dX6_copyFrom_62 rfl) ni_muLd <|
  ni_row (ni_get (T := TX6) ni_dX6_copyFrom_63 (by decide) rfl (by decide) ni_uX6 ni_w226) ni_muGet <|
  ni_row (ni_okP (ni_iconst ni_dX6_copyFrom_66 (by decide +kernel))) (ni_muP (ni_eqPush fun _ => rfl)) <|
  ni_row (ni_okP (ni_iconst ni_dX6_copyFrom_67 (by decide +kernel))) (ni_muP (ni_eqPush fun _ => rfl)) <|
  ni_row (ni_copy ni_dX6_copyFrom_68 ni_w939 ni_w920 ni_w919 ni_w48) ni_muCopy <|
  ni_row (ni_aloadn ni_dX6_copyFrom_71 rfl) ni_muLd <|
  ni_row (ni_aloadn ni_dX6_copyFrom_72 rfl) ni_muLd <|
  ni_row (ni_get (T := TX6) ni_dX6_copyFrom_73 (by decide) rfl (by decide) ni_uX6 ni_w228) ni_muGet <|
  ni_row (ni_putA (T := TX6) (ty0 := tyX6) (b := false) (Or.inl rfl) rfl ni_dX6_copyFrom_76 (by decide) rfl (by decide) ni_uX6 tyX6_ok nmX6 ni_w228) ni_muPut <|
  ni_row (ni_aloadn ni_dX6_copyFrom_79 rfl) ni_muLd <|
  ni_row (ni_aloadn ni_dX6_copyFrom_80 rfl) ni_muLd <|
  ni_row (ni_get (T := TX6) ni_dX6_copyFrom_81 (by decide) rfl (by decide) ni_uX6 ni_w229) ni_muGet <|
  ni_row (ni_putA (T := TX6) (ty0 := tyX6) (b := false) (Or.inl rfl) rfl ni_dX6_copyFrom_84 (by decide) rfl (by decide) ni_uX6 tyX6_ok nmX6 ni_w229) ni_muPut <|
  ni_row (ni_aloadn ni_dX6_copyFrom_87 rfl) ni_muLd <|
  ni_row (ni_aloadn ni_dX6_copyFrom_88 rfl) ni_muLd <|
  ni_row (ni_get (T := TX6) ni_dX6_copyFrom_89 (by decide) rfl (by decide) ni_uX6 ni_w231) ni_muGet <|
  ni_row (ni_putA (T := TX6) (ty0 := tyX6) (b := false) (Or.inl rfl) rfl ni_dX6_copyFrom_92 (by decide) rfl (by decide) ni_uX6 tyX6_ok nmX6 ni_w231) ni_muPut <|
  ni_row (ni_aloadn ni_dX6_copyFrom_95 rfl) ni_muLd <|
  ni_row (ni_get (T := TX6) ni_dX6_copyFrom_96 (by decide) rfl (by decide) ni_uX6 ni_w230) ni_muGet <|
  ni_row (ni_okP (ni_iconst ni_dX6_copyFrom_99 (by decide +kernel))) (ni_muP (ni_eqPush fun _ => rfl)) <|
  ni_row (ni_aloadn ni_dX6_copyFrom_100 rfl) ni_muLd <|
  ni_row (ni_get (T := TX6) ni_dX6_copyFrom_101 (by decide) rfl (by decide) ni_uX6 ni_w230) ni_muGet <|
  ni_row (ni_okP (ni_iconst ni_dX6_copyFrom_104 (by decide +kernel))) (ni_muP (ni_eqPush fun _ => rfl)) <|
  ni_row (ni_aloadn ni_dX6_copyFrom_105 rfl) ni_muLd <|
  ni_row (ni_get (T := TX6) ni_dX6_copyFrom_106 (by decide) rfl (by decide) ni_uX6 ni_w231) ni_muGet <|
  ni_row (ni_copy ni_dX6_copyFrom_109 ni_w939 ni_w920 ni_w919 ni_w48) ni_muCopy <|
  ni_row (ni_aloadn ni_dX6_copyFrom_112 rfl) ni_muLd <|
  ni_row (ni_aloadn ni_dX6_copyFrom_113 rfl) ni_muLd <|
  ni_row (ni_get (T := TX6) ni_dX6_copyFrom_114 (by decide) rfl (by decide) ni_uX6 ni_w233) ni_muGet <|
  ni_row (ni_putA (T := TX6) (ty0 := tyX6) (b := false) (Or.inl rfl) rfl ni_dX6_copyFrom_117 (by decide) rfl (by decide) ni_uX6 tyX6_ok nmX6 ni_w233) ni_muPut <|
  ni_row (ni_aloadn ni_dX6_copyFrom_120 rfl) ni_muLd <|
  ni_row (ni_aloadn ni_dX6_copyFrom_121 rfl) ni_muLd <|
  ni_row (ni_get (T := TX6) ni_dX6_copyFrom_122 (by decide) rfl (by decide) ni_uX6 ni_w235) ni_muGet <|
  ni_row (ni_putA (T := TX6) (ty0 := tyX6) (b := false) (Or.inl rfl) rfl ni_dX6_copyFrom_125 (by decide) rfl (by decide) ni_uX6 tyX6_ok nmX6 ni_w235) ni_muPut <|
  ni_row (ni_aloadn ni_dX6_copyFrom_128 rfl) ni_muLd <|
  ni_row (ni_aloadn ni_dX6_copyFrom_129 rfl) ni_muLd <|
  ni_row (ni_get (T := TX6) ni_dX6_copyFrom_130 (by decide) rfl (by decide) ni_uX6 ni_w236) ni_muGet <|
  ni_row (ni_putA (T := TX6) (ty0 := tyX6) (b := false) (Or.inl rfl) rfl ni_dX6_copyFrom_133 (by decide) rfl (by decide) ni_uX6 tyX6_ok nmX6 ni_w236) ni_muPut <|
  ni_row (ni_ret ni_dX6_copyFrom_136) ni_muR <|
  ni_row0
def ni_pr110 : List (Nat × ni_S) := [(0, ni_sP (ni_gPush (.int 0) 1)),
  (1, ni_sSt 0 2 2),
  (2, ni_sP (ni_gPush (.int 0) 3)),
  (3, ni_sSt 0 3 4),
  (4, ni_sLd 0 3 5),
  (5, ni_sLd 3 0 6),
  (6, ni_sGet 5 10 9),
  (9, ni_sP (ni_gIc (fun x y => decide (y ≤ x)) 39 12)),
  (12, ni_sLd 0 2 13),
  (13, ni_sLd 3 0 14),
  (14, ni_sGet 5 9 17),
  (17, ni_sLd 0 3 18),
  (18, ni_sAld .int 0 19),
  (19, ni_sC 98 1 22),
  (22, ni_sLd 0 1 23),
  (23, ni_sP (ni_gIc (fun x y => decide (¬ x = y)) 30 26)),
  (26, ni_sP (ni_gPush (.int 1) 27)),
  (27, ni_sP (ni_gGo 31)),
  (30, ni_sP (ni_gPush (.int 0) 31)),
  (31, ni_sP (ni_gI (fun x y => x + y) 32)),
  (32, ni_sSt 0 2 33),
  (33, ni_sInc 3 (1) 36),
  (36, ni_sP (ni_gGo 4)),
  (39, ni_sLd 0 2 40),
  (40, ni_sR (some .int))]
theorem ni_pk110 : ∀ r ∈ ni_pr110, ni_Ok xs yX6_countOf cX6_countOf 4 (some .int) [] r.1 r.2 ∧ ni_MU r.2 := ni_row (ni_okP (ni_iconst ni_dX6_countOf_0 (by decide +kernel))) (ni_muP (ni_eqPush fun _ => rfl)) <|
  ni_row (ni_istoren ni_dX6_countOf_1 rfl (by decide)) ni_muSt <|
  ni_row (ni_okP (ni_iconst ni_dX6_countOf_2 (by decide +kernel))) (ni_muP (ni_eqPush fun _ => rfl)) <|
  ni_row (ni_istoren ni_dX6_countOf_3 rfl (by decide)) ni_muSt <|
  ni_row (ni_iloadn ni_dX6_countOf_4 rfl) ni_muLd <|
  ni_row (ni_aloadn ni_dX6_countOf_5 rfl) ni_muLd <|
  ni_row (ni_get (T := TX6) ni_dX6_countOf_6 (by decide) rfl (by decide) ni_uX6 ni_w231) ni_muGet <|
  ni_row (ni_okP (ni_ic_ge ni_dX6_countOf_9 (by decide))) (ni_muP ni_eqIc) <|
  ni_row (ni_iloadn ni_dX6_countOf_12 rfl) ni_muLd <|
  ni_row (ni_aloadn ni_dX6_countOf_13 rfl) ni_muLd <|
  ni_row (ni_get (T := TX6) ni_dX6_countOf_14 (by decide) rfl (by decide) ni_uX6 ni_w230) ni_muGet <|
  ni_row (ni_iloadn ni_dX6_countOf_17 rfl) ni_muLd <|
  ni_row (ni_iald ni_dX6_countOf_18) ni_muAld <|
  ni_row (ni_stat (y := 98) ni_dX6_countOf_19 ni_w878 ni_w879 ni_w45 ni_w880 ⟨by decide +kernel, by decide +kernel, by decide +kernel⟩ (by decide) rfl) ni_muC <|
  ni_row (ni_iloadn ni_dX6_countOf_22 rfl) ni_muLd <|
  ni_row (ni_okP (ni_ic_ne ni_dX6_countOf_23 (by decide))) (ni_muP ni_eqIc) <|
  ni_row (ni_okP (ni_iconst ni_dX6_countOf_26 (by decide +kernel))) (ni_muP (ni_eqPush fun _ => rfl)) <|
  ni_row (ni_okP (ni_goto ni_dX6_countOf_27 (by decide))) (ni_muP ni_eqGo) <|
  ni_row (ni_okP (ni_iconst ni_dX6_countOf_30 (by decide +kernel))) (ni_muP (ni_eqPush fun _ => rfl)) <|
  ni_row (ni_okP (ni_iadd ni_dX6_countOf_31)) (ni_muP ni_eqI) <|
  ni_row (ni_istoren ni_dX6_countOf_32 rfl (by decide)) ni_muSt <|
  ni_row (ni_iinc (n := 1) ni_dX6_countOf_33 (by decide)) ni_muInc <|
  ni_row (ni_okP (ni_goto ni_dX6_countOf_36 (by decide))) (ni_muP ni_eqGo) <|
  ni_row (ni_iloadn ni_dX6_countOf_39 rfl) ni_muLd <|
  ni_row (ni_ret ni_dX6_countOf_40) ni_muR <|
  ni_row0
def ni_pr111 : List (Nat × ni_S) := [(0, ni_sP (ni_gPush (.int 0) 1)),
  (1, ni_sSt 0 2 2),
  (2, ni_sLd 0 2 3),
  (3, ni_sLd 3 0 4),
  (4, ni_sGet 5 10 7),
  (7, ni_sP (ni_gIc (fun x y => decide (y ≤ x)) 31 10)),
  (10, ni_sLd 3 0 11),
  (11, ni_sGet 5 9 14),
  (14, ni_sLd 0 2 15),
  (15, ni_sAld .int 0 16),
  (16, ni_sC 98 1 19),
  (19, ni_sLd 0 1 20),
  (20, ni_sP (ni_gIc (fun x y => decide (¬ x = y)) 25 23)),
  (23, ni_sLd 0 2 24),
  (24, ni_sR (some .int)),
  (25, ni_sInc 2 (1) 28),
  (28, ni_sP (ni_gGo 2)),
  (31, ni_sP (ni_gPush (.int (-1)) 32)),
  (32, ni_sR (some .int))]
theorem ni_pk111 : ∀ r ∈ ni_pr111, ni_Ok xs yX6_firstOf cX6_firstOf 3 (some .int) [] r.1 r.2 ∧ ni_MU r.2 := ni_row (ni_okP (ni_iconst ni_dX6_firstOf_0 (by decide +kernel))) (ni_muP (ni_eqPush fun _ => rfl)) <|
  ni_row (ni_istoren ni_dX6_firstOf_1 rfl (by decide)) ni_muSt <|
  ni_row (ni_iloadn ni_dX6_firstOf_2 rfl) ni_muLd <|
  ni_row (ni_aloadn ni_dX6_firstOf_3 rfl) ni_muLd <|
  ni_row (ni_get (T := TX6) ni_dX6_firstOf_4 (by decide) rfl (by decide) ni_uX6 ni_w231) ni_muGet <|
  ni_row (ni_okP (ni_ic_ge ni_dX6_firstOf_7 (by decide))) (ni_muP ni_eqIc) <|
  ni_row (ni_aloadn ni_dX6_firstOf_10 rfl) ni_muLd <|
  ni_row (ni_get (T := TX6) ni_dX6_firstOf_11 (by decide) rfl (by decide) ni_uX6 ni_w230) ni_muGet <|
  ni_row (ni_iloadn ni_dX6_firstOf_14 rfl) ni_muLd <|
  ni_row (ni_iald ni_dX6_firstOf_15) ni_muAld <|
  ni_row (ni_stat (y := 98) ni_dX6_firstOf_16 ni_w878 ni_w879 ni_w45 ni_w880 ⟨by decide +kernel, by decide +kernel, by decide +kernel⟩ (by decide) rfl) ni_muC <|
  ni_row (ni_iloadn ni_dX6_firstOf_19 rfl) ni_muLd <|
  ni_row (ni_okP (ni_ic_ne ni_dX6_firstOf_20 (by decide))) (ni_muP ni_eqIc) <|
  ni_row (ni_iloadn ni_dX6_firstOf_23 rfl) ni_muLd <|
  ni_row (ni_ret ni_dX6_firstOf_24) ni_muR <|
  ni_row (ni_iinc (n := 1) ni_dX6_firstOf_25 (by decide)) ni_muInc <|
  ni_row (ni_okP (ni_goto ni_dX6_firstOf_28 (by decide))) (ni_muP ni_eqGo) <|
  ni_row (ni_okP (ni_iconst ni_dX6_firstOf_31 (by decide +kernel))) (ni_muP (ni_eqPush fun _ => rfl)) <|
  ni_row (ni_ret ni_dX6_firstOf_32) ni_muR <|
  ni_row0
def ni_pr112 : List (Nat × ni_S) := [(0, ni_sP (ni_gPush (.int 0) 1)),
  (1, ni_sSt 0 2 2),
  (2, ni_sLd 0 2 3),
  (3, ni_sLd 3 0 4),
  (4, ni_sGet 5 10 7),
  (7, ni_sP (ni_gIc (fun x y => decide (y ≤ x)) 26 10)),
  (10, ni_sLd 3 1 11),
  (11, ni_sLd 3 0 12),
  (12, ni_sGet 5 9 15),
  (15, ni_sLd 0 2 16),
  (16, ni_sAld .int 0 17),
  (17, ni_sC 113 2 20),
  (20, ni_sInc 2 (1) 23),
  (23, ni_sP (ni_gGo 2)),
  (26, ni_sLd 3 0 27),
  (27, ni_sP (ni_gPush (.int 0) 28)),
  (28, ni_sPut 5 10 (.int) 31),
  (31, ni_sLd 3 0 32),
  (32, ni_sP (ni_gPush (.int 0) 33)),
  (33, ni_sPut 5 11 (.int) 36),
  (36, ni_sLd 3 1 37),
  (37, ni_sLd 3 0 38),
  (38, ni_sGet 5 12 41),
  (41, ni_sC 113 2 44),
  (44, ni_sLd 3 0 45),
  (45, ni_sP (ni_gPush (.int (-1)) 46)),
  (46, ni_sPut 5 12 (.int) 49),
  (49, ni_sLd 3 0 50),
  (50, ni_sP (ni_gPush (.int 0) 51)),
  (51, ni_sPut 5 13 (.int) 54),
  (54, ni_sP (ni_gPush (.int 0) 55)),
  (55, ni_sSt 0 2 56),
  (56, ni_sLd 0 2 57),
  (57, ni_sP (ni_gPush (.int 21) 59)),
  (59, ni_sP (ni_gIc (fun x y => decide (y ≤ x)) 80 62)),
  (62, ni_sLd 3 1 63),
  (63, ni_sLd 3 0 64),
  (64, ni_sGet 5 0 67),
  (67, ni_sLd 0 2 68),
  (68, ni_sV 68 1 2 71),
  (71, ni_sC 113 2 74),
  (74, ni_sInc 2 (1) 77),
  (77, ni_sP (ni_gGo 56)),
  (80, ni_sLd 3 0 81),
  (81, ni_sGet 5 0 84),
  (84, ni_sP (ni_gPush (.int 0) 85)),
  (85, ni_sPut 2 2 (.int) 88),
  (88, ni_sLd 3 0 89),
  (89, ni_sV 107 0 5 92),
  (92, ni_sR (none))]
theorem ni_pk112 : ∀ r ∈ ni_pr112, ni_Ok xs yX6_lose cX6_lose 3 (none) [] r.1 r.2 ∧ ni_MU r.2 := ni_row (ni_okP (ni_iconst ni_dX6_lose_0 (by decide +kernel))) (ni_muP (ni_eqPush fun _ => rfl)) <|
  ni_row (ni_istoren ni_dX6_lose_1 rfl (by decide)) ni_muSt <|
  ni_row (ni_iloadn ni_dX6_lose_2 rfl) ni_muLd <|
  ni_row (ni_aloadn ni_dX6_lose_3 rfl) ni_muLd <|
  ni_row (ni_get (T := TX6) ni_dX6_lose_4 (by decide) rfl (by decide) ni_uX6 ni_w231) ni_muGet <|
  ni_row (ni_okP (ni_ic_ge ni_dX6_lose_7 (by decide))) (ni_muP ni_eqIc) <|
  ni_row (ni_aloadn ni_dX6_lose_10 rfl) ni_muLd <|
  ni_row (ni_aloadn ni_dX6_lose_11 rfl) ni_muLd <|
  ni_row (ni_get (T := TX6) ni_dX6_lose_12 (by decide) rfl (by decide) ni_uX6 ni_w230) ni_muGet <|
  ni_row (ni_iloadn ni_dX6_lose_15 rfl) ni_muLd <|
  ni_row (ni_iald ni_dX6_lose_16) ni_muAld <|
  ni_row (ni_stat (y := 113) ni_dX6_lose_17 ni_w589 ni_w590 ni_w33 ni_w591 ⟨by decide +kernel, by decide +kernel, by decide +kernel⟩ (by decide) rfl) ni_muC <|
  ni_row (ni_iinc (n := 1) ni_dX6_lose_20 (by decide)) ni_muInc <|
  ni_row (ni_okP (ni_goto ni_dX6_lose_23 (by decide))) (ni_muP ni_eqGo) <|
  ni_row (ni_aloadn ni_dX6_lose_26 rfl) ni_muLd <|
  ni_row (ni_okP (ni_iconst ni_dX6_lose_27 (by decide +kernel))) (ni_muP (ni_eqPush fun _ => rfl)) <|
  ni_row (ni_putA (T := TX6) (ty0 := tyX6) (b := false) (Or.inl rfl) rfl ni_dX6_lose_28 (by decide) rfl (by decide) ni_uX6 tyX6_ok nmX6 ni_w231) ni_muPut <|
  ni_row (ni_aloadn ni_dX6_lose_31 rfl) ni_muLd <|
  ni_row (ni_okP (ni_iconst ni_dX6_lose_32 (by decide +kernel))) (ni_muP (ni_eqPush fun _ => rfl)) <|
  ni_row (ni_putA (T := TX6) (ty0 := tyX6) (b := false) (Or.inl rfl) rfl ni_dX6_lose_33 (by decide) rfl (by decide) ni_uX6 tyX6_ok nmX6 ni_w233) ni_muPut <|
  ni_row (ni_aloadn ni_dX6_lose_36 rfl) ni_muLd <|
  ni_row (ni_aloadn ni_dX6_lose_37 rfl) ni_muLd <|
  ni_row (ni_get (T := TX6) ni_dX6_lose_38 (by decide) rfl (by decide) ni_uX6 ni_w235) ni_muGet <|
  ni_row (ni_stat (y := 113) ni_dX6_lose_41 ni_w589 ni_w590 ni_w33 ni_w591 ⟨by decide +kernel, by decide +kernel, by decide +kernel⟩ (by decide) rfl) ni_muC <|
  ni_row (ni_aloadn ni_dX6_lose_44 rfl) ni_muLd <|
  ni_row (ni_okP (ni_iconst ni_dX6_lose_45 (by decide +kernel))) (ni_muP (ni_eqPush fun _ => rfl)) <|
  ni_row (ni_putA (T := TX6) (ty0 := tyX6) (b := false) (Or.inl rfl) rfl ni_dX6_lose_46 (by decide) rfl (by decide) ni_uX6 tyX6_ok nmX6 ni_w235) ni_muPut <|
  ni_row (ni_aloadn ni_dX6_lose_49 rfl) ni_muLd <|
  ni_row (ni_okP (ni_iconst ni_dX6_lose_50 (by decide +kernel))) (ni_muP (ni_eqPush fun _ => rfl)) <|
  ni_row (ni_putA (T := TX6) (ty0 := tyX6) (b := false) (Or.inl rfl) rfl ni_dX6_lose_51 (by decide) rfl (by decide) ni_uX6 tyX6_ok nmX6 ni_w236) ni_muPut <|
  ni_row (ni_okP (ni_iconst ni_dX6_lose_54 (by decide +kernel))) (ni_muP (ni_eqPush fun _ => rfl)) <|
  ni_row (ni_istoren ni_dX6_lose_55 rfl (by decide)) ni_muSt <|
  ni_row (ni_iloadn ni_dX6_lose_56 rfl) ni_muLd <|
  ni_row (ni_okP (ni_bipush ni_dX6_lose_57 (by decide +kernel))) (ni_muP (ni_eqPush fun _ => rfl)) <|
  ni_row (ni_okP (ni_ic_ge ni_dX6_lose_59 (by decide))) (ni_muP ni_eqIc) <|
  ni_row (ni_aloadn ni_dX6_lose_62 rfl) ni_muLd <|
  ni_row (ni_aloadn ni_dX6_lose_63 rfl) ni_muLd <|
  ni_row (ni_get (T := TX6) ni_dX6_lose_64 (by decide) rfl (by decide) ni_uX6 ni_w217) ni_muGet <|
  ni_row (ni_iloadn ni_dX6_lose_67 rfl) ni_muLd <|
  ni_row (ni_virt (y := 68) (T := TX2) ni_dX6_lose_68 (by decide) rfl rfl ni_w595 ni_w596 ni_w597 ni_w34 ni_w598 ⟨by decide +kernel, by decide +kernel, by decide +kernel⟩ (by decide) rfl) (ni_muV (by decide)) <|
  ni_row (ni_stat (y := 113) ni_dX6_lose_71 ni_w589 ni_w590 ni_w33 ni_w591 ⟨by decide +kernel, by decide +kernel, by decide +kernel⟩ (by decide) rfl) ni_muC <|
  ni_row (ni_iinc (n := 1) ni_dX6_lose_74 (by decide)) ni_muInc <|
  ni_row (ni_okP (ni_goto ni_dX6_lose_77 (by decide))) (ni_muP ni_eqGo) <|
  ni_row (ni_aloadn ni_dX6_lose_80 rfl) ni_muLd <|
  ni_row (ni_get (T := TX6) ni_dX6_lose_81 (by decide) rfl (by decide) ni_uX6 ni_w217) ni_muGet <|
  ni_row (ni_okP (ni_iconst ni_dX6_lose_84 (by decide +kernel))) (ni_muP (ni_eqPush fun _ => rfl)) <|
  ni_row (ni_putA (T := TX2) (ty0 := tyX2) (b := false) (Or.inl rfl) rfl ni_dX6_lose_85 (by decide) rfl (by decide) ni_uX2 tyX2_ok nmX2 ni_w201) ni_muPut <|
  ni_row (ni_aloadn ni_dX6_lose_88 rfl) ni_muLd <|
  ni_row (ni_virt (y := 107) (T := TX6) ni_dX6_lose_89 (by decide) rfl rfl ni_w602 ni_w603 ni_w604 ni_w33 ni_w605 ⟨by decide +kernel, by decide +kernel, by decide +kernel⟩ (by decide) rfl) (ni_muV (by decide)) <|
  ni_row (ni_ret ni_dX6_lose_92) ni_muR <|
  ni_row0
end NIP
