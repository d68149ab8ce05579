section NIP
variable {xs : List Int32}
def ni_pr18 : List (Nat × ni_S) := [(0, ni_sLd 1 0 1),
  (1, ni_sSt 1 3 2),
  (2, ni_sLd 1 3 3),
  (3, ni_sP (ni_gPush (.long (31)) 6)),
  (6, ni_sP (ni_gJ (fun x y => .long (x * y)) 7)),
  (7, ni_sLd 3 2 8),
  (8, ni_sGet 3 5 11),
  (11, ni_sP (ni_gIf (fun x => decide (x = 0)) 18 14)),
  (14, ni_sP (ni_gPush (.int 1) 15)),
  (15, ni_sP (ni_gGo 19)),
  (18, ni_sP (ni_gPush (.int 0) 19)),
  (19, ni_sP (ni_gU (fun x => .long x.toInt64) 20)),
  (20, ni_sP (ni_gJ (fun x y => .long (x + y)) 21)),
  (21, ni_sSt 1 3 22),
  (22, ni_sLd 1 3 23),
  (23, ni_sP (ni_gPush (.long (31)) 26)),
  (26, ni_sP (ni_gJ (fun x y => .long (x * y)) 27)),
  (27, ni_sLd 3 2 28),
  (28, ni_sV 71 0 3 31),
  (31, ni_sP (ni_gU (fun x => .long x.toInt64) 32)),
  (32, ni_sP (ni_gJ (fun x y => .long (x + y)) 33)),
  (33, ni_sSt 1 3 34),
  (34, ni_sLd 1 3 35),
  (35, ni_sLd 3 2 36),
  (36, ni_sGet 3 6 39),
  (39, ni_sC 19 2 42),
  (42, ni_sSt 1 3 43),
  (43, ni_sLd 1 3 44),
  (44, ni_sLd 3 2 45),
  (45, ni_sGet 3 7 48),
  (48, ni_sC 19 2 51),
  (51, ni_sR (some .long))]
theorem ni_pk18 : ∀ r ∈ ni_pr18, ni_Ok xs yX11_digestLink cX11_digestLink 5 (some .long) [] r.1 r.2 ∧ ni_MU r.2 := ni_row (ni_lloadn ni_dX11_digestLink_0 rfl) ni_muLd <|
  ni_row (ni_lstoren ni_dX11_digestLink_1 rfl (by decide)) ni_muSt <|
  ni_row (ni_lloadn ni_dX11_digestLink_2 rfl) ni_muLd <|
  ni_row (ni_okP (ni_ldc2 ni_dX11_digestLink_3 ni_w959)) (ni_muP (ni_eqPush fun _ => rfl)) <|
  ni_row (ni_okP (ni_lmul ni_dX11_digestLink_6)) (ni_muP (ni_eqJ fun _ _ _ => rfl)) <|
  ni_row (ni_aloadn ni_dX11_digestLink_7 rfl) ni_muLd <|
  ni_row (ni_get (T := TX3) ni_dX11_digestLink_8 (by decide) rfl (by decide) ni_uX3 ni_w278) ni_muGet <|
  ni_row (ni_okP (ni_if_eq ni_dX11_digestLink_11 (by decide))) (ni_muP ni_eqIf) <|
  ni_row (ni_okP (ni_iconst ni_dX11_digestLink_14 (by decide +kernel))) (ni_muP (ni_eqPush fun _ => rfl)) <|
  ni_row (ni_okP (ni_goto ni_dX11_digestLink_15 (by decide))) (ni_muP ni_eqGo) <|
  ni_row (ni_okP (ni_iconst ni_dX11_digestLink_18 (by decide +kernel))) (ni_muP (ni_eqPush fun _ => rfl)) <|
  ni_row (ni_okP (ni_i2l ni_dX11_digestLink_19)) (ni_muP (ni_eqU fun _ _ => rfl)) <|
  ni_row (ni_okP (ni_ladd ni_dX11_digestLink_20)) (ni_muP (ni_eqJ fun _ _ _ => rfl)) <|
  ni_row (ni_lstoren ni_dX11_digestLink_21 rfl (by decide)) ni_muSt <|
  ni_row (ni_lloadn ni_dX11_digestLink_22 rfl) ni_muLd <|
  ni_row (ni_okP (ni_ldc2 ni_dX11_digestLink_23 ni_w959)) (ni_muP (ni_eqPush fun _ => rfl)) <|
  ni_row (ni_okP (ni_lmul ni_dX11_digestLink_26)) (ni_muP (ni_eqJ fun _ _ _ => rfl)) <|
  ni_row (ni_aloadn ni_dX11_digestLink_27 rfl) ni_muLd <|
  ni_row (ni_virt (y := 71) (T := TX3) ni_dX11_digestLink_28 (by decide) rfl rfl ni_w1000 ni_w1001 ni_w1002 ni_w32 ni_w1003 ⟨by decide +kernel, by decide +kernel, by decide +kernel⟩ (by decide) rfl) (ni_muV (by decide)) <|
  ni_row (ni_okP (ni_i2l ni_dX11_digestLink_31)) (ni_muP (ni_eqU fun _ _ => rfl)) <|
  ni_row (ni_okP (ni_ladd ni_dX11_digestLink_32)) (ni_muP (ni_eqJ fun _ _ _ => rfl)) <|
  ni_row (ni_lstoren ni_dX11_digestLink_33 rfl (by decide)) ni_muSt <|
  ni_row (ni_lloadn ni_dX11_digestLink_34 rfl) ni_muLd <|
  ni_row (ni_aloadn ni_dX11_digestLink_35 rfl) ni_muLd <|
  ni_row (ni_get (T := TX3) ni_dX11_digestLink_36 (by decide) rfl (by decide) ni_uX3 ni_w283) ni_muGet <|
  ni_row (ni_stat (y := 19) ni_dX11_digestLink_39 ni_w1004 ni_w1005 ni_w28 ni_w1006 ⟨by decide +kernel, by decide +kernel, by decide +kernel⟩ (by decide) rfl) ni_muC <|
  ni_row (ni_lstoren ni_dX11_digestLink_42 rfl (by decide)) ni_muSt <|
  ni_row (ni_lloadn ni_dX11_digestLink_43 rfl) ni_muLd <|
  ni_row (ni_aloadn ni_dX11_digestLink_44 rfl) ni_muLd <|
  ni_row (ni_get (T := TX3) ni_dX11_digestLink_45 (by decide) rfl (by decide) ni_uX3 ni_w286) ni_muGet <|
  ni_row (ni_stat (y := 19) ni_dX11_digestLink_48 ni_w1004 ni_w1005 ni_w28 ni_w1006 ⟨by decide +kernel, by decide +kernel, by decide +kernel⟩ (by decide) rfl) ni_muC <|
  ni_row (ni_ret ni_dX11_digestLink_51) ni_muR <|
  ni_row0
def ni_pr19 : List (Nat × ni_S) := [(0, ni_sLd 1 0 1),
  (1, ni_sSt 1 3 2),
  (2, ni_sLd 1 3 3),
  (3, ni_sP (ni_gPush (.long (31)) 6)),
  (6, ni_sP (ni_gJ (fun x y => .long (x * y)) 7)),
  (7, ni_sLd 3 2 8),
  (8, ni_sGet 5 11 11),
  (11, ni_sP (ni_gU (fun x => .long x.toInt64) 12)),
  (12, ni_sP (ni_gJ (fun x y => .long (x + y)) 13)),
  (13, ni_sSt 1 3 14),
  (14, ni_sLd 1 3 15),
  (15, ni_sP (ni_gPush (.long (31)) 18)),
  (18, ni_sP (ni_gJ (fun x y => .long (x * y)) 19)),
  (19, ni_sLd 3 2 20),
  (20, ni_sGet 5 13 23),
  (23, ni_sP (ni_gU (fun x => .long x.toInt64) 24)),
  (24, ni_sP (ni_gJ (fun x y => .long (x + y)) 25)),
  (25, ni_sSt 1 3 26),
  (26, ni_sP (ni_gPush (.int 0) 27)),
  (27, ni_sSt 0 5 29),
  (29, ni_sLd 0 5 31),
  (31, ni_sP (ni_gPush (.int 4) 32)),
  (32, ni_sP (ni_gIc (fun x y => decide (y ≤ x)) 70 35)),
  (35, ni_sLd 1 3 36),
  (36, ni_sP (ni_gPush (.long (31)) 39)),
  (39, ni_sP (ni_gJ (fun x y => .long (x * y)) 40)),
  (40, ni_sLd 3 2 41),
  (41, ni_sLd 0 5 43),
  (43, ni_sV 110 1 5 46),
  (46, ni_sP (ni_gU (fun x => .long x.toInt64) 47)),
  (47, ni_sP (ni_gJ (fun x y => .long (x + y)) 48)),
  (48, ni_sSt 1 3 49),
  (49, ni_sLd 1 3 50),
  (50, ni_sP (ni_gPush (.long (31)) 53)),
  (53, ni_sP (ni_gJ (fun x y => .long (x * y)) 54)),
  (54, ni_sLd 3 2 55),
  (55, ni_sGet 5 6 58),
  (58, ni_sLd 0 5 60),
  (60, ni_sAld .int 0 61),
  (61, ni_sP (ni_gU (fun x => .long x.toInt64) 62)),
  (62, ni_sP (ni_gJ (fun x y => .long (x + y)) 63)),
  (63, ni_sSt 1 3 64),
  (64, ni_sInc 5 (1) 67),
  (67, ni_sP (ni_gGo 29)),
  (70, ni_sLd 1 3 71),
  (71, ni_sR (some .long))]
theorem ni_pk19 : ∀ r ∈ ni_pr19, ni_Ok xs yX11_digestPort cX11_digestPort 6 (some .long) [] r.1 r.2 ∧ ni_MU r.2 := ni_row (ni_lloadn ni_dX11_digestPort_0 rfl) ni_muLd <|
  ni_row (ni_lstoren ni_dX11_digestPort_1 rfl (by decide)) ni_muSt <|
  ni_row (ni_lloadn ni_dX11_digestPort_2 rfl) ni_muLd <|
  ni_row (ni_okP (ni_ldc2 ni_dX11_digestPort_3 ni_w959)) (ni_muP (ni_eqPush fun _ => rfl)) <|
  ni_row (ni_okP (ni_lmul ni_dX11_digestPort_6)) (ni_muP (ni_eqJ fun _ _ _ => rfl)) <|
  ni_row (ni_aloadn ni_dX11_digestPort_7 rfl) ni_muLd <|
  ni_row (ni_get (T := TX6) ni_dX11_digestPort_8 (by decide) rfl (by decide) ni_uX6 ni_w234) ni_muGet <|
  ni_row (ni_okP (ni_i2l ni_dX11_digestPort_11)) (ni_muP (ni_eqU fun _ _ => rfl)) <|
  ni_row (ni_okP (ni_ladd ni_dX11_digestPort_12)) (ni_muP (ni_eqJ fun _ _ _ => rfl)) <|
  ni_row (ni_lstoren ni_dX11_digestPort_13 rfl (by decide)) ni_muSt <|
  ni_row (ni_lloadn ni_dX11_digestPort_14 rfl) ni_muLd <|
  ni_row (ni_okP (ni_ldc2 ni_dX11_digestPort_15 ni_w959)) (ni_muP (ni_eqPush fun _ => rfl)) <|
  ni_row (ni_okP (ni_lmul ni_dX11_digestPort_18)) (ni_muP (ni_eqJ fun _ _ _ => rfl)) <|
  ni_row (ni_aloadn ni_dX11_digestPort_19 rfl) ni_muLd <|
  ni_row (ni_get (T := TX6) ni_dX11_digestPort_20 (by decide) rfl (by decide) ni_uX6 ni_w237) ni_muGet <|
  ni_row (ni_okP (ni_i2l ni_dX11_digestPort_23)) (ni_muP (ni_eqU fun _ _ => rfl)) <|
  ni_row (ni_okP (ni_ladd ni_dX11_digestPort_24)) (ni_muP (ni_eqJ fun _ _ _ => rfl)) <|
  ni_row (ni_lstoren ni_dX11_digestPort_25 rfl (by decide)) ni_muSt <|
  ni_row (ni_okP (ni_iconst ni_dX11_digestPort_26 (by decide +kernel))) (ni_muP (ni_eqPush fun _ => rfl)) <|
  ni_row (ni_istore ni_dX11_digestPort_27 (by decide)) ni_muSt <|
  ni_row (ni_iload ni_dX11_digestPort_29) ni_muLd <|
  ni_row (ni_okP (ni_iconst ni_dX11_digestPort_31 (by decide +kernel))) (ni_muP (ni_eqPush fun _ => rfl)) <|
  ni_row (ni_okP (ni_ic_ge ni_dX11_digestPort_32 (by decide))) (ni_muP ni_eqIc) <|
  ni_row (ni_lloadn ni_dX11_digestPort_35 rfl) ni_muLd <|
  ni_row (ni_okP (ni_ldc2 ni_dX11_digestPort_36 ni_w959)) (ni_muP (ni_eqPush fun _ => rfl)) <|
  ni_row (ni_okP (ni_lmul ni_dX11_digestPort_39)) (ni_muP (ni_eqJ fun _ _ _ => rfl)) <|
  ni_row (ni_aloadn ni_dX11_digestPort_40 rfl) ni_muLd <|
  ni_row (ni_iload ni_dX11_digestPort_41) ni_muLd <|
  ni_row (ni_virt (y := 110) (T := TX6) ni_dX11_digestPort_43 (by decide) rfl rfl ni_w1007 ni_w1008 ni_w1009 ni_w33 ni_w1010 ⟨by decide +kernel, by decide +kernel, by decide +kernel⟩ (by decide) rfl) (ni_muV (by decide)) <|
  ni_row (ni_okP (ni_i2l ni_dX11_digestPort_46)) (ni_muP (ni_eqU fun _ _ => rfl)) <|
  ni_row (ni_okP (ni_ladd ni_dX11_digestPort_47)) (ni_muP (ni_eqJ fun _ _ _ => rfl)) <|
  ni_row (ni_lstoren ni_dX11_digestPort_48 rfl (by decide)) ni_muSt <|
  ni_row (ni_lloadn ni_dX11_digestPort_49 rfl) ni_muLd <|
  ni_row (ni_okP (ni_ldc2 ni_dX11_digestPort_50 ni_w959)) (ni_muP (ni_eqPush fun _ => rfl)) <|
  ni_row (ni_okP (ni_lmul ni_dX11_digestPort_53)) (ni_muP (ni_eqJ fun _ _ _ => rfl)) <|
  ni_row (ni_aloadn ni_dX11_digestPort_54 rfl) ni_muLd <|
  ni_row (ni_get (T := TX6) ni_dX11_digestPort_55 (by decide) rfl (by decide) ni_uX6 ni_w227) ni_muGet <|
  ni_row (ni_iload ni_dX11_digestPort_58) ni_muLd <|
  ni_row (ni_iald ni_dX11_digestPort_60) ni_muAld <|
  ni_row (ni_okP (ni_i2l ni_dX11_digestPort_61)) (ni_muP (ni_eqU fun _ _ => rfl)) <|
  ni_row (ni_okP (ni_ladd ni_dX11_digestPort_62)) (ni_muP (ni_eqJ fun _ _ _ => rfl)) <|
  ni_row (ni_lstoren ni_dX11_digestPort_63 rfl (by decide)) ni_muSt <|
  ni_row (ni_iinc (n := 1) ni_dX11_digestPort_64 (by decide)) ni_muInc <|
  ni_row (ni_okP (ni_goto ni_dX11_digestPort_67 (by decide))) (ni_muP ni_eqGo) <|
  ni_row (ni_lloadn ni_dX11_digestPort_70 rfl) ni_muLd <|
  ni_row (ni_ret ni_dX11_digestPort_71) ni_muR <|
  ni_row0
def ni_pr20 : List (Nat × ni_S) := [(0, ni_sLd 1 1 1),
  (1, ni_sSt 1 4 3),
  (3, ni_sP (ni_gPush (.int 0) 4)),
  (4, ni_sSt 0 6 6),
  (6, ni_sLd 0 6 8),
  (8, ni_sLd 3 0 9),
  (9, ni_sGet 9 0 12),
  (12, ni_sGet 4 1 15),
  (15, ni_sP (ni_gIc (fun x y => decide (y ≤ x)) 81 18)),
  (18, ni_sLd 1 4 20),
  (20, ni_sP (ni_gPush (.long (31)) 23)),
  (23, ni_sP (ni_gJ (fun x y => .long (x * y)) 24)),
  (24, ni_sLd 3 3 25),
  (25, ni_sGet 7 1 28),
  (28, ni_sLd 0 6 30),
  (30, ni_sQld 31),
  (31, ni_sGet 1 1 34),
  (34, ni_sP (ni_gU (fun x => .long x.toInt64) 35)),
  (35, ni_sP (ni_gJ (fun x y => .long (x + y)) 36)),
  (36, ni_sSt 1 4 38),
  (38, ni_sLd 1 4 40),
  (40, ni_sP (ni_gPush (.long (31)) 43)),
  (43, ni_sP (ni_gJ (fun x y => .long (x * y)) 44)),
  (44, ni_sLd 3 3 45),
  (45, ni_sGet 7 2 48),
  (48, ni_sLd 0 6 50),
  (50, ni_sAld .int 0 51),
  (51, ni_sP (ni_gU (fun x => .long x.toInt64) 52)),
  (52, ni_sP (ni_gJ (fun x y => .long (x + y)) 53)),
  (53, ni_sSt 1 4 55),
  (55, ni_sLd 1 4 57),
  (57, ni_sP (ni_gPush (.long (31)) 60)),
  (60, ni_sP (ni_gJ (fun x y => .long (x * y)) 61)),
  (61, ni_sLd 3 3 62),
  (62, ni_sGet 7 3 65),
  (65, ni_sLd 0 6 67),
  (67, ni_sAld .int 0 68),
  (68, ni_sC 157 1 71),
  (71, ni_sP (ni_gU (fun x => .long x.toInt64) 72)),
  (72, ni_sP (ni_gJ (fun x y => .long (x + y)) 73)),
  (73, ni_sSt 1 4 75),
  (75, ni_sInc 6 (1) 78),
  (78, ni_sP (ni_gGo 6)),
  (81, ni_sLd 1 4 83),
  (83, ni_sP (ni_gPush (.long (31)) 86)),
  (86, ni_sP (ni_gJ (fun x y => .long (x * y)) 87)),
  (87, ni_sLd 3 3 88),
  (88, ni_sGet 7 4 91),
  (91, ni_sGet 8 3 94),
  (94, ni_sP (ni_gU (fun x => .long x.toInt64) 95)),
  (95, ni_sP (ni_gJ (fun x y => .long (x + y)) 96)),
  (96, ni_sSt 1 4 98),
  (98, ni_sLd 1 4 100),
  (100, ni_sP (ni_gPush (.long (31)) 103)),
  (103, ni_sP (ni_gJ (fun x y => .long (x * y)) 104)),
  (104, ni_sLd 3 3 105),
  (105, ni_sGet 7 4 108),
  (108, ni_sV 145 0 8 111),
  (111, ni_sP (ni_gU (fun x => .long x.toInt64) 112)),
  (112, ni_sP (ni_gJ (fun x y => .long (x + y)) 113)),
  (113, ni_sSt 1 4 115),
  (115, ni_sLd 1 4 117),
  (117, ni_sP (ni_gPush (.long (31)) 120)),
  (120, ni_sP (ni_gJ (fun x y => .long (x * y)) 121)),
  (121, ni_sLd 3 3 122),
  (122, ni_sGet 7 4 125),
  (125, ni_sV 144 0 8 128),
  (128, ni_sP (ni_gU (fun x => .long x.toInt64) 129)),
  (129, ni_sP (ni_gJ (fun x y => .long (x + y)) 130)),
  (130, ni_sSt 1 4 132),
  (132, ni_sLd 1 4 134),
  (134, ni_sR (some .long))]
theorem ni_pk20 : ∀ r ∈ ni_pr20, ni_Ok xs yX11_digestRouter cX11_digestRouter 7 (some .long) [] r.1 r.2 ∧ ni_MU r.2 := ni_row (ni_lloadn ni_dX11_digestRouter_0 rfl) ni_muLd <|
  ni_row (ni_lstore ni_dX11_digestRouter_1 (by decide)) ni_muSt <|
  ni_row (ni_okP (ni_iconst ni_dX11_digestRouter_3 (by decide +kernel))) (ni_muP (ni_eqPush fun _ => rfl)) <|
  ni_row (ni_istore ni_dX11_digestRouter_4 (by decide)) ni_muSt <|
  ni_row (ni_iload ni_dX11_digestRouter_6) ni_muLd <|
  ni_row (ni_aloadn ni_dX11_digestRouter_8 rfl) ni_muLd <|
  ni_row (ni_get (T := TX11) ni_dX11_digestRouter_9 (by decide) rfl (by decide) ni_uX11 ni_w424) ni_muGet <|
  ni_row (ni_get (T := TX4) ni_dX11_digestRouter_12 (by decide) rfl (by decide) ni_uX4 ni_w390) ni_muGet <|
  ni_row (ni_okP (ni_ic_ge ni_dX11_digestRouter_15 (by decide))) (ni_muP ni_eqIc) <|
  ni_row (ni_lload ni_dX11_digestRouter_18) ni_muLd <|
  ni_row (ni_okP (ni_ldc2 ni_dX11_digestRouter_20 ni_w959)) (ni_muP (ni_eqPush fun _ => rfl)) <|
  ni_row (ni_okP (ni_lmul ni_dX11_digestRouter_23)) (ni_muP (ni_eqJ fun _ _ _ => rfl)) <|
  ni_row (ni_aloadn ni_dX11_digestRouter_24 rfl) ni_muLd <|
  ni_row (ni_get (T := TX9) ni_dX11_digestRouter_25 (by decide) rfl (by decide) ni_uX9 ni_w364) ni_muGet <|
  ni_row (ni_iload ni_dX11_digestRouter_28) ni_muLd <|
  ni_row (ni_aald ni_dX11_digestRouter_30) ni_muQld <|
  ni_row (ni_get (T := TX1) ni_dX11_digestRouter_31 (by decide) rfl (by decide) ni_uX1 ni_w316) ni_muGet <|
  ni_row (ni_okP (ni_i2l ni_dX11_digestRouter_34)) (ni_muP (ni_eqU fun _ _ => rfl)) <|
  ni_row (ni_okP (ni_ladd ni_dX11_digestRouter_35)) (ni_muP (ni_eqJ fun _ _ _ => rfl)) <|
  ni_row (ni_lstore ni_dX11_digestRouter_36 (by decide)) ni_muSt <|
  ni_row (ni_lload ni_dX11_digestRouter_38) ni_muLd <|
  ni_row (ni_okP (ni_ldc2 ni_dX11_digestRouter_40 ni_w959)) (ni_muP (ni_eqPush fun _ => rfl)) <|
  ni_row (ni_okP (ni_lmul ni_dX11_digestRouter_43)) (ni_muP (ni_eqJ fun _ _ _ => rfl)) <|
  ni_row (ni_aloadn ni_dX11_digestRouter_44 rfl) ni_muLd <|
  ni_row (ni_get (T := TX9) ni_dX11_digestRouter_45 (by decide) rfl (by decide) ni_uX9 ni_w366) ni_muGet <|
  ni_row (ni_iload ni_dX11_digestRouter_48) ni_muLd <|
  ni_row (ni_iald ni_dX11_digestRouter_50) ni_muAld <|
  ni_row (ni_okP (ni_i2l ni_dX11_digestRouter_51)) (ni_muP (ni_eqU fun _ _ => rfl)) <|
  ni_row (ni_okP (ni_ladd ni_dX11_digestRouter_52)) (ni_muP (ni_eqJ fun _ _ _ => rfl)) <|
  ni_row (ni_lstore ni_dX11_digestRouter_53 (by decide)) ni_muSt <|
  ni_row (ni_lload ni_dX11_digestRouter_55) ni_muLd <|
  ni_row (ni_okP (ni_ldc2 ni_dX11_digestRouter_57 ni_w959)) (ni_muP (ni_eqPush fun _ => rfl)) <|
  ni_row (ni_okP (ni_lmul ni_dX11_digestRouter_60)) (ni_muP (ni_eqJ fun _ _ _ => rfl)) <|
  ni_row (ni_aloadn ni_dX11_digestRouter_61 rfl) ni_muLd <|
  ni_row (ni_get (T := TX9) ni_dX11_digestRouter_62 (by decide) rfl (by decide) ni_uX9 ni_w368) ni_muGet <|
  ni_row (ni_iload ni_dX11_digestRouter_65) ni_muLd <|
  ni_row (ni_iald ni_dX11_digestRouter_67) ni_muAld <|
  ni_row (ni_stat (y := 157) ni_dX11_digestRouter_68 ni_w964 ni_w751 ni_w47 ni_w752 ⟨by decide +kernel, by decide +kernel, by decide +kernel⟩ (by decide) rfl) ni_muC <|
  ni_row (ni_okP (ni_i2l ni_dX11_digestRouter_71)) (ni_muP (ni_eqU fun _ _ => rfl)) <|
  ni_row (ni_okP (ni_ladd ni_dX11_digestRouter_72)) (ni_muP (ni_eqJ fun _ _ _ => rfl)) <|
  ni_row (ni_lstore ni_dX11_digestRouter_73 (by decide)) ni_muSt <|
  ni_row (ni_iinc (n := 1) ni_dX11_digestRouter_75 (by decide)) ni_muInc <|
  ni_row (ni_okP (ni_goto ni_dX11_digestRouter_78 (by decide))) (ni_muP ni_eqGo) <|
  ni_row (ni_lload ni_dX11_digestRouter_81) ni_muLd <|
  ni_row (ni_okP (ni_ldc2 ni_dX11_digestRouter_83 ni_w959)) (ni_muP (ni_eqPush fun _ => rfl)) <|
  ni_row (ni_okP (ni_lmul ni_dX11_digestRouter_86)) (ni_muP (ni_eqJ fun _ _ _ => rfl)) <|
  ni_row (ni_aloadn ni_dX11_digestRouter_87 rfl) ni_muLd <|
  ni_row (ni_get (T := TX9) ni_dX11_digestRouter_88 (by decide) rfl (by decide) ni_uX9 ni_w371) ni_muGet <|
  ni_row (ni_get (T := TX10) ni_dX11_digestRouter_91 (by decide) rfl (by decide) ni_uX10 ni_w351) ni_muGet <|
  ni_row (ni_okP (ni_i2l ni_dX11_digestRouter_94)) (ni_muP (ni_eqU fun _ _ => rfl)) <|
  ni_row (ni_okP (ni_ladd ni_dX11_digestRouter_95)) (ni_muP (ni_eqJ fun _ _ _ => rfl)) <|
  ni_row (ni_lstore ni_dX11_digestRouter_96 (by decide)) ni_muSt <|
  ni_row (ni_lload ni_dX11_digestRouter_98) ni_muLd <|
  ni_row (ni_okP (ni_ldc2 ni_dX11_digestRouter_100 ni_w959)) (ni_muP (ni_eqPush fun _ => rfl)) <|
  ni_row (ni_okP (ni_lmul ni_dX11_digestRouter_103)) (ni_muP (ni_eqJ fun _ _ _ => rfl)) <|
  ni_row (ni_aloadn ni_dX11_digestRouter_104 rfl) ni_muLd <|
  ni_row (ni_get (T := TX9) ni_dX11_digestRouter_105 (by decide) rfl (by decide) ni_uX9 ni_w371) ni_muGet <|
  ni_row (ni_virt (y := 145) (T := TX10) ni_dX11_digestRouter_108 (by decide) rfl rfl ni_w965 ni_w966 ni_w967 ni_w37 ni_w968 ⟨by decide +kernel, by decide +kernel, by decide +kernel⟩ (by decide) rfl) (ni_muV (by decide)) <|
  ni_row (ni_okP (ni_i2l ni_dX11_digestRouter_111)) (ni_muP (ni_eqU fun _ _ => rfl)) <|
  ni_row (ni_okP (ni_ladd ni_dX11_digestRouter_112)) (ni_muP (ni_eqJ fun _ _ _ => rfl)) <|
  ni_row (ni_lstore ni_dX11_digestRouter_113 (by decide)) ni_muSt <|
  ni_row (ni_lload ni_dX11_digestRouter_115) ni_muLd <|
  ni_row (ni_okP (ni_ldc2 ni_dX11_digestRouter_117 ni_w959)) (ni_muP (ni_eqPush fun _ => rfl)) <|
  ni_row (ni_okP (ni_lmul ni_dX11_digestRouter_120)) (ni_muP (ni_eqJ fun _ _ _ => rfl)) <|
  ni_row (ni_aloadn ni_dX11_digestRouter_121 rfl) ni_muLd <|
  ni_row (ni_get (T := TX9) ni_dX11_digestRouter_122 (by decide) rfl (by decide) ni_uX9 ni_w371) ni_muGet <|
  ni_row (ni_virt (y := 144) (T := TX10) ni_dX11_digestRouter_125 (by decide) rfl rfl ni_w989 ni_w990 ni_w991 ni_w37 ni_w992 ⟨by decide +kernel, by decide +kernel, by decide +kernel⟩ (by decide) rfl) (ni_muV (by decide)) <|
  ni_row (ni_okP (ni_i2l ni_dX11_digestRouter_128)) (ni_muP (ni_eqU fun _ _ => rfl)) <|
  ni_row (ni_okP (ni_ladd ni_dX11_digestRouter_129)) (ni_muP (ni_eqJ fun _ _ _ => rfl)) <|
  ni_row (ni_lstore ni_dX11_digestRouter_130 (by decide)) ni_muSt <|
  ni_row (ni_lload ni_dX11_digestRouter_132) ni_muLd <|
  ni_row (ni_ret ni_dX11_digestRouter_134) ni_muR <|
  ni_row0
def ni_pr21 : List (Nat × ni_S) := [(0, ni_sLd 3 0 1),
  (1, ni_sLd 0 1 2),
  (2, ni_sV 12 1 9 5),
  (5, ni_sLd 3 0 6),
  (6, ni_sLd 0 2 7),
  (7, ni_sV 12 1 9 10),
  (10, ni_sLd 3 0 11),
  (11, ni_sGet 9 0 14),
  (14, ni_sGet 4 4 17),
  (17, ni_sLd 0 1 18),
  (18, ni_sQld 19),
  (19, ni_sGet 7 2 22),
  (22, ni_sLd 0 2 23),
  (23, ni_sAld .int 0 24),
  (24, ni_sR (some .int))]
theorem ni_pk21 : ∀ r ∈ ni_pr21, ni_Ok xs yX11_distance cX11_distance 3 (some .int) [] r.1 r.2 ∧ ni_MU r.2 := ni_row (ni_aloadn ni_dX11_distance_0 rfl) ni_muLd <|
  ni_row (ni_iloadn ni_dX11_distance_1 rfl) ni_muLd <|
  ni_row (ni_virt (y := 12) (T := TX11) ni_dX11_distance_2 (by decide) rfl rfl ni_w610 ni_w612 ni_w7 ni_w28 ni_w613 ⟨by decide +kernel, by decide +kernel, by decide +kernel⟩ (by decide) rfl) (ni_muV (by decide)) <|
  ni_row (ni_aloadn ni_dX11_distance_5 rfl) ni_muLd <|
  ni_row (ni_iloadn ni_dX11_distance_6 rfl) ni_muLd <|
  ni_row (ni_virt (y := 12) (T := TX11) ni_dX11_distance_7 (by decide) rfl rfl ni_w610 ni_w612 ni_w7 ni_w28 ni_w613 ⟨by decide +kernel, by decide +kernel, by decide +kernel⟩ (by decide) rfl) (ni_muV (by decide)) <|
  ni_row (ni_aloadn ni_dX11_distance_10 rfl) ni_muLd <|
  ni_row (ni_get (T := TX11) ni_dX11_distance_11 (by decide) rfl (by decide) ni_uX11 ni_w424) ni_muGet <|
  ni_row (ni_get (T := TX4) ni_dX11_distance_14 (by decide) rfl (by decide) ni_uX4 ni_w396) ni_muGet <|
  ni_row (ni_iloadn ni_dX11_distance_17 rfl) ni_muLd <|
  ni_row (ni_aald ni_dX11_distance_18) ni_muQld <|
  ni_row (ni_get (T := TX9) ni_dX11_distance_19 (by decide) rfl (by decide) ni_uX9 ni_w366) ni_muGet <|
  ni_row (ni_iloadn ni_dX11_distance_22 rfl) ni_muLd <|
  ni_row (ni_iald ni_dX11_distance_23) ni_muAld <|
  ni_row (ni_ret ni_dX11_distance_24) ni_muR <|
  ni_row0
def ni_pr22 : List (Nat × ni_S) := [(0, ni_sLd 3 0 1),
  (1, ni_sLd 0 1 2),
  (2, ni_sV 7 1 9 5),
  (5, ni_sLd 0 2 6),
  (6, ni_sP (ni_gPush (.int 7) 8)),
  (8, ni_sC 8 2 11),
  (11, ni_sLd 3 0 12),
  (12, ni_sGet 9 0 15),
  (15, ni_sGet 4 6 18),
  (18, ni_sLd 0 1 19),
  (19, ni_sQld 20),
  (20, ni_sGet 0 14 23),
  (23, ni_sLd 0 2 24),
  (24, ni_sAld .int 0 25),
  (25, ni_sR (some .int))]
theorem ni_pk22 : ∀ r ∈ ni_pr22, ni_Ok xs yX11_dropped cX11_dropped 3 (some .int) [] r.1 r.2 ∧ ni_MU r.2 := ni_row (ni_aloadn ni_dX11_dropped_0 rfl) ni_muLd <|
  ni_row (ni_iloadn ni_dX11_dropped_1 rfl) ni_muLd <|
  ni_row (ni_virt (y := 7) (T := TX11) ni_dX11_dropped_2 (by decide) rfl rfl ni_w697 ni_w699 ni_w9 ni_w28 ni_w700 ⟨by decide +kernel, by decide +kernel, by decide +kernel⟩ (by decide) rfl) (ni_muV (by decide)) <|
  ni_row (ni_iloadn ni_dX11_dropped_5 rfl) ni_muLd <|
  ni_row (ni_okP (ni_bipush ni_dX11_dropped_6 (by decide +kernel))) (ni_muP (ni_eqPush fun _ => rfl)) <|
  ni_row (ni_stat (y := 8) ni_dX11_dropped_8 ni_w439 ni_w440 ni_w28 ni_w441 ⟨by decide +kernel, by decide +kernel, by decide +kernel⟩ (by decide) rfl) ni_muC <|
  ni_row (ni_aloadn ni_dX11_dropped_11 rfl) ni_muLd <|
  ni_row (ni_get (T := TX11) ni_dX11_dropped_12 (by decide) rfl (by decide) ni_uX11 ni_w424) ni_muGet <|
  ni_row (ni_get (T := TX4) ni_dX11_dropped_15 (by decide) rfl (by decide) ni_uX4 ni_w400) ni_muGet <|
  ni_row (ni_iloadn ni_dX11_dropped_18 rfl) ni_muLd <|
  ni_row (ni_aald ni_dX11_dropped_19) ni_muQld <|
  ni_row (ni_get (T := TX0) ni_dX11_dropped_20 (by decide) rfl (by decide) ni_uX0 ni_w131) ni_muGet <|
  ni_row (ni_iloadn ni_dX11_dropped_23 rfl) ni_muLd <|
  ni_row (ni_iald ni_dX11_dropped_24) ni_muAld <|
  ni_row (ni_ret ni_dX11_dropped_25) ni_muR <|
  ni_row0
def ni_pr23 : List (Nat × ni_S) := [(0, ni_sLd 3 0 1),
  (1, ni_sLd 0 1 2),
  (2, ni_sV 12 1 9 5),
  (5, ni_sLd 3 0 6),
  (6, ni_sGet 9 0 9),
  (9, ni_sGet 4 4 12),
  (12, ni_sLd 0 1 13),
  (13, ni_sQld 14),
  (14, ni_sGet 7 4 17),
  (17, ni_sGet 8 3 20),
  (20, ni_sR (some .int))]
theorem ni_pk23 : ∀ r ∈ ni_pr23, ni_Ok xs yX11_entries cX11_entries 2 (some .int) [] r.1 r.2 ∧ ni_MU r.2 := ni_row (ni_aloadn ni_dX11_entries_0 rfl) ni_muLd <|
  ni_row (ni_iloadn ni_dX11_entries_1 rfl) ni_muLd <|
  ni_row (ni_virt (y := 12) (T := TX11) ni_dX11_entries_2 (by decide) rfl rfl ni_w610 ni_w612 ni_w7 ni_w28 ni_w613 ⟨by decide +kernel, by decide +kernel, by decide +kernel⟩ (by decide) rfl) (ni_muV (by decide)) <|
  ni_row (ni_aloadn ni_dX11_entries_5 rfl) ni_muLd <|
  ni_row (ni_get (T := TX11) ni_dX11_entries_6 (by decide) rfl (by decide) ni_uX11 ni_w424) ni_muGet <|
  ni_row (ni_get (T := TX4) ni_dX11_entries_9 (by decide) rfl (by decide) ni_uX4 ni_w396) ni_muGet <|
  ni_row (ni_iloadn ni_dX11_entries_12 rfl) ni_muLd <|
  ni_row (ni_aald ni_dX11_entries_13) ni_muQld <|
  ni_row (ni_get (T := TX9) ni_dX11_entries_14 (by decide) rfl (by decide) ni_uX9 ni_w371) ni_muGet <|
  ni_row (ni_get (T := TX10) ni_dX11_entries_17 (by decide) rfl (by decide) ni_uX10 ni_w351) ni_muGet <|
  ni_row (ni_ret ni_dX11_entries_20) ni_muR <|
  ni_row0
def ni_pr24 : List (Nat × ni_S) := [(0, ni_sLd 3 0 1),
  (1, ni_sLd 0 1 2),
  (2, ni_sV 12 1 9 5),
  (5, ni_sLd 3 0 6),
  (6, ni_sLd 0 2 7),
  (7, ni_sV 12 1 9 10),
  (10, ni_sLd 3 0 11),
  (11, ni_sGet 9 0 14),
  (14, ni_sGet 4 4 17),
  (17, ni_sLd 0 1 18),
  (18, ni_sQld 19),
  (19, ni_sGet 7 3 22),
  (22, ni_sLd 0 2 23),
  (23, ni_sAld .int 0 24),
  (24, ni_sC 157 1 27),
  (27, ni_sR (some .int))]
theorem ni_pk24 : ∀ r ∈ ni_pr24, ni_Ok xs yX11_firstLinks cX11_firstLinks 3 (some .int) [] r.1 r.2 ∧ ni_MU r.2 := ni_row (ni_aloadn ni_dX11_firstLinks_0 rfl) ni_muLd <|
  ni_row (ni_iloadn ni_dX11_firstLinks_1 rfl) ni_muLd <|
  ni_row (ni_virt (y := 12) (T := TX11) ni_dX11_firstLinks_2 (by decide) rfl rfl ni_w610 ni_w612 ni_w7 ni_w28 ni_w613 ⟨by decide +kernel, by decide +kernel, by decide +kernel⟩ (by decide) rfl) (ni_muV (by decide)) <|
  ni_row (ni_aloadn ni_dX11_firstLinks_5 rfl) ni_muLd <|
  ni_row (ni_iloadn ni_dX11_firstLinks_6 rfl) ni_muLd <|
  ni_row (ni_virt (y := 12) (T := TX11) ni_dX11_firstLinks_7 (by decide) rfl rfl ni_w610 ni_w612 ni_w7 ni_w28 ni_w613 ⟨by decide +kernel, by decide +kernel, by decide +kernel⟩ (by decide) rfl) (ni_muV (by decide)) <|
  ni_row (ni_aloadn ni_dX11_firstLinks_10 rfl) ni_muLd <|
  ni_row (ni_get (T := TX11) ni_dX11_firstLinks_11 (by decide) rfl (by decide) ni_uX11 ni_w424) ni_muGet <|
  ni_row (ni_get (T := TX4) ni_dX11_firstLinks_14 (by decide) rfl (by decide) ni_uX4 ni_w396) ni_muGet <|
  ni_row (ni_iloadn ni_dX11_firstLinks_17 rfl) ni_muLd <|
  ni_row (ni_aald ni_dX11_firstLinks_18) ni_muQld <|
  ni_row (ni_get (T := TX9) ni_dX11_firstLinks_19 (by decide) rfl (by decide) ni_uX9 ni_w368) ni_muGet <|
  ni_row (ni_iloadn ni_dX11_firstLinks_22 rfl) ni_muLd <|
  ni_row (ni_iald ni_dX11_firstLinks_23) ni_muAld <|
  ni_row (ni_stat (y := 157) ni_dX11_firstLinks_24 ni_w964 ni_w751 ni_w47 ni_w752 ⟨by decide +kernel, by decide +kernel, by decide +kernel⟩ (by decide) rfl) ni_muC <|
  ni_row (ni_ret ni_dX11_firstLinks_27) ni_muR <|
  ni_row0
def ni_pr25 : List (Nat × ni_S) := [(0, ni_sLd 3 0 1),
  (1, ni_sGet 9 0 4),
  (4, ni_sV 81 0 4 7),
  (7, ni_sP (ni_gIf (fun x => decide (¬ x = 0)) 14 10)),
  (10, ni_sP (ni_gPush (.int 1) 11)),
  (11, ni_sP (ni_gGo 15)),
  (14, ni_sP (ni_gPush (.int 0) 15)),
  (15, ni_sR (some .boolean))]
theorem ni_pk25 : ∀ r ∈ ni_pr25, ni_Ok xs yX11_isSettled cX11_isSettled 1 (some .boolean) [] r.1 r.2 ∧ ni_MU r.2 := ni_row (ni_aloadn ni_dX11_isSettled_0 rfl) ni_muLd <|
  ni_row (ni_get (T := TX11) ni_dX11_isSettled_1 (by decide) rfl (by decide) ni_uX11 ni_w424) ni_muGet <|
  ni_row (ni_virt (y := 81) (T := TX4) ni_dX11_isSettled_4 (by decide) rfl rfl ni_w898 ni_w899 ni_w900 ni_w29 ni_w901 ⟨by decide +kernel, by decide +kernel, by decide +kernel⟩ (by decide) rfl) (ni_muV (by decide)) <|
  ni_row (ni_okP (ni_if_ne ni_dX11_isSettled_7 (by decide))) (ni_muP ni_eqIf) <|
  ni_row (ni_okP (ni_iconst ni_dX11_isSettled_10 (by decide +kernel))) (ni_muP (ni_eqPush fun _ => rfl)) <|
  ni_row (ni_okP (ni_goto ni_dX11_isSettled_11 (by decide))) (ni_muP ni_eqGo) <|
  ni_row (ni_okP (ni_iconst ni_dX11_isSettled_14 (by decide +kernel))) (ni_muP (ni_eqPush fun _ => rfl)) <|
  ni_row (ni_ret ni_dX11_isSettled_15) ni_muR <|
  ni_row0
def ni_pr26 : List (Nat × ni_S) := [(0, ni_sLd 3 0 1),
  (1, ni_sLd 0 1 2),
  (2, ni_sV 9 1 9 5),
  (5, ni_sLd 3 0 6),
  (6, ni_sGet 9 0 9),
  (9, ni_sGet 4 5 12),
  (12, ni_sLd 0 1 13),
  (13, ni_sQld 14),
  (14, ni_sGet 3 5 17),
  (17, ni_sR (some .boolean))]
theorem ni_pk26 : ∀ r ∈ ni_pr26, ni_Ok xs yX11_isUp cX11_isUp 2 (some .boolean) [] r.1 r.2 ∧ ni_MU r.2 := ni_row (ni_aloadn ni_dX11_isUp_0 rfl) ni_muLd <|
  ni_row (ni_iloadn ni_dX11_isUp_1 rfl) ni_muLd <|
  ni_row (ni_virt (y := 9) (T := TX11) ni_dX11_isUp_2 (by decide) rfl rfl ni_w435 ni_w437 ni_w0 ni_w28 ni_w438 ⟨by decide +kernel, by decide +kernel, by decide +kernel⟩ (by decide) rfl) (ni_muV (by decide)) <|
  ni_row (ni_aloadn ni_dX11_isUp_5 rfl) ni_muLd <|
  ni_row (ni_get (T := TX11) ni_dX11_isUp_6 (by decide) rfl (by decide) ni_uX11 ni_w424) ni_muGet <|
  ni_row (ni_get (T := TX4) ni_dX11_isUp_9 (by decide) rfl (by decide) ni_uX4 ni_w398) ni_muGet <|
  ni_row (ni_iloadn ni_dX11_isUp_12 rfl) ni_muLd <|
  ni_row (ni_aald ni_dX11_isUp_13) ni_muQld <|
  ni_row (ni_get (T := TX3) ni_dX11_isUp_14 (by decide) rfl (by decide) ni_uX3 ni_w278) ni_muGet <|
  ni_row (ni_ret ni_dX11_isUp_17) ni_muR <|
  ni_row0
def ni_pr27 : List (Nat × ni_S) := [(0, ni_sLd 3 0 1),
  (1, ni_sLd 0 1 2),
  (2, ni_sV 7 1 9 5),
  (5, ni_sLd 3 0 6),
  (6, ni_sGet 9 0 9),
  (9, ni_sGet 4 6 12),
  (12, ni_sLd 0 1 13),
  (13, ni_sQld 14),
  (14, ni_sGet 0 16 17),
  (17, ni_sR (some .int))]
theorem ni_pk27 : ∀ r ∈ ni_pr27, ni_Ok xs yX11_latest cX11_latest 2 (some .int) [] r.1 r.2 ∧ ni_MU r.2 := ni_row (ni_aloadn ni_dX11_latest_0 rfl) ni_muLd <|
  ni_row (ni_iloadn ni_dX11_latest_1 rfl) ni_muLd <|
  ni_row (ni_virt (y := 7) (T := TX11) ni_dX11_latest_2 (by decide) rfl rfl ni_w697 ni_w699 ni_w9 ni_w28 ni_w700 ⟨by decide +kernel, by decide +kernel, by decide +kernel⟩ (by decide) rfl) (ni_muV (by decide)) <|
  ni_row (ni_aloadn ni_dX11_latest_5 rfl) ni_muLd <|
  ni_row (ni_get (T := TX11) ni_dX11_latest_6 (by decide) rfl (by decide) ni_uX11 ni_w424) ni_muGet <|
  ni_row (ni_get (T := TX4) ni_dX11_latest_9 (by decide) rfl (by decide) ni_uX4 ni_w400) ni_muGet <|
  ni_row (ni_iloadn ni_dX11_latest_12 rfl) ni_muLd <|
  ni_row (ni_aald ni_dX11_latest_13) ni_muQld <|
  ni_row (ni_get (T := TX0) ni_dX11_latest_14 (by decide) rfl (by decide) ni_uX0 ni_w135) ni_muGet <|
  ni_row (ni_ret ni_dX11_latest_17) ni_muR <|
  ni_row0
def ni_pr28 : List (Nat × ni_S) := [(0, ni_sLd 3 0 1),
  (1, ni_sLd 0 1 2),
  (2, ni_sV 12 1 9 5),
  (5, ni_sLd 3 0 6),
  (6, ni_sLd 0 2 7),
  (7, ni_sV 12 1 9 10),
  (10, ni_sLd 3 0 11),
  (11, ni_sGet 9 0 14),
  (14, ni_sGet 4 4 17),
  (17, ni_sLd 0 1 18),
  (18, ni_sQld 19),
  (19, ni_sGet 7 1 22),
  (22, ni_sLd 0 2 23),
  (23, ni_sQld 24),
  (24, ni_sGet 1 1 27),
  (27, ni_sR (some .int))]
theorem ni_pk28 : ∀ r ∈ ni_pr28, ni_Ok xs yX11_letterOf cX11_letterOf 3 (some .int) [] r.1 r.2 ∧ ni_MU r.2 := ni_row (ni_aloadn ni_dX11_letterOf_0 rfl) ni_muLd <|
  ni_row (ni_iloadn ni_dX11_letterOf_1 rfl) ni_muLd <|
  ni_row (ni_virt (y := 12) (T := TX11) ni_dX11_letterOf_2 (by decide) rfl rfl ni_w610 ni_w612 ni_w7 ni_w28 ni_w613 ⟨by decide +kernel, by decide +kernel, by decide +kernel⟩ (by decide) rfl) (ni_muV (by decide)) <|
  ni_row (ni_aloadn ni_dX11_letterOf_5 rfl) ni_muLd <|
  ni_row (ni_iloadn ni_dX11_letterOf_6 rfl) ni_muLd <|
  ni_row (ni_virt (y := 12) (T := TX11) ni_dX11_letterOf_7 (by decide) rfl rfl ni_w610 ni_w612 ni_w7 ni_w28 ni_w613 ⟨by decide +kernel, by decide +kernel, by decide +kernel⟩ (by decide) rfl) (ni_muV (by decide)) <|
  ni_row (ni_aloadn ni_dX11_letterOf_10 rfl) ni_muLd <|
  ni_row (ni_get (T := TX11) ni_dX11_letterOf_11 (by decide) rfl (by decide) ni_uX11 ni_w424) ni_muGet <|
  ni_row (ni_get (T := TX4) ni_dX11_letterOf_14 (by decide) rfl (by decide) ni_uX4 ni_w396) ni_muGet <|
  ni_row (ni_iloadn ni_dX11_letterOf_17 rfl) ni_muLd <|
  ni_row (ni_aald ni_dX11_letterOf_18) ni_muQld <|
  ni_row (ni_get (T := TX9) ni_dX11_letterOf_19 (by decide) rfl (by decide) ni_uX9 ni_w364) ni_muGet <|
  ni_row (ni_iloadn ni_dX11_letterOf_22 rfl) ni_muLd <|
  ni_row (ni_aald ni_dX11_letterOf_23) ni_muQld <|
  ni_row (ni_get (T := TX1) ni_dX11_letterOf_24 (by decide) rfl (by decide) ni_uX1 ni_w316) ni_muGet <|
  ni_row (ni_ret ni_dX11_letterOf_27) ni_muR <|
  ni_row0
def ni_pr29 : List (Nat × ni_S) := [(0, ni_sLd 3 0 1),
  (1, ni_sLd 0 1 2),
  (2, ni_sV 7 1 9 5),
  (5, ni_sLd 3 0 6),
  (6, ni_sGet 9 0 9),
  (9, ni_sGet 4 6 12),
  (12, ni_sLd 0 1 13),
  (13, ni_sQld 14),
  (14, ni_sSt 3 2 15),
  (15, ni_sLd 3 2 16),
  (16, ni_sGet 0 13 19),
  (19, ni_sP (ni_gIf (fun x => decide (¬ x = 0)) 26 22)),
  (22, ni_sP (ni_gPush (.double FP.dconst0) 23)),
  (23, ni_sP (ni_gGo 37)),
  (26, ni_sLd 3 2 27),
  (27, ni_sGet 0 15 30),
  (30, ni_sP (ni_gU (fun x => .double (FP.i2d x)) 31)),
  (31, ni_sLd 3 2 32),
  (32, ni_sGet 0 13 35),
  (35, ni_sP (ni_gU (fun x => .double (FP.i2d x)) 36)),
  (36, ni_sP (ni_gDv 37)),
  (37, ni_sR (some .double))]
theorem ni_pk29 : ∀ r ∈ ni_pr29, ni_Ok xs yX11_meanLate cX11_meanLate 3 (some .double) [] r.1 r.2 ∧ ni_MU r.2 := ni_row (ni_aloadn ni_dX11_meanLate_0 rfl) ni_muLd <|
  ni_row (ni_iloadn ni_dX11_meanLate_1 rfl) ni_muLd <|
  ni_row (ni_virt (y := 7) (T := TX11) ni_dX11_meanLate_2 (by decide) rfl rfl ni_w697 ni_w699 ni_w9 ni_w28 ni_w700 ⟨by decide +kernel, by decide +kernel, by decide +kernel⟩ (by decide) rfl) (ni_muV (by decide)) <|
  ni_row (ni_aloadn ni_dX11_meanLate_5 rfl) ni_muLd <|
  ni_row (ni_get (T := TX11) ni_dX11_meanLate_6 (by decide) rfl (by decide) ni_uX11 ni_w424) ni_muGet <|
  ni_row (ni_get (T := TX4) ni_dX11_meanLate_9 (by decide) rfl (by decide) ni_uX4 ni_w400) ni_muGet <|
  ni_row (ni_iloadn ni_dX11_meanLate_12 rfl) ni_muLd <|
  ni_row (ni_aald ni_dX11_meanLate_13) ni_muQld <|
  ni_row (ni_astoren ni_dX11_meanLate_14 rfl (by decide)) ni_muSt <|
  ni_row (ni_aloadn ni_dX11_meanLate_15 rfl) ni_muLd <|
  ni_row (ni_get (T := TX0) ni_dX11_meanLate_16 (by decide) rfl (by decide) ni_uX0 ni_w127) ni_muGet <|
  ni_row (ni_okP (ni_if_ne ni_dX11_meanLate_19 (by decide))) (ni_muP ni_eqIf) <|
  ni_row (ni_okP (ni_dconst0 ni_dX11_meanLate_22)) (ni_muP (ni_eqPush fun _ => rfl)) <|
  ni_row (ni_okP (ni_goto ni_dX11_meanLate_23 (by decide))) (ni_muP ni_eqGo) <|
  ni_row (ni_aloadn ni_dX11_meanLate_26 rfl) ni_muLd <|
  ni_row (ni_get (T := TX0) ni_dX11_meanLate_27 (by decide) rfl (by decide) ni_uX0 ni_w133) ni_muGet <|
  ni_row (ni_okP (ni_i2d ni_dX11_meanLate_30)) (ni_muP (ni_eqU fun _ _ => rfl)) <|
  ni_row (ni_aloadn ni_dX11_meanLate_31 rfl) ni_muLd <|
  ni_row (ni_get (T := TX0) ni_dX11_meanLate_32 (by decide) rfl (by decide) ni_uX0 ni_w127) ni_muGet <|
  ni_row (ni_okP (ni_i2d ni_dX11_meanLate_35)) (ni_muP (ni_eqU fun _ _ => rfl)) <|
  ni_row (ni_okP (ni_ddiv ni_dX11_meanLate_36)) (ni_muP ni_eqDv) <|
  ni_row (ni_ret ni_dX11_meanLate_37) ni_muR <|
  ni_row0
def ni_pr30 : List (Nat × ni_S) := [(0, ni_sLd 3 0 1),
  (1, ni_sLd 0 1 2),
  (2, ni_sV 7 1 9 5),
  (5, ni_sLd 3 0 6),
  (6, ni_sGet 9 0 9),
  (9, ni_sGet 4 6 12),
  (12, ni_sLd 0 1 13),
  (13, ni_sQld 14),
  (14, ni_sGet 0 12 17),
  (17, ni_sR (some .int))]
theorem ni_pk30 : ∀ r ∈ ni_pr30, ni_Ok xs yX11_offered cX11_offered 2 (some .int) [] r.1 r.2 ∧ ni_MU r.2 := ni_row (ni_aloadn ni_dX11_offered_0 rfl) ni_muLd <|
  ni_row (ni_iloadn ni_dX11_offered_1 rfl) ni_muLd <|
  ni_row (ni_virt (y := 7) (T := TX11) ni_dX11_offered_2 (by decide) rfl rfl ni_w697 ni_w699 ni_w9 ni_w28 ni_w700 ⟨by decide +kernel, by decide +kernel, by decide +kernel⟩ (by decide) rfl) (ni_muV (by decide)) <|
  ni_row (ni_aloadn ni_dX11_offered_5 rfl) ni_muLd <|
  ni_row (ni_get (T := TX11) ni_dX11_offered_6 (by decide) rfl (by decide) ni_uX11 ni_w424) ni_muGet <|
  ni_row (ni_get (T := TX4) ni_dX11_offered_9 (by decide) rfl (by decide) ni_uX4 ni_w400) ni_muGet <|
  ni_row (ni_iloadn ni_dX11_offered_12 rfl) ni_muLd <|
  ni_row (ni_aald ni_dX11_offered_13) ni_muQld <|
  ni_row (ni_get (T := TX0) ni_dX11_offered_14 (by decide) rfl (by decide) ni_uX0 ni_w125) ni_muGet <|
  ni_row (ni_ret ni_dX11_offered_17) ni_muR <|
  ni_row0
def ni_pr31 : List (Nat × ni_S) := [(0, ni_sLd 3 0 1),
  (1, ni_sLd 0 1 2),
  (2, ni_sV 9 1 9 5),
  (5, ni_sLd 3 0 6),
  (6, ni_sGet 9 0 9),
  (9, ni_sGet 4 5 12),
  (12, ni_sLd 0 1 13),
  (13, ni_sQld 14),
  (14, ni_sV 71 0 3 17),
  (17, ni_sR (some .int))]
theorem ni_pk31 : ∀ r ∈ ni_pr31, ni_Ok xs yX11_onLink cX11_onLink 2 (some .int) [] r.1 r.2 ∧ ni_MU r.2 := ni_row (ni_aloadn ni_dX11_onLink_0 rfl) ni_muLd <|
  ni_row (ni_iloadn ni_dX11_onLink_1 rfl) ni_muLd <|
  ni_row (ni_virt (y := 9) (T := TX11) ni_dX11_onLink_2 (by decide) rfl rfl ni_w435 ni_w437 ni_w0 ni_w28 ni_w438 ⟨by decide +kernel, by decide +kernel, by decide +kernel⟩ (by decide) rfl) (ni_muV (by decide)) <|
  ni_row (ni_aloadn ni_dX11_onLink_5 rfl) ni_muLd <|
  ni_row (ni_get (T := TX11) ni_dX11_onLink_6 (by decide) rfl (by decide) ni_uX11 ni_w424) ni_muGet <|
  ni_row (ni_get (T := TX4) ni_dX11_onLink_9 (by decide) rfl (by decide) ni_uX4 ni_w398) ni_muGet <|
  ni_row (ni_iloadn ni_dX11_onLink_12 rfl) ni_muLd <|
  ni_row (ni_aald ni_dX11_onLink_13) ni_muQld <|
  ni_row (ni_virt (y := 71) (T := TX3) ni_dX11_onLink_14 (by decide) rfl rfl ni_w1000 ni_w1001 ni_w1002 ni_w32 ni_w1003 ⟨by decide +kernel, by decide +kernel, by decide +kernel⟩ (by decide) rfl) (ni_muV (by decide)) <|
  ni_row (ni_ret ni_dX11_onLink_17) ni_muR <|
  ni_row0
def ni_pr32 : List (Nat × ni_S) := [(0, ni_sLd 3 0 1),
  (1, ni_sLd 0 1 2),
  (2, ni_sV 7 1 9 5),
  (5, ni_sLd 3 0 6),
  (6, ni_sGet 9 0 9),
  (9, ni_sGet 4 6 12),
  (12, ni_sLd 0 1 13),
  (13, ni_sQld 14),
  (14, ni_sGet 0 18 17),
  (17, ni_sR (some .int))]
theorem ni_pk32 : ∀ r ∈ ni_pr32, ni_Ok xs yX11_outOfOrder cX11_outOfOrder 2 (some .int) [] r.1 r.2 ∧ ni_MU r.2 := ni_row (ni_aloadn ni_dX11_outOfOrder_0 rfl) ni_muLd <|
  ni_row (ni_iloadn ni_dX11_outOfOrder_1 rfl) ni_muLd <|
  ni_row (ni_virt (y := 7) (T := TX11) ni_dX11_outOfOrder_2 (by decide) rfl rfl ni_w697 ni_w699 ni_w9 ni_w28 ni_w700 ⟨by decide +kernel, by decide +kernel, by decide +kernel⟩ (by decide) rfl) (ni_muV (by decide)) <|
  ni_row (ni_aloadn ni_dX11_outOfOrder_5 rfl) ni_muLd <|
  ni_row (ni_get (T := TX11) ni_dX11_outOfOrder_6 (by decide) rfl (by decide) ni_uX11 ni_w424) ni_muGet <|
  ni_row (ni_get (T := TX4) ni_dX11_outOfOrder_9 (by decide) rfl (by decide) ni_uX4 ni_w400) ni_muGet <|
  ni_row (ni_iloadn ni_dX11_outOfOrder_12 rfl) ni_muLd <|
  ni_row (ni_aald ni_dX11_outOfOrder_13) ni_muQld <|
  ni_row (ni_get (T := TX0) ni_dX11_outOfOrder_14 (by decide) rfl (by decide) ni_uX0 ni_w138) ni_muGet <|
  ni_row (ni_ret ni_dX11_outOfOrder_17) ni_muR <|
  ni_row0
def ni_pr33 : List (Nat × ni_S) := [(0, ni_sLd 0 2 1),
  (1, ni_sP (ni_gIf (fun x => decide (x = 0)) 19 4)),
  (4, ni_sLd 3 0 5),
  (5, ni_sGet 9 0 8),
  (8, ni_sGet 4 5 11),
  (11, ni_sLd 0 1 12),
  (12, ni_sQld 13),
  (13, ni_sGet 3 7 16),
  (16, ni_sP (ni_gGo 31)),
  (19, ni_sLd 3 0 20),
  (20, ni_sGet 9 0 23),
  (23, ni_sGet 4 5 26),
  (26, ni_sLd 0 1 27),
  (27, ni_sQld 28),
  (28, ni_sGet 3 6 31),
  (31, ni_sR (some (.object "Switchyard$Port")))]
theorem ni_pk33 : ∀ r ∈ ni_pr33, ni_Ok xs yX11_portOf cX11_portOf 3 (some (.object "Switchyard$Port")) [] r.1 r.2 ∧ ni_MU r.2 := ni_row (ni_iloadn ni_dX11_portOf_0 rfl) ni_muLd <|
  ni_row (ni_okP (ni_if_eq ni_dX11_portOf_1 (by decide))) (ni_muP ni_eqIf) <|
  ni_row (ni_aloadn ni_dX11_portOf_4 rfl) ni_muLd <|
  ni_row (ni_get (T := TX11) ni_dX11_portOf_5 (by decide) rfl (by decide) ni_uX11 ni_w424) ni_muGet <|
  ni_row (ni_get (T := TX4) ni_dX11_portOf_8 (by decide) rfl (by decide) ni_uX4 ni_w398) ni_muGet <|
  ni_row (ni_iloadn ni_dX11_portOf_11 rfl) ni_muLd <|
  ni_row (ni_aald ni_dX11_portOf_12) ni_muQld <|
  ni_row (ni_get (T := TX3) ni_dX11_portOf_13 (by decide) rfl (by decide) ni_uX3 ni_w286) ni_muGet <|
  ni_row (ni_okP (ni_goto ni_dX11_portOf_16 (by decide))) (ni_muP ni_eqGo) <|
  ni_row (ni_aloadn ni_dX11_portOf_19 rfl) ni_muLd <|
  ni_row (ni_get (T := TX11) ni_dX11_portOf_20 (by decide) rfl (by decide) ni_uX11 ni_w424) ni_muGet <|
  ni_row (ni_get (T := TX4) ni_dX11_portOf_23 (by decide) rfl (by decide) ni_uX4 ni_w398) ni_muGet <|
  ni_row (ni_iloadn ni_dX11_portOf_26 rfl) ni_muLd <|
  ni_row (ni_aald ni_dX11_portOf_27) ni_muQld <|
  ni_row (ni_get (T := TX3) ni_dX11_portOf_28 (by decide) rfl (by decide) ni_uX3 ni_w283) ni_muGet <|
  ni_row (ni_ret ni_dX11_portOf_31) ni_muR <|
  ni_row0
def ni_pr34 : List (Nat × ni_S) := [(0, ni_sLd 3 0 1),
  (1, ni_sLd 0 1 2),
  (2, ni_sV 9 1 9 5),
  (5, ni_sLd 0 3 6),
  (6, ni_sP (ni_gPush (.int 4) 7)),
  (7, ni_sC 8 2 10),
  (10, ni_sLd 3 0 11),
  (11, ni_sLd 0 1 12),
  (12, ni_sLd 0 2 13),
  (13, ni_sV 33 2 9 16),
  (16, ni_sLd 0 3 17),
  (17, ni_sV 110 1 5 20),
  (20, ni_sR (some .int))]
theorem ni_pk34 : ∀ r ∈ ni_pr34, ni_Ok xs yX11_queued cX11_queued 4 (some .int) [] r.1 r.2 ∧ ni_MU r.2 := ni_row (ni_aloadn ni_dX11_queued_0 rfl) ni_muLd <|
  ni_row (ni_iloadn ni_dX11_queued_1 rfl) ni_muLd <|
  ni_row (ni_virt (y := 9) (T := TX11) ni_dX11_queued_2 (by decide) rfl rfl ni_w435 ni_w437 ni_w0 ni_w28 ni_w438 ⟨by decide +kernel, by decide +kernel, by decide +kernel⟩ (by decide) rfl) (ni_muV (by decide)) <|
  ni_row (ni_iloadn ni_dX11_queued_5 rfl) ni_muLd <|
  ni_row (ni_okP (ni_iconst ni_dX11_queued_6 (by decide +kernel))) (ni_muP (ni_eqPush fun _ => rfl)) <|
  ni_row (ni_stat (y := 8) ni_dX11_queued_7 ni_w439 ni_w440 ni_w28 ni_w441 ⟨by decide +kernel, by decide +kernel, by decide +kernel⟩ (by decide) rfl) ni_muC <|
  ni_row (ni_aloadn ni_dX11_queued_10 rfl) ni_muLd <|
  ni_row (ni_iloadn ni_dX11_queued_11 rfl) ni_muLd <|
  ni_row (ni_iloadn ni_dX11_queued_12 rfl) ni_muLd <|
  ni_row (ni_virt (y := 33) (T := TX11) ni_dX11_queued_13 (by decide) rfl rfl ni_w672 ni_w674 ni_w8 ni_w28 ni_w675 ⟨by decide +kernel, by decide +kernel, by decide +kernel⟩ (by decide) rfl) (ni_muV (by decide)) <|
  ni_row (ni_iloadn ni_dX11_queued_16 rfl) ni_muLd <|
  ni_row (ni_virt (y := 110) (T := TX6) ni_dX11_queued_17 (by decide) rfl rfl ni_w1007 ni_w1008 ni_w1009 ni_w33 ni_w1010 ⟨by decide +kernel, by decide +kernel, by decide +kernel⟩ (by decide) rfl) (ni_muV (by decide)) <|
  ni_row (ni_ret ni_dX11_queued_20) ni_muR <|
  ni_row0
def ni_pr35 : List (Nat × ni_S) := [(0, ni_sLd 3 0 1),
  (1, ni_sLd 0 1 2),
  (2, ni_sV 7 1 9 5),
  (5, ni_sLd 3 0 6),
  (6, ni_sGet 9 0 9),
  (9, ni_sLd 0 1 10),
  (10, ni_sV 80 1 4 13),
  (13, ni_sR (some .int))]
theorem ni_pk35 : ∀ r ∈ ni_pr35, ni_Ok xs yX11_route cX11_route 2 (some .int) [] r.1 r.2 ∧ ni_MU r.2 := ni_row (ni_aloadn ni_dX11_route_0 rfl) ni_muLd <|
  ni_row (ni_iloadn ni_dX11_route_1 rfl) ni_muLd <|
  ni_row (ni_virt (y := 7) (T := TX11) ni_dX11_route_2 (by decide) rfl rfl ni_w697 ni_w699 ni_w9 ni_w28 ni_w700 ⟨by decide +kernel, by decide +kernel, by decide +kernel⟩ (by decide) rfl) (ni_muV (by decide)) <|
  ni_row (ni_aloadn ni_dX11_route_5 rfl) ni_muLd <|
  ni_row (ni_get (T := TX11) ni_dX11_route_6 (by decide) rfl (by decide) ni_uX11 ni_w424) ni_muGet <|
  ni_row (ni_iloadn ni_dX11_route_9 rfl) ni_muLd <|
  ni_row (ni_virt (y := 80) (T := TX4) ni_dX11_route_10 (by decide) rfl rfl ni_w1015 ni_w1016 ni_w1017 ni_w29 ni_w1018 ⟨by decide +kernel, by decide +kernel, by decide +kernel⟩ (by decide) rfl) (ni_muV (by decide)) <|
  ni_row (ni_ret ni_dX11_route_13) ni_muR <|
  ni_row0
def ni_pr36 : List (Nat × ni_S) := [(0, ni_sLd 3 0 1),
  (1, ni_sGet 9 0 4),
  (4, ni_sGet 4 1 7),
  (7, ni_sR (some .int))]
theorem ni_pk36 : ∀ r ∈ ni_pr36, ni_Ok xs yX11_routers cX11_routers 1 (some .int) [] r.1 r.2 ∧ ni_MU r.2 := ni_row (ni_aloadn ni_dX11_routers_0 rfl) ni_muLd <|
  ni_row (ni_get (T := TX11) ni_dX11_routers_1 (by decide) rfl (by decide) ni_uX11 ni_w424) ni_muGet <|
  ni_row (ni_get (T := TX4) ni_dX11_routers_4 (by decide) rfl (by decide) ni_uX4 ni_w390) ni_muGet <|
  ni_row (ni_ret ni_dX11_routers_7) ni_muR <|
  ni_row0
def ni_pr37 : List (Nat × ni_S) := [(0, ni_sLd 3 0 1),
  (1, ni_sLd 0 1 2),
  (2, ni_sV 7 1 9 5),
  (5, ni_sLd 0 2 6),
  (6, ni_sLd 3 0 7),
  (7, ni_sGet 9 0 10),
  (10, ni_sGet 4 0 13),
  (13, ni_sLd 3 0 14),
  (14, ni_sGet 9 0 17),
  (17, ni_sGet 4 0 20),
  (20, ni_sP (ni_gPush (.int 5000) 23)),
  (23, ni_sP (ni_gI (fun x y => x + y) 24)),
  (24, ni_sC 11 3 27),
  (27, ni_sLd 0 3 28),
  (28, ni_sP (ni_gPush (.int 1) 29)),
  (29, ni_sP (ni_gPush (.int 50) 31)),
  (31, ni_sC 11 3 34),
  (34, ni_sLd 0 4 36),
  (36, ni_sP (ni_gPush (.int 1) 37)),
  (37, ni_sP (ni_gPush (.int 60) 39)),
  (39, ni_sC 11 3 42),
  (42, ni_sLd 3 0 43),
  (43, ni_sGet 9 0 46),
  (46, ni_sGet 4 6 49),
  (49, ni_sLd 0 1 50),
  (50, ni_sQld 51),
  (51, ni_sSt 3 5 53),
  (53, ni_sLd 3 5 55),
  (55, ni_sGet 0 4 58),
  (58, ni_sP (ni_gPush (.int (-1)) 59)),
  (59, ni_sP (ni_gIc (fun x y => decide (x = y)) 72 62)),
  (72, ni_sLd 3 5 74),
  (74, ni_sLd 0 2 75),
  (75, ni_sPut 0 4 (.int) 78),
  (78, ni_sLd 3 5 80),
  (80, ni_sLd 0 3 81),
  (81, ni_sPut 0 5 (.int) 84),
  (84, ni_sLd 3 5 86),
  (86, ni_sLd 0 4 88),
  (88, ni_sPut 0 6 (.int) 91),
  (91, ni_sLd 0 2 92),
  (92, ni_sLd 0 4 94),
  (94, ni_sP (ni_gPush (.int 1) 95)),
  (95, ni_sP (ni_gI (fun x y => x - y) 96)),
  (96, ni_sLd 0 3 97),
  (97, ni_sP (ni_gI (fun x y => x * y) 98)),
  (98, ni_sP (ni_gI (fun x y => x + y) 99)),
  (99, ni_sR (some .int))]
theorem ni_pk37 : ∀ r ∈ ni_pr37, ni_Ok xs yX11_schedule cX11_schedule 6 (some .int) [] r.1 r.2 ∧ ni_MU r.2 := ni_row (ni_aloadn ni_dX11_schedule_0 rfl) ni_muLd <|
  ni_row (ni_iloadn ni_dX11_schedule_1 rfl) ni_muLd <|
  ni_row (ni_virt (y := 7) (T := TX11) ni_dX11_schedule_2 (by decide) rfl rfl ni_w697 ni_w699 ni_w9 ni_w28 ni_w700 ⟨by decide +kernel, by decide +kernel, by decide +kernel⟩ (by decide) rfl) (ni_muV (by decide)) <|
  ni_row (ni_iloadn ni_dX11_schedule_5 rfl) ni_muLd <|
  ni_row (ni_aloadn ni_dX11_schedule_6 rfl) ni_muLd <|
  ni_row (ni_get (T := TX11) ni_dX11_schedule_7 (by decide) rfl (by decide) ni_uX11 ni_w424) ni_muGet <|
  ni_row (ni_get (T := TX4) ni_dX11_schedule_10 (by decide) rfl (by decide) ni_uX4 ni_w387) ni_muGet <|
  ni_row (ni_aloadn ni_dX11_schedule_13 rfl) ni_muLd <|
  ni_row (ni_get (T := TX11) ni_dX11_schedule_14 (by decide) rfl (by decide) ni_uX11 ni_w424) ni_muGet <|
  ni_row (ni_get (T := TX4) ni_dX11_schedule_17 (by decide) rfl (by decide) ni_uX4 ni_w387) ni_muGet <|
  ni_row (ni_okP (ni_sipush ni_dX11_schedule_20 (by decide +kernel))) (ni_muP (ni_eqPush fun _ => rfl)) <|
  ni_row (ni_okP (ni_iadd ni_dX11_schedule_23)) (ni_muP ni_eqI) <|
  ni_row (ni_stat (y := 11) ni_dX11_schedule_24 ni_w510 ni_w511 ni_w28 ni_w512 ⟨by decide +kernel, by decide +kernel, by decide +kernel⟩ (by decide) rfl) ni_muC <|
  ni_row (ni_iloadn ni_dX11_schedule_27 rfl) ni_muLd <|
  ni_row (ni_okP (ni_iconst ni_dX11_schedule_28 (by decide +kernel))) (ni_muP (ni_eqPush fun _ => rfl)) <|
  ni_row (ni_okP (ni_bipush ni_dX11_schedule_29 (by decide +kernel))) (ni_muP (ni_eqPush fun _ => rfl)) <|
  ni_row (ni_stat (y := 11) ni_dX11_schedule_31 ni_w510 ni_w511 ni_w28 ni_w512 ⟨by decide +kernel, by decide +kernel, by decide +kernel⟩ (by decide) rfl) ni_muC <|
  ni_row (ni_iload ni_dX11_schedule_34) ni_muLd <|
  ni_row (ni_okP (ni_iconst ni_dX11_schedule_36 (by decide +kernel))) (ni_muP (ni_eqPush fun _ => rfl)) <|
  ni_row (ni_okP (ni_bipush ni_dX11_schedule_37 (by decide +kernel))) (ni_muP (ni_eqPush fun _ => rfl)) <|
  ni_row (ni_stat (y := 11) ni_dX11_schedule_39 ni_w510 ni_w511 ni_w28 ni_w512 ⟨by decide +kernel, by decide +kernel, by decide +kernel⟩ (by decide) rfl) ni_muC <|
  ni_row (ni_aloadn ni_dX11_schedule_42 rfl) ni_muLd <|
  ni_row (ni_get (T := TX11) ni_dX11_schedule_43 (by decide) rfl (by decide) ni_uX11 ni_w424) ni_muGet <|
  ni_row (ni_get (T := TX4) ni_dX11_schedule_46 (by decide) rfl (by decide) ni_uX4 ni_w400) ni_muGet <|
  ni_row (ni_iloadn ni_dX11_schedule_49 rfl) ni_muLd <|
  ni_row (ni_aald ni_dX11_schedule_50) ni_muQld <|
  ni_row (ni_astore ni_dX11_schedule_51 (by decide)) ni_muSt <|
  ni_row (ni_aload ni_dX11_schedule_53) ni_muLd <|
  ni_row (ni_get (T := TX0) ni_dX11_schedule_55 (by decide) rfl (by decide) ni_uX0 ni_w109) ni_muGet <|
  ni_row (ni_okP (ni_iconst ni_dX11_schedule_58 (by decide +kernel))) (ni_muP (ni_eqPush fun _ => rfl)) <|
  ni_row (ni_okP (ni_ic_eq ni_dX11_schedule_59 (by decide))) (ni_muP ni_eqIc) <|
  ni_row (ni_aload ni_dX11_schedule_72) ni_muLd <|
  ni_row (ni_iloadn ni_dX11_schedule_74 rfl) ni_muLd <|
  ni_row (ni_putA (T := TX0) (ty0 := tyX0) (b := false) (Or.inl rfl) rfl ni_dX11_schedule_75 (by decide) rfl (by decide) ni_uX0 tyX0_ok nmX0 ni_w109) ni_muPut <|
  ni_row (ni_aload ni_dX11_schedule_78) ni_muLd <|
  ni_row (ni_iloadn ni_dX11_schedule_80 rfl) ni_muLd <|
  ni_row (ni_putA (T := TX0) (ty0 := tyX0) (b := false) (Or.inl rfl) rfl ni_dX11_schedule_81 (by decide) rfl (by decide) ni_uX0 tyX0_ok nmX0 ni_w111) ni_muPut <|
  ni_row (ni_aload ni_dX11_schedule_84) ni_muLd <|
  ni_row (ni_iload ni_dX11_schedule_86) ni_muLd <|
  ni_row (ni_putA (T := TX0) (ty0 := tyX0) (b := false) (Or.inl rfl) rfl ni_dX11_schedule_88 (by decide) rfl (by decide) ni_uX0 tyX0_ok nmX0 ni_w113) ni_muPut <|
  ni_row (ni_iloadn ni_dX11_schedule_91 rfl) ni_muLd <|
  ni_row (ni_iload ni_dX11_schedule_92) ni_muLd <|
  ni_row (ni_okP (ni_iconst ni_dX11_schedule_94 (by decide +kernel))) (ni_muP (ni_eqPush fun _ => rfl)) <|
  ni_row (ni_okP (ni_isub ni_dX11_schedule_95)) (ni_muP ni_eqI) <|
  ni_row (ni_iloadn ni_dX11_schedule_96 rfl) ni_muLd <|
  ni_row (ni_okP (ni_imul ni_dX11_schedule_97)) (ni_muP ni_eqI) <|
  ni_row (ni_okP (ni_iadd ni_dX11_schedule_98)) (ni_muP ni_eqI) <|
  ni_row (ni_ret ni_dX11_schedule_99) ni_muR <|
  ni_row0
def ni_pr38 : List (Nat × ni_S) := [(0, ni_sLd 3 0 1),
  (1, ni_sLd 0 1 2),
  (2, ni_sV 9 1 9 5),
  (5, ni_sLd 3 0 6),
  (6, ni_sLd 0 1 7),
  (7, ni_sLd 0 2 8),
  (8, ni_sV 33 2 9 11),
  (11, ni_sGet 5 13 14),
  (14, ni_sR (some .int))]
theorem ni_pk38 : ∀ r ∈ ni_pr38, ni_Ok xs yX11_sending cX11_sending 3 (some .int) [] r.1 r.2 ∧ ni_MU r.2 := ni_row (ni_aloadn ni_dX11_sending_0 rfl) ni_muLd <|
  ni_row (ni_iloadn ni_dX11_sending_1 rfl) ni_muLd <|
  ni_row (ni_virt (y := 9) (T := TX11) ni_dX11_sending_2 (by decide) rfl rfl ni_w435 ni_w437 ni_w0 ni_w28 ni_w438 ⟨by decide +kernel, by decide +kernel, by decide +kernel⟩ (by decide) rfl) (ni_muV (by decide)) <|
  ni_row (ni_aloadn ni_dX11_sending_5 rfl) ni_muLd <|
  ni_row (ni_iloadn ni_dX11_sending_6 rfl) ni_muLd <|
  ni_row (ni_iloadn ni_dX11_sending_7 rfl) ni_muLd <|
  ni_row (ni_virt (y := 33) (T := TX11) ni_dX11_sending_8 (by decide) rfl rfl ni_w672 ni_w674 ni_w8 ni_w28 ni_w675 ⟨by decide +kernel, by decide +kernel, by decide +kernel⟩ (by decide) rfl) (ni_muV (by decide)) <|
  ni_row (ni_get (T := TX6) ni_dX11_sending_11 (by decide) rfl (by decide) ni_uX6 ni_w237) ni_muGet <|
  ni_row (ni_ret ni_dX11_sending_14) ni_muR <|
  ni_row0
end NIP
