section NIP
variable {xs : List Int32}
theorem ni_th_7_9 : ni_Th "Switchyard" cX11_checkIndex 9 "java/lang/IndexOutOfBoundsException" := ⟨328, 330, 332, "no such number", ["java/lang/RuntimeException", "java/lang/Exception"], by decide +kernel, by decide +kernel, by decide, ni_w719, ni_w84, by decide, by decide +kernel, by decide +kernel, by decide +kernel, ni_dX11_checkIndex_9, ni_dX11_checkIndex_12, ni_dX11_checkIndex_13, ni_dX11_checkIndex_16, ni_dX11_checkIndex_19⟩
theorem ni_th_9_10 : ni_Th "Switchyard" cX11_checkRange 10 "java/lang/IllegalArgumentException" := ⟨38, 333, 42, "a value out of its range", ["java/lang/RuntimeException", "java/lang/Exception"], by decide +kernel, by decide +kernel, by decide, ni_w735, ni_w85, by decide, by decide +kernel, by decide +kernel, by decide +kernel, ni_dX11_checkRange_10, ni_dX11_checkRange_13, ni_dX11_checkRange_14, ni_dX11_checkRange_17, ni_dX11_checkRange_20⟩
def ni_pr0 : List (Nat × ni_S) := [(0, ni_sLd 3 0 1),
  (1, ni_sP (ni_gObj 4)),
  (4, ni_sLd 3 0 5),
  (5, ni_sNew 5 [.int 0, .int 0, .int 0, .int 0, .null, .null, .null, .null, .null] 8),
  (8, ni_sP (ni_gDup 9)),
  (9, ni_sI 60 0 12),
  (12, ni_sPut 10 0 (.object "Switchyard$Net") 15),
  (15, ni_sLd 3 0 16),
  (16, ni_sNew 5 [.int 0, .int 0, .int 0, .int 0, .null, .null, .null, .null, .null] 19),
  (19, ni_sP (ni_gDup 20)),
  (20, ni_sI 60 0 23),
  (23, ni_sPut 10 1 (.object "Switchyard$Net") 26),
  (26, ni_sR (none))]
theorem ni_pk0 : ∀ r ∈ ni_pr0, ni_Ok xs yX11_init cX11_init 1 (none) [] r.1 r.2 ∧ ni_MU r.2 := ni_row (ni_aloadn ni_dX11_init_0 rfl) ni_muLd <|
  ni_row (ni_okP (ni_objInit ni_dX11_init_1 ni_w102 ni_w103 ni_w104)) (ni_muP ni_eqObj) <|
  ni_row (ni_aloadn ni_dX11_init_4 rfl) ni_muLd <|
  ni_row (ni_new (T := TX4) (ty0 := tyX4) ni_dX11_init_5 (by decide) rfl ni_uX4 tyX4_ok rfl (by decide +kernel) ni_w105 ni_w106 ni_w62) (ni_muNew fun _ => rfl) <|
  ni_row (ni_okP (ni_dup ni_dX11_init_8)) (ni_muP ni_eqDup) <|
  ni_row (ni_init (y := 60) ni_dX11_init_9 rfl rfl ni_w107 ni_w108 ni_w62 ni_w109 ⟨by decide +kernel, by decide +kernel, by decide +kernel⟩ (by decide) rfl) ni_muI <|
  ni_row (ni_putA (T := TX11) (ty0 := tyX11) (b := true) (Or.inr ⟨rfl, rfl, rfl⟩) rfl ni_dX11_init_12 (by decide) rfl (by decide) ni_uX11 tyX11_ok nmX11 ni_w476) ni_muPut <|
  ni_row (ni_aloadn ni_dX11_init_15 rfl) ni_muLd <|
  ni_row (ni_new (T := TX4) (ty0 := tyX4) ni_dX11_init_16 (by decide) rfl ni_uX4 tyX4_ok rfl (by decide +kernel) ni_w105 ni_w106 ni_w62) (ni_muNew fun _ => rfl) <|
  ni_row (ni_okP (ni_dup ni_dX11_init_19)) (ni_muP ni_eqDup) <|
  ni_row (ni_init (y := 60) ni_dX11_init_20 rfl rfl ni_w107 ni_w108 ni_w62 ni_w109 ⟨by decide +kernel, by decide +kernel, by decide +kernel⟩ (by decide) rfl) ni_muI <|
  ni_row (ni_putA (T := TX11) (ty0 := tyX11) (b := true) (Or.inr ⟨rfl, rfl, rfl⟩) rfl ni_dX11_init_23 (by decide) rfl (by decide) ni_uX11 tyX11_ok nmX11 ni_w477) ni_muPut <|
  ni_row (ni_ret ni_dX11_init_26) ni_muR <|
  ni_row0
def ni_pr1 : List (Nat × ni_S) := [(0, ni_sLd 3 0 1),
  (1, ni_sLd 0 1 2),
  (2, ni_sV 10 1 10 5)]
theorem ni_pk1 : ∀ r ∈ ni_pr1, ni_Ok xs yX11_addFlow cX11_addFlow 5 (some .int) [] r.1 r.2 ∧ ni_MU r.2 := ni_row (ni_aloadn ni_dX11_addFlow_0 rfl) ni_muLd <|
  ni_row (ni_iloadn ni_dX11_addFlow_1 rfl) ni_muLd <|
  ni_row (ni_virt (y := 10) (T := TX11) ni_dX11_addFlow_2 (by decide) rfl rfl ni_w712 ni_w714 ni_w3 ni_w61 ni_w715 ⟨by decide +kernel, by decide +kernel, by decide +kernel⟩ (by decide) rfl) (ni_muV (by decide)) <|
  ni_row0
def ni_pr2 : List (Nat × ni_S) := [(0, ni_sLd 3 0 1),
  (1, ni_sLd 0 1 2),
  (2, ni_sV 10 1 10 5)]
theorem ni_pk2 : ∀ r ∈ ni_pr2, ni_Ok xs yX11_addLink cX11_addLink 6 (some .int) [] r.1 r.2 ∧ ni_MU r.2 := ni_row (ni_aloadn ni_dX11_addLink_0 rfl) ni_muLd <|
  ni_row (ni_iloadn ni_dX11_addLink_1 rfl) ni_muLd <|
  ni_row (ni_virt (y := 10) (T := TX11) ni_dX11_addLink_2 (by decide) rfl rfl ni_w712 ni_w714 ni_w3 ni_w61 ni_w715 ⟨by decide +kernel, by decide +kernel, by decide +kernel⟩ (by decide) rfl) (ni_muV (by decide)) <|
  ni_row0
def ni_pr3 : List (Nat × ni_S) := [(0, ni_sLd 3 0 1),
  (1, ni_sLd 0 1 2),
  (2, ni_sV 10 1 10 5)]
theorem ni_pk3 : ∀ r ∈ ni_pr3, ni_Ok xs yX11_addNetwork cX11_addNetwork 5 (some .int) [] r.1 r.2 ∧ ni_MU r.2 := ni_row (ni_aloadn ni_dX11_addNetwork_0 rfl) ni_muLd <|
  ni_row (ni_iloadn ni_dX11_addNetwork_1 rfl) ni_muLd <|
  ni_row (ni_virt (y := 10) (T := TX11) ni_dX11_addNetwork_2 (by decide) rfl rfl ni_w712 ni_w714 ni_w3 ni_w61 ni_w715 ⟨by decide +kernel, by decide +kernel, by decide +kernel⟩ (by decide) rfl) (ni_muV (by decide)) <|
  ni_row0
def ni_pr4 : List (Nat × ni_S) := [(0, ni_sLd 3 0 1),
  (1, ni_sGet 10 0 4),
  (4, ni_sGet 5 1 7),
  (7, ni_sP (ni_gPush (.int 8) 9)),
  (9, ni_sP (ni_gIc (fun x y => decide (x < y)) 22 12)),
  (22, ni_sLd 3 0 23),
  (23, ni_sGet 10 0 26),
  (26, ni_sV 62 0 5 29),
  (29, ni_sR (some .int))]
theorem ni_pk4 : ∀ r ∈ ni_pr4, ni_Ok xs yX11_addRouter cX11_addRouter 1 (some .int) [] r.1 r.2 ∧ ni_MU r.2 := ni_row (ni_aloadn ni_dX11_addRouter_0 rfl) ni_muLd <|
  ni_row (ni_get (T := TX11) ni_dX11_addRouter_1 (by decide) rfl (by decide) ni_uX11 ni_w476) ni_muGet <|
  ni_row (ni_get (T := TX4) ni_dX11_addRouter_4 (by decide) rfl (by decide) ni_uX4 ni_w442) ni_muGet <|
  ni_row (ni_okP (ni_bipush ni_dX11_addRouter_7 (by decide +kernel))) (ni_muP (ni_eqPush fun _ => rfl)) <|
  ni_row (ni_okP (ni_ic_lt ni_dX11_addRouter_9 (by decide))) (ni_muP ni_eqIc) <|
  ni_row (ni_aloadn ni_dX11_addRouter_22 rfl) ni_muLd <|
  ni_row (ni_get (T := TX11) ni_dX11_addRouter_23 (by decide) rfl (by decide) ni_uX11 ni_w476) ni_muGet <|
  ni_row (ni_virt (y := 62) (T := TX4) ni_dX11_addRouter_26 (by decide) rfl rfl ni_w699 ni_w700 ni_w701 ni_w62 ni_w702 ⟨by decide +kernel, by decide +kernel, by decide +kernel⟩ (by decide) rfl) (ni_muV (by decide)) <|
  ni_row (ni_ret ni_dX11_addRouter_29) ni_muR <|
  ni_row0
def ni_pr5 : List (Nat × ni_S) := [(0, ni_sLd 3 0 1),
  (1, ni_sLd 0 1 2),
  (2, ni_sV 10 1 10 5)]
theorem ni_pk5 : ∀ r ∈ ni_pr5, ni_Ok xs yX11_addStatic cX11_addStatic 5 (some .int) [] r.1 r.2 ∧ ni_MU r.2 := ni_row (ni_aloadn ni_dX11_addStatic_0 rfl) ni_muLd <|
  ni_row (ni_iloadn ni_dX11_addStatic_1 rfl) ni_muLd <|
  ni_row (ni_virt (y := 10) (T := TX11) ni_dX11_addStatic_2 (by decide) rfl rfl ni_w712 ni_w714 ni_w3 ni_w61 ni_w715 ⟨by decide +kernel, by decide +kernel, by decide +kernel⟩ (by decide) rfl) (ni_muV (by decide)) <|
  ni_row0
def ni_pr6 : List (Nat × ni_S) := [(0, ni_sLd 0 1 1),
  (1, ni_sLd 3 0 2),
  (2, ni_sGet 10 0 5),
  (5, ni_sGet 5 3 8),
  (8, ni_sC 7 2 11)]
theorem ni_pk6 : ∀ r ∈ ni_pr6, ni_Ok xs yX11_checkFlow cX11_checkFlow 2 (none) [] r.1 r.2 ∧ ni_MU r.2 := ni_row (ni_iloadn ni_dX11_checkFlow_0 rfl) ni_muLd <|
  ni_row (ni_aloadn ni_dX11_checkFlow_1 rfl) ni_muLd <|
  ni_row (ni_get (T := TX11) ni_dX11_checkFlow_2 (by decide) rfl (by decide) ni_uX11 ni_w476) ni_muGet <|
  ni_row (ni_get (T := TX4) ni_dX11_checkFlow_5 (by decide) rfl (by decide) ni_uX4 ni_w446) ni_muGet <|
  ni_row (ni_stat (y := 7) ni_dX11_checkFlow_8 ni_w716 ni_w717 ni_w61 ni_w718 ⟨by decide +kernel, by decide +kernel, by decide +kernel⟩ (by decide) rfl) ni_muC <|
  ni_row0
def ni_pr7 : List (Nat × ni_S) := [(0, ni_sLd 0 0 1),
  (1, ni_sP (ni_gIf (fun x => decide (x < 0)) 9 4)),
  (4, ni_sLd 0 0 5),
  (5, ni_sLd 0 1 6),
  (6, ni_sP (ni_gIc (fun x y => decide (x < y)) 20 9)),
  (9, ni_sTh "java/lang/IndexOutOfBoundsException")]
theorem ni_pk7 : ∀ r ∈ ni_pr7, ni_Ok xs yX11_checkIndex cX11_checkIndex 2 (none) [] r.1 r.2 ∧ ni_MU r.2 := ni_row (ni_iloadn ni_dX11_checkIndex_0 rfl) ni_muLd <|
  ni_row (ni_okP (ni_if_lt ni_dX11_checkIndex_1 (by decide))) (ni_muP ni_eqIf) <|
  ni_row (ni_iloadn ni_dX11_checkIndex_4 rfl) ni_muLd <|
  ni_row (ni_iloadn ni_dX11_checkIndex_5 rfl) ni_muLd <|
  ni_row (ni_okP (ni_ic_lt ni_dX11_checkIndex_6 (by decide))) (ni_muP ni_eqIc) <|
  ni_row (ni_throw ni_th_7_9) ni_muTh <|
  ni_row0
def ni_pr8 : List (Nat × ni_S) := [(0, ni_sLd 0 1 1),
  (1, ni_sLd 3 0 2),
  (2, ni_sGet 10 0 5),
  (5, ni_sGet 5 2 8),
  (8, ni_sC 7 2 11)]
theorem ni_pk8 : ∀ r ∈ ni_pr8, ni_Ok xs yX11_checkLink cX11_checkLink 2 (none) [] r.1 r.2 ∧ ni_MU r.2 := ni_row (ni_iloadn ni_dX11_checkLink_0 rfl) ni_muLd <|
  ni_row (ni_aloadn ni_dX11_checkLink_1 rfl) ni_muLd <|
  ni_row (ni_get (T := TX11) ni_dX11_checkLink_2 (by decide) rfl (by decide) ni_uX11 ni_w476) ni_muGet <|
  ni_row (ni_get (T := TX4) ni_dX11_checkLink_5 (by decide) rfl (by decide) ni_uX4 ni_w444) ni_muGet <|
  ni_row (ni_stat (y := 7) ni_dX11_checkLink_8 ni_w716 ni_w717 ni_w61 ni_w718 ⟨by decide +kernel, by decide +kernel, by decide +kernel⟩ (by decide) rfl) ni_muC <|
  ni_row0
def ni_pr9 : List (Nat × ni_S) := [(0, ni_sLd 0 0 1),
  (1, ni_sLd 0 1 2),
  (2, ni_sP (ni_gIc (fun x y => decide (x < y)) 10 5)),
  (5, ni_sLd 0 0 6),
  (6, ni_sLd 0 2 7),
  (7, ni_sP (ni_gIc (fun x y => decide (x ≤ y)) 21 10)),
  (10, ni_sTh "java/lang/IllegalArgumentException"),
  (21, ni_sR (none))]
theorem ni_pk9 : ∀ r ∈ ni_pr9, ni_Ok xs yX11_checkRange cX11_checkRange 3 (none) [] r.1 r.2 ∧ ni_MU r.2 := ni_row (ni_iloadn ni_dX11_checkRange_0 rfl) ni_muLd <|
  ni_row (ni_iloadn ni_dX11_checkRange_1 rfl) ni_muLd <|
  ni_row (ni_okP (ni_ic_lt ni_dX11_checkRange_2 (by decide))) (ni_muP ni_eqIc) <|
  ni_row (ni_iloadn ni_dX11_checkRange_5 rfl) ni_muLd <|
  ni_row (ni_iloadn ni_dX11_checkRange_6 rfl) ni_muLd <|
  ni_row (ni_okP (ni_ic_le ni_dX11_checkRange_7 (by decide))) (ni_muP ni_eqIc) <|
  ni_row (ni_throw ni_th_9_10) ni_muTh <|
  ni_row (ni_ret ni_dX11_checkRange_21) ni_muR <|
  ni_row0
def ni_pr10 : List (Nat × ni_S) := [(0, ni_sLd 0 1 1),
  (1, ni_sLd 3 0 2),
  (2, ni_sGet 10 0 5),
  (5, ni_sGet 5 1 8),
  (8, ni_sC 7 2 11)]
theorem ni_pk10 : ∀ r ∈ ni_pr10, ni_Ok xs yX11_checkRouter cX11_checkRouter 2 (none) [] r.1 r.2 ∧ ni_MU r.2 := ni_row (ni_iloadn ni_dX11_checkRouter_0 rfl) ni_muLd <|
  ni_row (ni_aloadn ni_dX11_checkRouter_1 rfl) ni_muLd <|
  ni_row (ni_get (T := TX11) ni_dX11_checkRouter_2 (by decide) rfl (by decide) ni_uX11 ni_w476) ni_muGet <|
  ni_row (ni_get (T := TX4) ni_dX11_checkRouter_5 (by decide) rfl (by decide) ni_uX4 ni_w442) ni_muGet <|
  ni_row (ni_stat (y := 7) ni_dX11_checkRouter_8 ni_w716 ni_w717 ni_w61 ni_w718 ⟨by decide +kernel, by decide +kernel, by decide +kernel⟩ (by decide) rfl) ni_muC <|
  ni_row0
def ni_pr11 : List (Nat × ni_S) := [(0, ni_sLd 3 0 1),
  (1, ni_sLd 0 1 2),
  (2, ni_sV 8 1 10 5)]
theorem ni_pk11 : ∀ r ∈ ni_pr11, ni_Ok xs yX11_deficit cX11_deficit 4 (some .int) [] r.1 r.2 ∧ ni_MU r.2 := ni_row (ni_aloadn ni_dX11_deficit_0 rfl) ni_muLd <|
  ni_row (ni_iloadn ni_dX11_deficit_1 rfl) ni_muLd <|
  ni_row (ni_virt (y := 8) (T := TX11) ni_dX11_deficit_2 (by decide) rfl rfl ni_w811 ni_w813 ni_w9 ni_w61 ni_w814 ⟨by decide +kernel, by decide +kernel, by decide +kernel⟩ (by decide) rfl) (ni_muV (by decide)) <|
  ni_row0
def ni_pr12 : List (Nat × ni_S) := [(0, ni_sLd 3 0 1),
  (1, ni_sLd 0 1 2),
  (2, ni_sV 6 1 10 5)]
theorem ni_pk12 : ∀ r ∈ ni_pr12, ni_Ok xs yX11_delivered cX11_delivered 2 (some .int) [] r.1 r.2 ∧ ni_MU r.2 := ni_row (ni_aloadn ni_dX11_delivered_0 rfl) ni_muLd <|
  ni_row (ni_iloadn ni_dX11_delivered_1 rfl) ni_muLd <|
  ni_row (ni_virt (y := 6) (T := TX11) ni_dX11_delivered_2 (by decide) rfl rfl ni_w968 ni_w970 ni_w11 ni_w61 ni_w971 ⟨by decide +kernel, by decide +kernel, by decide +kernel⟩ (by decide) rfl) (ni_muV (by decide)) <|
  ni_row0
def ni_pr13 : List (Nat × ni_S) := [(0, ni_sLd 3 0 1),
  (1, ni_sLd 0 1 2),
  (2, ni_sV 6 1 10 5)]
theorem ni_pk13 : ∀ r ∈ ni_pr13, ni_Ok xs yX11_deliveredIn cX11_deliveredIn 4 (some .int) [] r.1 r.2 ∧ ni_MU r.2 := ni_row (ni_aloadn ni_dX11_deliveredIn_0 rfl) ni_muLd <|
  ni_row (ni_iloadn ni_dX11_deliveredIn_1 rfl) ni_muLd <|
  ni_row (ni_virt (y := 6) (T := TX11) ni_dX11_deliveredIn_2 (by decide) rfl rfl ni_w968 ni_w970 ni_w11 ni_w61 ni_w971 ⟨by decide +kernel, by decide +kernel, by decide +kernel⟩ (by decide) rfl) (ni_muV (by decide)) <|
  ni_row0
def ni_pr14 : List (Nat × ni_S) := [(0, ni_sP (ni_gPush (.long (58026)) 3)),
  (3, ni_sSt 1 1 4),
  (4, ni_sLd 1 1 5),
  (5, ni_sP (ni_gPush (.long (31)) 8)),
  (8, ni_sP (ni_gJ (fun x y => .long (x * y)) 9)),
  (9, ni_sLd 3 0 10),
  (10, ni_sGet 10 0 13),
  (13, ni_sGet 5 0 16),
  (16, ni_sP (ni_gU (fun x => .long x.toInt64) 17)),
  (17, ni_sP (ni_gJ (fun x y => .long (x + y)) 18)),
  (18, ni_sSt 1 1 19),
  (19, ni_sLd 1 1 20),
  (20, ni_sP (ni_gPush (.long (31)) 23)),
  (23, ni_sP (ni_gJ (fun x y => .long (x * y)) 24)),
  (24, ni_sLd 3 0 25),
  (25, ni_sGet 10 0 28),
  (28, ni_sGet 5 1 31),
  (31, ni_sP (ni_gU (fun x => .long x.toInt64) 32)),
  (32, ni_sP (ni_gJ (fun x y => .long (x + y)) 33)),
  (33, ni_sSt 1 1 34),
  (34, ni_sLd 1 1 35),
  (35, ni_sP (ni_gPush (.long (31)) 38)),
  (38, ni_sP (ni_gJ (fun x y => .long (x * y)) 39)),
  (39, ni_sLd 3 0 40),
  (40, ni_sGet 10 0 43),
  (43, ni_sGet 5 2 46),
  (46, ni_sP (ni_gU (fun x => .long x.toInt64) 47)),
  (47, ni_sP (ni_gJ (fun x y => .long (x + y)) 48)),
  (48, ni_sSt 1 1 49),
  (49, ni_sLd 1 1 50),
  (50, ni_sP (ni_gPush (.long (31)) 53)),
  (53, ni_sP (ni_gJ (fun x y => .long (x * y)) 54)),
  (54, ni_sLd 3 0 55),
  (55, ni_sGet 10 0 58),
  (58, ni_sGet 5 7 61),
  (61, ni_sGet 7 3 64),
  (64, ni_sP (ni_gU (fun x => .long x.toInt64) 65)),
  (65, ni_sP (ni_gJ (fun x y => .long (x + y)) 66)),
  (66, ni_sSt 1 1 67),
  (67, ni_sLd 1 1 68),
  (68, ni_sP (ni_gPush (.long (31)) 71)),
  (71, ni_sP (ni_gJ (fun x y => .long (x * y)) 72)),
  (72, ni_sLd 3 0 73),
  (73, ni_sGet 10 0 76),
  (76, ni_sGet 5 8 79),
  (79, ni_sGet 7 3 82),
  (82, ni_sP (ni_gU (fun x => .long x.toInt64) 83)),
  (83, ni_sP (ni_gJ (fun x y => .long (x + y)) 84)),
  (84, ni_sSt 1 1 85),
  (85, ni_sLd 1 1 86),
  (86, ni_sP (ni_gPush (.long (31)) 89)),
  (89, ni_sP (ni_gJ (fun x y => .long (x * y)) 90)),
  (90, ni_sLd 3 0 91),
  (91, ni_sGet 10 0 94),
  (94, ni_sGet 5 3 97),
  (97, ni_sP (ni_gU (fun x => .long x.toInt64) 98)),
  (98, ni_sP (ni_gJ (fun x y => .long (x + y)) 99)),
  (99, ni_sSt 1 1 100),
  (100, ni_sLd 1 1 101),
  (101, ni_sP (ni_gPush (.long (31)) 104)),
  (104, ni_sP (ni_gJ (fun x y => .long (x * y)) 105)),
  (105, ni_sLd 3 0 106),
  (106, ni_sGet 10 0 109),
  (109, ni_sV 61 0 5 112),
  (112, ni_sP (ni_gU (fun x => .long x.toInt64) 113)),
  (113, ni_sP (ni_gJ (fun x y => .long (x + y)) 114)),
  (114, ni_sSt 1 1 115),
  (115, ni_sP (ni_gPush (.int 0) 116)),
  (116, ni_sSt 0 3 117),
  (117, ni_sLd 0 3 118),
  (118, ni_sLd 3 0 119),
  (119, ni_sGet 10 0 122),
  (122, ni_sGet 5 1 125),
  (125, ni_sP (ni_gIc (fun x y => decide (y ≤ x)) 149 128)),
  (149, ni_sP (ni_gPush (.int 0) 150)),
  (150, ni_sSt 0 3 151),
  (151, ni_sLd 0 3 152),
  (152, ni_sLd 3 0 153),
  (153, ni_sGet 10 0 156),
  (156, ni_sGet 5 2 159),
  (159, ni_sP (ni_gIc (fun x y => decide (y ≤ x)) 182 162)),
  (182, ni_sP (ni_gPush (.int 0) 183)),
  (183, ni_sSt 0 3 184),
  (184, ni_sLd 0 3 185),
  (185, ni_sLd 3 0 186),
  (186, ni_sGet 10 0 189),
  (189, ni_sGet 5 3 192),
  (192, ni_sP (ni_gIc (fun x y => decide (y ≤ x)) 208 195)),
  (208, ni_sLd 1 1 209),
  (209, ni_sR (some .long))]
theorem ni_pk14 : ∀ r ∈ ni_pr14, ni_Ok xs yX11_digest cX11_digest 4 (some .long) [] r.1 r.2 ∧ ni_MU r.2 := ni_row (ni_okP (ni_ldc2 ni_dX11_digest_0 ni_w523)) (ni_muP (ni_eqPush fun _ => rfl)) <|
  ni_row (ni_lstoren ni_dX11_digest_3 rfl (by decide)) ni_muSt <|
  ni_row (ni_lloadn ni_dX11_digest_4 rfl) ni_muLd <|
  ni_row (ni_okP (ni_ldc2 ni_dX11_digest_5 ni_w524)) (ni_muP (ni_eqPush fun _ => rfl)) <|
  ni_row (ni_okP (ni_lmul ni_dX11_digest_8)) (ni_muP (ni_eqJ fun _ _ _ => rfl)) <|
  ni_row (ni_aloadn ni_dX11_digest_9 rfl) ni_muLd <|
  ni_row (ni_get (T := TX11) ni_dX11_digest_10 (by decide) rfl (by decide) ni_uX11 ni_w476) ni_muGet <|
  ni_row (ni_get (T := TX4) ni_dX11_digest_13 (by decide) rfl (by decide) ni_uX4 ni_w439) ni_muGet <|
  ni_row (ni_okP (ni_i2l ni_dX11_digest_16)) (ni_muP (ni_eqU fun _ _ => rfl)) <|
  ni_row (ni_okP (ni_ladd ni_dX11_digest_17)) (ni_muP (ni_eqJ fun _ _ _ => rfl)) <|
  ni_row (ni_lstoren ni_dX11_digest_18 rfl (by decide)) ni_muSt <|
  ni_row (ni_lloadn ni_dX11_digest_19 rfl) ni_muLd <|
  ni_row (ni_okP (ni_ldc2 ni_dX11_digest_20 ni_w524)) (ni_muP (ni_eqPush fun _ => rfl)) <|
  ni_row (ni_okP (ni_lmul ni_dX11_digest_23)) (ni_muP (ni_eqJ fun _ _ _ => rfl)) <|
  ni_row (ni_aloadn ni_dX11_digest_24 rfl) ni_muLd <|
  ni_row (ni_get (T := TX11) ni_dX11_digest_25 (by decide) rfl (by decide) ni_uX11 ni_w476) ni_muGet <|
  ni_row (ni_get (T := TX4) ni_dX11_digest_28 (by decide) rfl (by decide) ni_uX4 ni_w442) ni_muGet <|
  ni_row (ni_okP (ni_i2l ni_dX11_digest_31)) (ni_muP (ni_eqU fun _ _ => rfl)) <|
  ni_row (ni_okP (ni_ladd ni_dX11_digest_32)) (ni_muP (ni_eqJ fun _ _ _ => rfl)) <|
  ni_row (ni_lstoren ni_dX11_digest_33 rfl (by decide)) ni_muSt <|
  ni_row (ni_lloadn ni_dX11_digest_34 rfl) ni_muLd <|
  ni_row (ni_okP (ni_ldc2 ni_dX11_digest_35 ni_w524)) (ni_muP (ni_eqPush fun _ => rfl)) <|
  ni_row (ni_okP (ni_lmul ni_dX11_digest_38)) (ni_muP (ni_eqJ fun _ _ _ => rfl)) <|
  ni_row (ni_aloadn ni_dX11_digest_39 rfl) ni_muLd <|
  ni_row (ni_get (T := TX11) ni_dX11_digest_40 (by decide) rfl (by decide) ni_uX11 ni_w476) ni_muGet <|
  ni_row (ni_get (T := TX4) ni_dX11_digest_43 (by decide) rfl (by decide) ni_uX4 ni_w444) ni_muGet <|
  ni_row (ni_okP (ni_i2l ni_dX11_digest_46)) (ni_muP (ni_eqU fun _ _ => rfl)) <|
  ni_row (ni_okP (ni_ladd ni_dX11_digest_47)) (ni_muP (ni_eqJ fun _ _ _ => rfl)) <|
  ni_row (ni_lstoren ni_dX11_digest_48 rfl (by decide)) ni_muSt <|
  ni_row (ni_lloadn ni_dX11_digest_49 rfl) ni_muLd <|
  ni_row (ni_okP (ni_ldc2 ni_dX11_digest_50 ni_w524)) (ni_muP (ni_eqPush fun _ => rfl)) <|
  ni_row (ni_okP (ni_lmul ni_dX11_digest_53)) (ni_muP (ni_eqJ fun _ _ _ => rfl)) <|
  ni_row (ni_aloadn ni_dX11_digest_54 rfl) ni_muLd <|
  ni_row (ni_get (T := TX11) ni_dX11_digest_55 (by decide) rfl (by decide) ni_uX11 ni_w476) ni_muGet <|
  ni_row (ni_get (T := TX4) ni_dX11_digest_58 (by decide) rfl (by decide) ni_uX4 ni_w454) ni_muGet <|
  ni_row (ni_get (T := TX8) ni_dX11_digest_61 (by decide) rfl (by decide) ni_uX8 ni_w131) ni_muGet <|
  ni_row (ni_okP (ni_i2l ni_dX11_digest_64)) (ni_muP (ni_eqU fun _ _ => rfl)) <|
  ni_row (ni_okP (ni_ladd ni_dX11_digest_65)) (ni_muP (ni_eqJ fun _ _ _ => rfl)) <|
  ni_row (ni_lstoren ni_dX11_digest_66 rfl (by decide)) ni_muSt <|
  ni_row (ni_lloadn ni_dX11_digest_67 rfl) ni_muLd <|
  ni_row (ni_okP (ni_ldc2 ni_dX11_digest_68 ni_w524)) (ni_muP (ni_eqPush fun _ => rfl)) <|
  ni_row (ni_okP (ni_lmul ni_dX11_digest_71)) (ni_muP (ni_eqJ fun _ _ _ => rfl)) <|
  ni_row (ni_aloadn ni_dX11_digest_72 rfl) ni_muLd <|
  ni_row (ni_get (T := TX11) ni_dX11_digest_73 (by decide) rfl (by decide) ni_uX11 ni_w476) ni_muGet <|
  ni_row (ni_get (T := TX4) ni_dX11_digest_76 (by decide) rfl (by decide) ni_uX4 ni_w456) ni_muGet <|
  ni_row (ni_get (T := TX8) ni_dX11_digest_79 (by decide) rfl (by decide) ni_uX8 ni_w131) ni_muGet <|
  ni_row (ni_okP (ni_i2l ni_dX11_digest_82)) (ni_muP (ni_eqU fun _ _ => rfl)) <|
  ni_row (ni_okP (ni_ladd ni_dX11_digest_83)) (ni_muP (ni_eqJ fun _ _ _ => rfl)) <|
  ni_row (ni_lstoren ni_dX11_digest_84 rfl (by decide)) ni_muSt <|
  ni_row (ni_lloadn ni_dX11_digest_85 rfl) ni_muLd <|
  ni_row (ni_okP (ni_ldc2 ni_dX11_digest_86 ni_w524)) (ni_muP (ni_eqPush fun _ => rfl)) <|
  ni_row (ni_okP (ni_lmul ni_dX11_digest_89)) (ni_muP (ni_eqJ fun _ _ _ => rfl)) <|
  ni_row (ni_aloadn ni_dX11_digest_90 rfl) ni_muLd <|
  ni_row (ni_get (T := TX11) ni_dX11_digest_91 (by decide) rfl (by decide) ni_uX11 ni_w476) ni_muGet <|
  ni_row (ni_get (T := TX4) ni_dX11_digest_94 (by decide) rfl (by decide) ni_uX4 ni_w446) ni_muGet <|
  ni_row (ni_okP (ni_i2l ni_dX11_digest_97)) (ni_muP (ni_eqU fun _ _ => rfl)) <|
  ni_row (ni_okP (ni_ladd ni_dX11_digest_98)) (ni_muP (ni_eqJ fun _ _ _ => rfl)) <|
  ni_row (ni_lstoren ni_dX11_digest_99 rfl (by decide)) ni_muSt <|
  ni_row (ni_lloadn ni_dX11_digest_100 rfl) ni_muLd <|
  ni_row (ni_okP (ni_ldc2 ni_dX11_digest_101 ni_w524)) (ni_muP (ni_eqPush fun _ => rfl)) <|
  ni_row (ni_okP (ni_lmul ni_dX11_digest_104)) (ni_muP (ni_eqJ fun _ _ _ => rfl)) <|
  ni_row (ni_aloadn ni_dX11_digest_105 rfl) ni_muLd <|
  ni_row (ni_get (T := TX11) ni_dX11_digest_106 (by decide) rfl (by decide) ni_uX11 ni_w476) ni_muGet <|
  ni_row (ni_virt (y := 61) (T := TX4) ni_dX11_digest_109 (by decide) rfl rfl ni_w511 ni_w512 ni_w513 ni_w62 ni_w514 ⟨by decide +kernel, by decide +kernel, by decide +kernel⟩ (by decide) rfl) (ni_muV (by decide)) <|
  ni_row (ni_okP (ni_i2l ni_dX11_digest_112)) (ni_muP (ni_eqU fun _ _ => rfl)) <|
  ni_row (ni_okP (ni_ladd ni_dX11_digest_113)) (ni_muP (ni_eqJ fun _ _ _ => rfl)) <|
  ni_row (ni_lstoren ni_dX11_digest_114 rfl (by decide)) ni_muSt <|
  ni_row (ni_okP (ni_iconst ni_dX11_digest_115 (by decide +kernel))) (ni_muP (ni_eqPush fun _ => rfl)) <|
  ni_row (ni_istoren ni_dX11_digest_116 rfl (by decide)) ni_muSt <|
  ni_row (ni_iloadn ni_dX11_digest_117 rfl) ni_muLd <|
  ni_row (ni_aloadn ni_dX11_digest_118 rfl) ni_muLd <|
  ni_row (ni_get (T := TX11) ni_dX11_digest_119 (by decide) rfl (by decide) ni_uX11 ni_w476) ni_muGet <|
  ni_row (ni_get (T := TX4) ni_dX11_digest_122 (by decide) rfl (by decide) ni_uX4 ni_w442) ni_muGet <|
  ni_row (ni_okP (ni_ic_ge ni_dX11_digest_125 (by decide))) (ni_muP ni_eqIc) <|
  ni_row (ni_okP (ni_iconst ni_dX11_digest_149 (by decide +kernel))) (ni_muP (ni_eqPush fun _ => rfl)) <|
  ni_row (ni_istoren ni_dX11_digest_150 rfl (by decide)) ni_muSt <|
  ni_row (ni_iloadn ni_dX11_digest_151 rfl) ni_muLd <|
  ni_row (ni_aloadn ni_dX11_digest_152 rfl) ni_muLd <|
  ni_row (ni_get (T := TX11) ni_dX11_digest_153 (by decide) rfl (by decide) ni_uX11 ni_w476) ni_muGet <|
  ni_row (ni_get (T := TX4) ni_dX11_digest_156 (by decide) rfl (by decide) ni_uX4 ni_w444) ni_muGet <|
  ni_row (ni_okP (ni_ic_ge ni_dX11_digest_159 (by decide))) (ni_muP ni_eqIc) <|
  ni_row (ni_okP (ni_iconst ni_dX11_digest_182 (by decide +kernel))) (ni_muP (ni_eqPush fun _ => rfl)) <|
  ni_row (ni_istoren ni_dX11_digest_183 rfl (by decide)) ni_muSt <|
  ni_row (ni_iloadn ni_dX11_digest_184 rfl) ni_muLd <|
  ni_row (ni_aloadn ni_dX11_digest_185 rfl) ni_muLd <|
  ni_row (ni_get (T := TX11) ni_dX11_digest_186 (by decide) rfl (by decide) ni_uX11 ni_w476) ni_muGet <|
  ni_row (ni_get (T := TX4) ni_dX11_digest_189 (by decide) rfl (by decide) ni_uX4 ni_w446) ni_muGet <|
  ni_row (ni_okP (ni_ic_ge ni_dX11_digest_192 (by decide))) (ni_muP ni_eqIc) <|
  ni_row (ni_lloadn ni_dX11_digest_208 rfl) ni_muLd <|
  ni_row (ni_ret ni_dX11_digest_209) ni_muR <|
  ni_row0
def ni_pr15 : List (Nat × ni_S) := [(0, ni_sLd 3 0 1),
  (1, ni_sLd 0 1 2),
  (2, ni_sV 10 1 10 5)]
theorem ni_pk15 : ∀ r ∈ ni_pr15, ni_Ok xs yX11_distance cX11_distance 3 (some .int) [] r.1 r.2 ∧ ni_MU r.2 := ni_row (ni_aloadn ni_dX11_distance_0 rfl) ni_muLd <|
  ni_row (ni_iloadn ni_dX11_distance_1 rfl) ni_muLd <|
  ni_row (ni_virt (y := 10) (T := TX11) ni_dX11_distance_2 (by decide) rfl rfl ni_w712 ni_w714 ni_w3 ni_w61 ni_w715 ⟨by decide +kernel, by decide +kernel, by decide +kernel⟩ (by decide) rfl) (ni_muV (by decide)) <|
  ni_row0
def ni_pr16 : List (Nat × ni_S) := [(0, ni_sLd 0 1 1),
  (1, ni_sLd 3 0 2),
  (2, ni_sGet 10 0 5),
  (5, ni_sGet 5 7 8),
  (8, ni_sGet 7 3 11),
  (11, ni_sC 7 2 14)]
theorem ni_pk16 : ∀ r ∈ ni_pr16, ni_Ok xs yX11_dropNetwork cX11_dropNetwork 2 (some .int) [] r.1 r.2 ∧ ni_MU r.2 := ni_row (ni_iloadn ni_dX11_dropNetwork_0 rfl) ni_muLd <|
  ni_row (ni_aloadn ni_dX11_dropNetwork_1 rfl) ni_muLd <|
  ni_row (ni_get (T := TX11) ni_dX11_dropNetwork_2 (by decide) rfl (by decide) ni_uX11 ni_w476) ni_muGet <|
  ni_row (ni_get (T := TX4) ni_dX11_dropNetwork_5 (by decide) rfl (by decide) ni_uX4 ni_w454) ni_muGet <|
  ni_row (ni_get (T := TX8) ni_dX11_dropNetwork_8 (by decide) rfl (by decide) ni_uX8 ni_w131) ni_muGet <|
  ni_row (ni_stat (y := 7) ni_dX11_dropNetwork_11 ni_w716 ni_w717 ni_w61 ni_w718 ⟨by decide +kernel, by decide +kernel, by decide +kernel⟩ (by decide) rfl) ni_muC <|
  ni_row0
def ni_pr17 : List (Nat × ni_S) := [(0, ni_sLd 0 1 1),
  (1, ni_sLd 3 0 2),
  (2, ni_sGet 10 0 5),
  (5, ni_sGet 5 8 8),
  (8, ni_sGet 7 3 11),
  (11, ni_sC 7 2 14)]
theorem ni_pk17 : ∀ r ∈ ni_pr17, ni_Ok xs yX11_dropStatic cX11_dropStatic 2 (some .int) [] r.1 r.2 ∧ ni_MU r.2 := ni_row (ni_iloadn ni_dX11_dropStatic_0 rfl) ni_muLd <|
  ni_row (ni_aloadn ni_dX11_dropStatic_1 rfl) ni_muLd <|
  ni_row (ni_get (T := TX11) ni_dX11_dropStatic_2 (by decide) rfl (by decide) ni_uX11 ni_w476) ni_muGet <|
  ni_row (ni_get (T := TX4) ni_dX11_dropStatic_5 (by decide) rfl (by decide) ni_uX4 ni_w456) ni_muGet <|
  ni_row (ni_get (T := TX8) ni_dX11_dropStatic_8 (by decide) rfl (by decide) ni_uX8 ni_w131) ni_muGet <|
  ni_row (ni_stat (y := 7) ni_dX11_dropStatic_11 ni_w716 ni_w717 ni_w61 ni_w718 ⟨by decide +kernel, by decide +kernel, by decide +kernel⟩ (by decide) rfl) ni_muC <|
  ni_row0
def ni_pr18 : List (Nat × ni_S) := [(0, ni_sLd 3 0 1),
  (1, ni_sLd 0 1 2),
  (2, ni_sV 6 1 10 5)]
theorem ni_pk18 : ∀ r ∈ ni_pr18, ni_Ok xs yX11_dropped cX11_dropped 3 (some .int) [] r.1 r.2 ∧ ni_MU r.2 := ni_row (ni_aloadn ni_dX11_dropped_0 rfl) ni_muLd <|
  ni_row (ni_iloadn ni_dX11_dropped_1 rfl) ni_muLd <|
  ni_row (ni_virt (y := 6) (T := TX11) ni_dX11_dropped_2 (by decide) rfl rfl ni_w968 ni_w970 ni_w11 ni_w61 ni_w971 ⟨by decide +kernel, by decide +kernel, by decide +kernel⟩ (by decide) rfl) (ni_muV (by decide)) <|
  ni_row0
def ni_pr19 : List (Nat × ni_S) := [(0, ni_sLd 3 0 1),
  (1, ni_sLd 0 1 2),
  (2, ni_sV 10 1 10 5)]
theorem ni_pk19 : ∀ r ∈ ni_pr19, ni_Ok xs yX11_entries cX11_entries 2 (some .int) [] r.1 r.2 ∧ ni_MU r.2 := ni_row (ni_aloadn ni_dX11_entries_0 rfl) ni_muLd <|
  ni_row (ni_iloadn ni_dX11_entries_1 rfl) ni_muLd <|
  ni_row (ni_virt (y := 10) (T := TX11) ni_dX11_entries_2 (by decide) rfl rfl ni_w712 ni_w714 ni_w3 ni_w61 ni_w715 ⟨by decide +kernel, by decide +kernel, by decide +kernel⟩ (by decide) rfl) (ni_muV (by decide)) <|
  ni_row0
def ni_pr20 : List (Nat × ni_S) := [(0, ni_sLd 3 0 1),
  (1, ni_sLd 0 1 2),
  (2, ni_sV 10 1 10 5)]
theorem ni_pk20 : ∀ r ∈ ni_pr20, ni_Ok xs yX11_firstLinks cX11_firstLinks 3 (some .int) [] r.1 r.2 ∧ ni_MU r.2 := ni_row (ni_aloadn ni_dX11_firstLinks_0 rfl) ni_muLd <|
  ni_row (ni_iloadn ni_dX11_firstLinks_1 rfl) ni_muLd <|
  ni_row (ni_virt (y := 10) (T := TX11) ni_dX11_firstLinks_2 (by decide) rfl rfl ni_w712 ni_w714 ni_w3 ni_w61 ni_w715 ⟨by decide +kernel, by decide +kernel, by decide +kernel⟩ (by decide) rfl) (ni_muV (by decide)) <|
  ni_row0
def ni_pr21 : List (Nat × ni_S) := [(0, ni_sLd 3 0 1),
  (1, ni_sGet 10 0 4),
  (4, ni_sGet 5 3 7),
  (7, ni_sR (some .int))]
theorem ni_pk21 : ∀ r ∈ ni_pr21, ni_Ok xs yX11_flows cX11_flows 1 (some .int) [] r.1 r.2 ∧ ni_MU r.2 := ni_row (ni_aloadn ni_dX11_flows_0 rfl) ni_muLd <|
  ni_row (ni_get (T := TX11) ni_dX11_flows_1 (by decide) rfl (by decide) ni_uX11 ni_w476) ni_muGet <|
  ni_row (ni_get (T := TX4) ni_dX11_flows_4 (by decide) rfl (by decide) ni_uX4 ni_w446) ni_muGet <|
  ni_row (ni_ret ni_dX11_flows_7) ni_muR <|
  ni_row0
def ni_pr22 : List (Nat × ni_S) := [(0, ni_sLd 3 0 1),
  (1, ni_sLd 0 1 2),
  (2, ni_sV 10 1 10 5)]
theorem ni_pk22 : ∀ r ∈ ni_pr22, ni_Ok xs yX11_found cX11_found 5 (some .int) [] r.1 r.2 ∧ ni_MU r.2 := ni_row (ni_aloadn ni_dX11_found_0 rfl) ni_muLd <|
  ni_row (ni_iloadn ni_dX11_found_1 rfl) ni_muLd <|
  ni_row (ni_virt (y := 10) (T := TX11) ni_dX11_found_2 (by decide) rfl rfl ni_w712 ni_w714 ni_w3 ni_w61 ni_w715 ⟨by decide +kernel, by decide +kernel, by decide +kernel⟩ (by decide) rfl) (ni_muV (by decide)) <|
  ni_row0
def ni_pr23 : List (Nat × ni_S) := [(0, ni_sLd 3 0 1),
  (1, ni_sGet 10 0 4),
  (4, ni_sV 61 0 5 7),
  (7, ni_sP (ni_gIf (fun x => decide (¬ x = 0)) 14 10)),
  (10, ni_sP (ni_gPush (.int 1) 11)),
  (11, ni_sP (ni_gGo 15)),
  (15, ni_sR (some .boolean))]
theorem ni_pk23 : ∀ r ∈ ni_pr23, ni_Ok xs yX11_isSettled cX11_isSettled 1 (some .boolean) [] r.1 r.2 ∧ ni_MU r.2 := ni_row (ni_aloadn ni_dX11_isSettled_0 rfl) ni_muLd <|
  ni_row (ni_get (T := TX11) ni_dX11_isSettled_1 (by decide) rfl (by decide) ni_uX11 ni_w476) ni_muGet <|
  ni_row (ni_virt (y := 61) (T := TX4) ni_dX11_isSettled_4 (by decide) rfl rfl ni_w511 ni_w512 ni_w513 ni_w62 ni_w514 ⟨by decide +kernel, by decide +kernel, by decide +kernel⟩ (by decide) rfl) (ni_muV (by decide)) <|
  ni_row (ni_okP (ni_if_ne ni_dX11_isSettled_7 (by decide))) (ni_muP ni_eqIf) <|
  ni_row (ni_okP (ni_iconst ni_dX11_isSettled_10 (by decide +kernel))) (ni_muP (ni_eqPush fun _ => rfl)) <|
  ni_row (ni_okP (ni_goto ni_dX11_isSettled_11 (by decide))) (ni_muP ni_eqGo) <|
  ni_row (ni_ret ni_dX11_isSettled_15) ni_muR <|
  ni_row0
def ni_pr24 : List (Nat × ni_S) := [(0, ni_sLd 3 0 1),
  (1, ni_sLd 0 1 2),
  (2, ni_sV 8 1 10 5)]
theorem ni_pk24 : ∀ r ∈ ni_pr24, ni_Ok xs yX11_isUp cX11_isUp 2 (some .boolean) [] r.1 r.2 ∧ ni_MU r.2 := ni_row (ni_aloadn ni_dX11_isUp_0 rfl) ni_muLd <|
  ni_row (ni_iloadn ni_dX11_isUp_1 rfl) ni_muLd <|
  ni_row (ni_virt (y := 8) (T := TX11) ni_dX11_isUp_2 (by decide) rfl rfl ni_w811 ni_w813 ni_w9 ni_w61 ni_w814 ⟨by decide +kernel, by decide +kernel, by decide +kernel⟩ (by decide) rfl) (ni_muV (by decide)) <|
  ni_row0
def ni_pr25 : List (Nat × ni_S) := [(0, ni_sLd 3 0 1),
  (1, ni_sLd 0 1 2),
  (2, ni_sV 6 1 10 5)]
theorem ni_pk25 : ∀ r ∈ ni_pr25, ni_Ok xs yX11_latest cX11_latest 2 (some .int) [] r.1 r.2 ∧ ni_MU r.2 := ni_row (ni_aloadn ni_dX11_latest_0 rfl) ni_muLd <|
  ni_row (ni_iloadn ni_dX11_latest_1 rfl) ni_muLd <|
  ni_row (ni_virt (y := 6) (T := TX11) ni_dX11_latest_2 (by decide) rfl rfl ni_w968 ni_w970 ni_w11 ni_w61 ni_w971 ⟨by decide +kernel, by decide +kernel, by decide +kernel⟩ (by decide) rfl) (ni_muV (by decide)) <|
  ni_row0
def ni_pr26 : List (Nat × ni_S) := [(0, ni_sLd 3 0 1),
  (1, ni_sLd 0 1 2),
  (2, ni_sV 10 1 10 5)]
theorem ni_pk26 : ∀ r ∈ ni_pr26, ni_Ok xs yX11_letterOf cX11_letterOf 3 (some .int) [] r.1 r.2 ∧ ni_MU r.2 := ni_row (ni_aloadn ni_dX11_letterOf_0 rfl) ni_muLd <|
  ni_row (ni_iloadn ni_dX11_letterOf_1 rfl) ni_muLd <|
  ni_row (ni_virt (y := 10) (T := TX11) ni_dX11_letterOf_2 (by decide) rfl rfl ni_w712 ni_w714 ni_w3 ni_w61 ni_w715 ⟨by decide +kernel, by decide +kernel, by decide +kernel⟩ (by decide) rfl) (ni_muV (by decide)) <|
  ni_row0
def ni_pr27 : List (Nat × ni_S) := [(0, ni_sLd 3 0 1),
  (1, ni_sGet 10 0 4),
  (4, ni_sV 61 0 5 7),
  (7, ni_sR (some .int))]
theorem ni_pk27 : ∀ r ∈ ni_pr27, ni_Ok xs yX11_letters cX11_letters 1 (some .int) [] r.1 r.2 ∧ ni_MU r.2 := ni_row (ni_aloadn ni_dX11_letters_0 rfl) ni_muLd <|
  ni_row (ni_get (T := TX11) ni_dX11_letters_1 (by decide) rfl (by decide) ni_uX11 ni_w476) ni_muGet <|
  ni_row (ni_virt (y := 61) (T := TX4) ni_dX11_letters_4 (by decide) rfl rfl ni_w511 ni_w512 ni_w513 ni_w62 ni_w514 ⟨by decide +kernel, by decide +kernel, by decide +kernel⟩ (by decide) rfl) (ni_muV (by decide)) <|
  ni_row (ni_ret ni_dX11_letters_7) ni_muR <|
  ni_row0
def ni_pr28 : List (Nat × ni_S) := [(0, ni_sLd 3 0 1),
  (1, ni_sGet 10 0 4),
  (4, ni_sGet 5 2 7),
  (7, ni_sR (some .int))]
theorem ni_pk28 : ∀ r ∈ ni_pr28, ni_Ok xs yX11_links cX11_links 1 (some .int) [] r.1 r.2 ∧ ni_MU r.2 := ni_row (ni_aloadn ni_dX11_links_0 rfl) ni_muLd <|
  ni_row (ni_get (T := TX11) ni_dX11_links_1 (by decide) rfl (by decide) ni_uX11 ni_w476) ni_muGet <|
  ni_row (ni_get (T := TX4) ni_dX11_links_4 (by decide) rfl (by decide) ni_uX4 ni_w444) ni_muGet <|
  ni_row (ni_ret ni_dX11_links_7) ni_muR <|
  ni_row0
def ni_pr29 : List (Nat × ni_S) := [(0, ni_sLd 3 0 1),
  (1, ni_sLd 0 1 2),
  (2, ni_sV 10 1 10 5)]
theorem ni_pk29 : ∀ r ∈ ni_pr29, ni_Ok xs yX11_looks cX11_looks 3 (some .int) [] r.1 r.2 ∧ ni_MU r.2 := ni_row (ni_aloadn ni_dX11_looks_0 rfl) ni_muLd <|
  ni_row (ni_iloadn ni_dX11_looks_1 rfl) ni_muLd <|
  ni_row (ni_virt (y := 10) (T := TX11) ni_dX11_looks_2 (by decide) rfl rfl ni_w712 ni_w714 ni_w3 ni_w61 ni_w715 ⟨by decide +kernel, by decide +kernel, by decide +kernel⟩ (by decide) rfl) (ni_muV (by decide)) <|
  ni_row0
def ni_pr30 : List (Nat × ni_S) := [(0, ni_sLd 3 0 1),
  (1, ni_sLd 0 1 2),
  (2, ni_sV 6 1 10 5)]
theorem ni_pk30 : ∀ r ∈ ni_pr30, ni_Ok xs yX11_meanLate cX11_meanLate 3 (some .double) [] r.1 r.2 ∧ ni_MU r.2 := ni_row (ni_aloadn ni_dX11_meanLate_0 rfl) ni_muLd <|
  ni_row (ni_iloadn ni_dX11_meanLate_1 rfl) ni_muLd <|
  ni_row (ni_virt (y := 6) (T := TX11) ni_dX11_meanLate_2 (by decide) rfl rfl ni_w968 ni_w970 ni_w11 ni_w61 ni_w971 ⟨by decide +kernel, by decide +kernel, by decide +kernel⟩ (by decide) rfl) (ni_muV (by decide)) <|
  ni_row0
def ni_pr31 : List (Nat × ni_S) := [(0, ni_sLd 3 0 1),
  (1, ni_sGet 10 0 4),
  (4, ni_sGet 5 7 7),
  (7, ni_sGet 7 3 10),
  (10, ni_sR (some .int))]
theorem ni_pk31 : ∀ r ∈ ni_pr31, ni_Ok xs yX11_networks cX11_networks 1 (some .int) [] r.1 r.2 ∧ ni_MU r.2 := ni_row (ni_aloadn ni_dX11_networks_0 rfl) ni_muLd <|
  ni_row (ni_get (T := TX11) ni_dX11_networks_1 (by decide) rfl (by decide) ni_uX11 ni_w476) ni_muGet <|
  ni_row (ni_get (T := TX4) ni_dX11_networks_4 (by decide) rfl (by decide) ni_uX4 ni_w454) ni_muGet <|
  ni_row (ni_get (T := TX8) ni_dX11_networks_7 (by decide) rfl (by decide) ni_uX8 ni_w131) ni_muGet <|
  ni_row (ni_ret ni_dX11_networks_10) ni_muR <|
  ni_row0
def ni_pr32 : List (Nat × ni_S) := [(0, ni_sLd 3 0 1),
  (1, ni_sLd 0 1 2),
  (2, ni_sV 10 1 10 5)]
theorem ni_pk32 : ∀ r ∈ ni_pr32, ni_Ok xs yX11_nextLink cX11_nextLink 3 (some .int) [] r.1 r.2 ∧ ni_MU r.2 := ni_row (ni_aloadn ni_dX11_nextLink_0 rfl) ni_muLd <|
  ni_row (ni_iloadn ni_dX11_nextLink_1 rfl) ni_muLd <|
  ni_row (ni_virt (y := 10) (T := TX11) ni_dX11_nextLink_2 (by decide) rfl rfl ni_w712 ni_w714 ni_w3 ni_w61 ni_w715 ⟨by decide +kernel, by decide +kernel, by decide +kernel⟩ (by decide) rfl) (ni_muV (by decide)) <|
  ni_row0
def ni_pr33 : List (Nat × ni_S) := [(0, ni_sLd 3 0 1),
  (1, ni_sLd 0 1 2),
  (2, ni_sV 6 1 10 5)]
theorem ni_pk33 : ∀ r ∈ ni_pr33, ni_Ok xs yX11_offered cX11_offered 2 (some .int) [] r.1 r.2 ∧ ni_MU r.2 := ni_row (ni_aloadn ni_dX11_offered_0 rfl) ni_muLd <|
  ni_row (ni_iloadn ni_dX11_offered_1 rfl) ni_muLd <|
  ni_row (ni_virt (y := 6) (T := TX11) ni_dX11_offered_2 (by decide) rfl rfl ni_w968 ni_w970 ni_w11 ni_w61 ni_w971 ⟨by decide +kernel, by decide +kernel, by decide +kernel⟩ (by decide) rfl) (ni_muV (by decide)) <|
  ni_row0
def ni_pr34 : List (Nat × ni_S) := [(0, ni_sLd 3 0 1),
  (1, ni_sLd 0 1 2),
  (2, ni_sV 8 1 10 5)]
theorem ni_pk34 : ∀ r ∈ ni_pr34, ni_Ok xs yX11_onLink cX11_onLink 2 (some .int) [] r.1 r.2 ∧ ni_MU r.2 := ni_row (ni_aloadn ni_dX11_onLink_0 rfl) ni_muLd <|
  ni_row (ni_iloadn ni_dX11_onLink_1 rfl) ni_muLd <|
  ni_row (ni_virt (y := 8) (T := TX11) ni_dX11_onLink_2 (by decide) rfl rfl ni_w811 ni_w813 ni_w9 ni_w61 ni_w814 ⟨by decide +kernel, by decide +kernel, by decide +kernel⟩ (by decide) rfl) (ni_muV (by decide)) <|
  ni_row0
def ni_pr35 : List (Nat × ni_S) := [(0, ni_sLd 3 0 1),
  (1, ni_sLd 0 1 2),
  (2, ni_sV 6 1 10 5)]
theorem ni_pk35 : ∀ r ∈ ni_pr35, ni_Ok xs yX11_outOfOrder cX11_outOfOrder 2 (some .int) [] r.1 r.2 ∧ ni_MU r.2 := ni_row (ni_aloadn ni_dX11_outOfOrder_0 rfl) ni_muLd <|
  ni_row (ni_iloadn ni_dX11_outOfOrder_1 rfl) ni_muLd <|
  ni_row (ni_virt (y := 6) (T := TX11) ni_dX11_outOfOrder_2 (by decide) rfl rfl ni_w968 ni_w970 ni_w11 ni_w61 ni_w971 ⟨by decide +kernel, by decide +kernel, by decide +kernel⟩ (by decide) rfl) (ni_muV (by decide)) <|
  ni_row0
def ni_pr36 : List (Nat × ni_S) := [(0, ni_sLd 3 0 1),
  (1, ni_sLd 0 1 2),
  (2, ni_sV 8 1 10 5)]
theorem ni_pk36 : ∀ r ∈ ni_pr36, ni_Ok xs yX11_queued cX11_queued 4 (some .int) [] r.1 r.2 ∧ ni_MU r.2 := ni_row (ni_aloadn ni_dX11_queued_0 rfl) ni_muLd <|
  ni_row (ni_iloadn ni_dX11_queued_1 rfl) ni_muLd <|
  ni_row (ni_virt (y := 8) (T := TX11) ni_dX11_queued_2 (by decide) rfl rfl ni_w811 ni_w813 ni_w9 ni_w61 ni_w814 ⟨by decide +kernel, by decide +kernel, by decide +kernel⟩ (by decide) rfl) (ni_muV (by decide)) <|
  ni_row0
def ni_pr37 : List (Nat × ni_S) := [(0, ni_sLd 3 0 1),
  (1, ni_sLd 0 1 2),
  (2, ni_sV 6 1 10 5)]
theorem ni_pk37 : ∀ r ∈ ni_pr37, ni_Ok xs yX11_route cX11_route 2 (some .int) [] r.1 r.2 ∧ ni_MU r.2 := ni_row (ni_aloadn ni_dX11_route_0 rfl) ni_muLd <|
  ni_row (ni_iloadn ni_dX11_route_1 rfl) ni_muLd <|
  ni_row (ni_virt (y := 6) (T := TX11) ni_dX11_route_2 (by decide) rfl rfl ni_w968 ni_w970 ni_w11 ni_w61 ni_w971 ⟨by decide +kernel, by decide +kernel, by decide +kernel⟩ (by decide) rfl) (ni_muV (by decide)) <|
  ni_row0
def ni_pr38 : List (Nat × ni_S) := [(0, ni_sLd 3 0 1),
  (1, ni_sGet 10 0 4),
  (4, ni_sGet 5 1 7),
  (7, ni_sR (some .int))]
theorem ni_pk38 : ∀ r ∈ ni_pr38, ni_Ok xs yX11_routers cX11_routers 1 (some .int) [] r.1 r.2 ∧ ni_MU r.2 := ni_row (ni_aloadn ni_dX11_routers_0 rfl) ni_muLd <|
  ni_row (ni_get (T := TX11) ni_dX11_routers_1 (by decide) rfl (by decide) ni_uX11 ni_w476) ni_muGet <|
  ni_row (ni_get (T := TX4) ni_dX11_routers_4 (by decide) rfl (by decide) ni_uX4 ni_w442) ni_muGet <|
  ni_row (ni_ret ni_dX11_routers_7) ni_muR <|
  ni_row0
def ni_pr39 : List (Nat × ni_S) := [(0, ni_sLd 3 0 1),
  (1, ni_sLd 0 1 2),
  (2, ni_sV 6 1 10 5)]
theorem ni_pk39 : ∀ r ∈ ni_pr39, ni_Ok xs yX11_schedule cX11_schedule 6 (some .int) [] r.1 r.2 ∧ ni_MU r.2 := ni_row (ni_aloadn ni_dX11_schedule_0 rfl) ni_muLd <|
  ni_row (ni_iloadn ni_dX11_schedule_1 rfl) ni_muLd <|
  ni_row (ni_virt (y := 6) (T := TX11) ni_dX11_schedule_2 (by decide) rfl rfl ni_w968 ni_w970 ni_w11 ni_w61 ni_w971 ⟨by decide +kernel, by decide +kernel, by decide +kernel⟩ (by decide) rfl) (ni_muV (by decide)) <|
  ni_row0
def ni_pr40 : List (Nat × ni_S) := [(0, ni_sLd 3 0 1),
  (1, ni_sLd 0 1 2),
  (2, ni_sV 8 1 10 5)]
theorem ni_pk40 : ∀ r ∈ ni_pr40, ni_Ok xs yX11_sending cX11_sending 3 (some .int) [] r.1 r.2 ∧ ni_MU r.2 := ni_row (ni_aloadn ni_dX11_sending_0 rfl) ni_muLd <|
  ni_row (ni_iloadn ni_dX11_sending_1 rfl) ni_muLd <|
  ni_row (ni_virt (y := 8) (T := TX11) ni_dX11_sending_2 (by decide) rfl rfl ni_w811 ni_w813 ni_w9 ni_w61 ni_w814 ⟨by decide +kernel, by decide +kernel, by decide +kernel⟩ (by decide) rfl) (ni_muV (by decide)) <|
  ni_row0
def ni_pr41 : List (Nat × ni_S) := [(0, ni_sLd 3 0 1),
  (1, ni_sLd 0 1 2),
  (2, ni_sV 8 1 10 5)]
theorem ni_pk41 : ∀ r ∈ ni_pr41, ni_Ok xs yX11_setCost cX11_setCost 3 (some .int) [] r.1 r.2 ∧ ni_MU r.2 := ni_row (ni_aloadn ni_dX11_setCost_0 rfl) ni_muLd <|
  ni_row (ni_iloadn ni_dX11_setCost_1 rfl) ni_muLd <|
  ni_row (ni_virt (y := 8) (T := TX11) ni_dX11_setCost_2 (by decide) rfl rfl ni_w811 ni_w813 ni_w9 ni_w61 ni_w814 ⟨by decide +kernel, by decide +kernel, by decide +kernel⟩ (by decide) rfl) (ni_muV (by decide)) <|
  ni_row0
def ni_pr42 : List (Nat × ni_S) := [(0, ni_sLd 3 0 1),
  (1, ni_sLd 0 1 2),
  (2, ni_sV 8 1 10 5)]
theorem ni_pk42 : ∀ r ∈ ni_pr42, ni_Ok xs yX11_setPort cX11_setPort 7 (some .int) [] r.1 r.2 ∧ ni_MU r.2 := ni_row (ni_aloadn ni_dX11_setPort_0 rfl) ni_muLd <|
  ni_row (ni_iloadn ni_dX11_setPort_1 rfl) ni_muLd <|
  ni_row (ni_virt (y := 8) (T := TX11) ni_dX11_setPort_2 (by decide) rfl rfl ni_w811 ni_w813 ni_w9 ni_w61 ni_w814 ⟨by decide +kernel, by decide +kernel, by decide +kernel⟩ (by decide) rfl) (ni_muV (by decide)) <|
  ni_row0
def ni_pr43 : List (Nat × ni_S) := [(0, ni_sLd 3 0 1),
  (1, ni_sLd 0 1 2),
  (2, ni_sV 8 1 10 5)]
theorem ni_pk43 : ∀ r ∈ ni_pr43, ni_Ok xs yX11_setUp cX11_setUp 4 (some .boolean) [] r.1 r.2 ∧ ni_MU r.2 := ni_row (ni_aloadn ni_dX11_setUp_0 rfl) ni_muLd <|
  ni_row (ni_iloadn ni_dX11_setUp_1 rfl) ni_muLd <|
  ni_row (ni_virt (y := 8) (T := TX11) ni_dX11_setUp_2 (by decide) rfl rfl ni_w811 ni_w813 ni_w9 ni_w61 ni_w814 ⟨by decide +kernel, by decide +kernel, by decide +kernel⟩ (by decide) rfl) (ni_muV (by decide)) <|
  ni_row0
def ni_pr44 : List (Nat × ni_S) := [(0, ni_sLd 3 0 1),
  (1, ni_sLd 0 1 2),
  (2, ni_sV 8 1 10 5)]
theorem ni_pk44 : ∀ r ∈ ni_pr44, ni_Ok xs yX11_setWeight cX11_setWeight 7 (some .int) [] r.1 r.2 ∧ ni_MU r.2 := ni_row (ni_aloadn ni_dX11_setWeight_0 rfl) ni_muLd <|
  ni_row (ni_iloadn ni_dX11_setWeight_1 rfl) ni_muLd <|
  ni_row (ni_virt (y := 8) (T := TX11) ni_dX11_setWeight_2 (by decide) rfl rfl ni_w811 ni_w813 ni_w9 ni_w61 ni_w814 ⟨by decide +kernel, by decide +kernel, by decide +kernel⟩ (by decide) rfl) (ni_muV (by decide)) <|
  ni_row0
def ni_pr45 : List (Nat × ni_S) := [(0, ni_sLd 0 1 1),
  (1, ni_sP (ni_gPush (.int 1) 2)),
  (2, ni_sP (ni_gPush (.int 60) 4)),
  (4, ni_sC 9 3 7),
  (7, ni_sLd 3 0 8),
  (8, ni_sGet 10 0 11),
  (11, ni_sV 61 0 5 14),
  (14, ni_sP (ni_gIf (fun x => decide (¬ x = 0)) 19 17)),
  (17, ni_sP (ni_gPush (.int 0) 18)),
  (18, ni_sR (some .int))]
theorem ni_pk45 : ∀ r ∈ ni_pr45, ni_Ok xs yX11_settledIn cX11_settledIn 3 (some .int) [] r.1 r.2 ∧ ni_MU r.2 := ni_row (ni_iloadn ni_dX11_settledIn_0 rfl) ni_muLd <|
  ni_row (ni_okP (ni_iconst ni_dX11_settledIn_1 (by decide +kernel))) (ni_muP (ni_eqPush fun _ => rfl)) <|
  ni_row (ni_okP (ni_bipush ni_dX11_settledIn_2 (by decide +kernel))) (ni_muP (ni_eqPush fun _ => rfl)) <|
  ni_row (ni_stat (y := 9) ni_dX11_settledIn_4 ni_w751 ni_w752 ni_w61 ni_w753 ⟨by decide +kernel, by decide +kernel, by decide +kernel⟩ (by decide) rfl) ni_muC <|
  ni_row (ni_aloadn ni_dX11_settledIn_7 rfl) ni_muLd <|
  ni_row (ni_get (T := TX11) ni_dX11_settledIn_8 (by decide) rfl (by decide) ni_uX11 ni_w476) ni_muGet <|
  ni_row (ni_virt (y := 61) (T := TX4) ni_dX11_settledIn_11 (by decide) rfl rfl ni_w511 ni_w512 ni_w513 ni_w62 ni_w514 ⟨by decide +kernel, by decide +kernel, by decide +kernel⟩ (by decide) rfl) (ni_muV (by decide)) <|
  ni_row (ni_okP (ni_if_ne ni_dX11_settledIn_14 (by decide))) (ni_muP ni_eqIf) <|
  ni_row (ni_okP (ni_iconst ni_dX11_settledIn_17 (by decide +kernel))) (ni_muP (ni_eqPush fun _ => rfl)) <|
  ni_row (ni_ret ni_dX11_settledIn_18) ni_muR <|
  ni_row0
def ni_pr46 : List (Nat × ni_S) := [(0, ni_sLd 3 0 1),
  (1, ni_sLd 0 1 2),
  (2, ni_sV 6 1 10 5)]
theorem ni_pk46 : ∀ r ∈ ni_pr46, ni_Ok xs yX11_shape cX11_shape 5 (some .int) [] r.1 r.2 ∧ ni_MU r.2 := ni_row (ni_aloadn ni_dX11_shape_0 rfl) ni_muLd <|
  ni_row (ni_iloadn ni_dX11_shape_1 rfl) ni_muLd <|
  ni_row (ni_virt (y := 6) (T := TX11) ni_dX11_shape_2 (by decide) rfl rfl ni_w968 ni_w970 ni_w11 ni_w61 ni_w971 ⟨by decide +kernel, by decide +kernel, by decide +kernel⟩ (by decide) rfl) (ni_muV (by decide)) <|
  ni_row0
def ni_pr47 : List (Nat × ni_S) := [(0, ni_sLd 3 0 1),
  (1, ni_sLd 0 1 2),
  (2, ni_sV 6 1 10 5)]
theorem ni_pk47 : ∀ r ∈ ni_pr47, ni_Ok xs yX11_shaping cX11_shaping 2 (some .int) [] r.1 r.2 ∧ ni_MU r.2 := ni_row (ni_aloadn ni_dX11_shaping_0 rfl) ni_muLd <|
  ni_row (ni_iloadn ni_dX11_shaping_1 rfl) ni_muLd <|
  ni_row (ni_virt (y := 6) (T := TX11) ni_dX11_shaping_2 (by decide) rfl rfl ni_w968 ni_w970 ni_w11 ni_w61 ni_w971 ⟨by decide +kernel, by decide +kernel, by decide +kernel⟩ (by decide) rfl) (ni_muV (by decide)) <|
  ni_row0
def ni_pr48 : List (Nat × ni_S) := [(0, ni_sLd 3 0 1),
  (1, ni_sLd 0 1 2),
  (2, ni_sV 10 1 10 5)]
theorem ni_pk48 : ∀ r ∈ ni_pr48, ni_Ok xs yX11_sortOf cX11_sortOf 5 (some .int) [] r.1 r.2 ∧ ni_MU r.2 := ni_row (ni_aloadn ni_dX11_sortOf_0 rfl) ni_muLd <|
  ni_row (ni_iloadn ni_dX11_sortOf_1 rfl) ni_muLd <|
  ni_row (ni_virt (y := 10) (T := TX11) ni_dX11_sortOf_2 (by decide) rfl rfl ni_w712 ni_w714 ni_w3 ni_w61 ni_w715 ⟨by decide +kernel, by decide +kernel, by decide +kernel⟩ (by decide) rfl) (ni_muV (by decide)) <|
  ni_row0
def ni_pr49 : List (Nat × ni_S) := [(0, ni_sLd 3 0 1),
  (1, ni_sGet 10 0 4),
  (4, ni_sGet 5 8 7),
  (7, ni_sGet 7 3 10),
  (10, ni_sR (some .int))]
theorem ni_pk49 : ∀ r ∈ ni_pr49, ni_Ok xs yX11_statics cX11_statics 1 (some .int) [] r.1 r.2 ∧ ni_MU r.2 := ni_row (ni_aloadn ni_dX11_statics_0 rfl) ni_muLd <|
  ni_row (ni_get (T := TX11) ni_dX11_statics_1 (by decide) rfl (by decide) ni_uX11 ni_w476) ni_muGet <|
  ni_row (ni_get (T := TX4) ni_dX11_statics_4 (by decide) rfl (by decide) ni_uX4 ni_w456) ni_muGet <|
  ni_row (ni_get (T := TX8) ni_dX11_statics_7 (by decide) rfl (by decide) ni_uX8 ni_w131) ni_muGet <|
  ni_row (ni_ret ni_dX11_statics_10) ni_muR <|
  ni_row0
def ni_pr50 : List (Nat × ni_S) := [(0, ni_sLd 0 1 1),
  (1, ni_sP (ni_gPush (.int 1) 2)),
  (2, ni_sP (ni_gPush (.int 60) 4)),
  (4, ni_sC 9 3 7),
  (7, ni_sP (ni_gPush (.int 0) 8)),
  (8, ni_sSt 0 2 9),
  (9, ni_sLd 0 2 10),
  (10, ni_sLd 0 1 11),
  (11, ni_sP (ni_gIc (fun x y => decide (y ≤ x)) 27 14)),
  (14, ni_sLd 3 0 15),
  (15, ni_sGet 10 0 18),
  (18, ni_sV 63 0 5 21),
  (21, ni_sInc 2 (1) 24),
  (24, ni_sP (ni_gGo 9)),
  (27, ni_sLd 3 0 28),
  (28, ni_sGet 10 0 31),
  (31, ni_sGet 5 0 34),
  (34, ni_sR (some .int))]
theorem ni_pk50 : ∀ r ∈ ni_pr50, ni_Ok xs yX11_step cX11_step 3 (some .int) [] r.1 r.2 ∧ ni_MU r.2 := ni_row (ni_iloadn ni_dX11_step_0 rfl) ni_muLd <|
  ni_row (ni_okP (ni_iconst ni_dX11_step_1 (by decide +kernel))) (ni_muP (ni_eqPush fun _ => rfl)) <|
  ni_row (ni_okP (ni_bipush ni_dX11_step_2 (by decide +kernel))) (ni_muP (ni_eqPush fun _ => rfl)) <|
  ni_row (ni_stat (y := 9) ni_dX11_step_4 ni_w751 ni_w752 ni_w61 ni_w753 ⟨by decide +kernel, by decide +kernel, by decide +kernel⟩ (by decide) rfl) ni_muC <|
  ni_row (ni_okP (ni_iconst ni_dX11_step_7 (by decide +kernel))) (ni_muP (ni_eqPush fun _ => rfl)) <|
  ni_row (ni_istoren ni_dX11_step_8 rfl (by decide)) ni_muSt <|
  ni_row (ni_iloadn ni_dX11_step_9 rfl) ni_muLd <|
  ni_row (ni_iloadn ni_dX11_step_10 rfl) ni_muLd <|
  ni_row (ni_okP (ni_ic_ge ni_dX11_step_11 (by decide))) (ni_muP ni_eqIc) <|
  ni_row (ni_aloadn ni_dX11_step_14 rfl) ni_muLd <|
  ni_row (ni_get (T := TX11) ni_dX11_step_15 (by decide) rfl (by decide) ni_uX11 ni_w476) ni_muGet <|
  ni_row (ni_virt (y := 63) (T := TX4) ni_dX11_step_18 (by decide) rfl rfl ni_w987 ni_w988 ni_w989 ni_w62 ni_w990 ⟨by decide +kernel, by decide +kernel, by decide +kernel⟩ (by decide) rfl) (ni_muV (by decide)) <|
  ni_row (ni_iinc (n := 1) ni_dX11_step_21 (by decide)) ni_muInc <|
  ni_row (ni_okP (ni_goto ni_dX11_step_24 (by decide))) (ni_muP ni_eqGo) <|
  ni_row (ni_aloadn ni_dX11_step_27 rfl) ni_muLd <|
  ni_row (ni_get (T := TX11) ni_dX11_step_28 (by decide) rfl (by decide) ni_uX11 ni_w476) ni_muGet <|
  ni_row (ni_get (T := TX4) ni_dX11_step_31 (by decide) rfl (by decide) ni_uX4 ni_w439) ni_muGet <|
  ni_row (ni_ret ni_dX11_step_34) ni_muR <|
  ni_row0
def ni_pr51 : List (Nat × ni_S) := [(0, ni_sLd 3 0 1),
  (1, ni_sGet 10 0 4),
  (4, ni_sGet 5 0 7),
  (7, ni_sR (some .int))]
theorem ni_pk51 : ∀ r ∈ ni_pr51, ni_Ok xs yX11_time cX11_time 1 (some .int) [] r.1 r.2 ∧ ni_MU r.2 := ni_row (ni_aloadn ni_dX11_time_0 rfl) ni_muLd <|
  ni_row (ni_get (T := TX11) ni_dX11_time_1 (by decide) rfl (by decide) ni_uX11 ni_w476) ni_muGet <|
  ni_row (ni_get (T := TX4) ni_dX11_time_4 (by decide) rfl (by decide) ni_uX4 ni_w439) ni_muGet <|
  ni_row (ni_ret ni_dX11_time_7) ni_muR <|
  ni_row0
def ni_pr52 : List (Nat × ni_S) := [(0, ni_sLd 3 0 1),
  (1, ni_sLd 0 1 2),
  (2, ni_sV 6 1 10 5)]
theorem ni_pk52 : ∀ r ∈ ni_pr52, ni_Ok xs yX11_tokens cX11_tokens 2 (some .int) [] r.1 r.2 ∧ ni_MU r.2 := ni_row (ni_aloadn ni_dX11_tokens_0 rfl) ni_muLd <|
  ni_row (ni_iloadn ni_dX11_tokens_1 rfl) ni_muLd <|
  ni_row (ni_virt (y := 6) (T := TX11) ni_dX11_tokens_2 (by decide) rfl rfl ni_w968 ni_w970 ni_w11 ni_w61 ni_w971 ⟨by decide +kernel, by decide +kernel, by decide +kernel⟩ (by decide) rfl) (ni_muV (by decide)) <|
  ni_row0
def ni_pr53 : List (Nat × ni_S) := [(0, ni_sLd 3 0 1),
  (1, ni_sLd 0 1 2),
  (2, ni_sV 10 1 10 5)]
theorem ni_pk53 : ∀ r ∈ ni_pr53, ni_Ok xs yX11_trieDepth cX11_trieDepth 2 (some .int) [] r.1 r.2 ∧ ni_MU r.2 := ni_row (ni_aloadn ni_dX11_trieDepth_0 rfl) ni_muLd <|
  ni_row (ni_iloadn ni_dX11_trieDepth_1 rfl) ni_muLd <|
  ni_row (ni_virt (y := 10) (T := TX11) ni_dX11_trieDepth_2 (by decide) rfl rfl ni_w712 ni_w714 ni_w3 ni_w61 ni_w715 ⟨by decide +kernel, by decide +kernel, by decide +kernel⟩ (by decide) rfl) (ni_muV (by decide)) <|
  ni_row0
def ni_pr54 : List (Nat × ni_S) := [(0, ni_sLd 3 0 1),
  (1, ni_sLd 0 1 2),
  (2, ni_sV 10 1 10 5)]
theorem ni_pk54 : ∀ r ∈ ni_pr54, ni_Ok xs yX11_trieNodes cX11_trieNodes 2 (some .int) [] r.1 r.2 ∧ ni_MU r.2 := ni_row (ni_aloadn ni_dX11_trieNodes_0 rfl) ni_muLd <|
  ni_row (ni_iloadn ni_dX11_trieNodes_1 rfl) ni_muLd <|
  ni_row (ni_virt (y := 10) (T := TX11) ni_dX11_trieNodes_2 (by decide) rfl rfl ni_w712 ni_w714 ni_w3 ni_w61 ni_w715 ⟨by decide +kernel, by decide +kernel, by decide +kernel⟩ (by decide) rfl) (ni_muV (by decide)) <|
  ni_row0
def ni_pr55 : List (Nat × ni_S) := [(0, ni_sLd 3 0 1),
  (1, ni_sLd 0 1 2),
  (2, ni_sV 8 1 10 5)]
theorem ni_pk55 : ∀ r ∈ ni_pr55, ni_Ok xs yX11_waiting cX11_waiting 3 (some .int) [] r.1 r.2 ∧ ni_MU r.2 := ni_row (ni_aloadn ni_dX11_waiting_0 rfl) ni_muLd <|
  ni_row (ni_iloadn ni_dX11_waiting_1 rfl) ni_muLd <|
  ni_row (ni_virt (y := 8) (T := TX11) ni_dX11_waiting_2 (by decide) rfl rfl ni_w811 ni_w813 ni_w9 ni_w61 ni_w814 ⟨by decide +kernel, by decide +kernel, by decide +kernel⟩ (by decide) rfl) (ni_muV (by decide)) <|
  ni_row0
def ni_pr56 : List (Nat × ni_S) := [(0, ni_sLd 3 0 1),
  (1, ni_sP (ni_gObj 4)),
  (4, ni_sLd 3 0 5),
  (5, ni_sP (ni_gPush (.int (-1)) 6)),
  (6, ni_sPut 1 4 (.int) 9),
  (9, ni_sLd 3 0 10),
  (10, ni_sP (ni_gPush (.int 10) 12)),
  (12, ni_sNewa 0 .int 14),
  (14, ni_sPut 1 10 (.array (.int)) 17),
  (17, ni_sLd 3 0 18),
  (18, ni_sP (ni_gPush (.int 7) 20)),
  (20, ni_sNewa 0 .int 22),
  (22, ni_sPut 1 14 (.array (.int)) 25),
  (25, ni_sLd 3 0 26),
  (26, ni_sP (ni_gPush (.int (-1)) 27)),
  (27, ni_sPut 1 16 (.int) 30),
  (30, ni_sLd 3 0 31),
  (31, ni_sP (ni_gPush (.int (-1)) 32)),
  (32, ni_sPut 1 17 (.int) 35),
  (35, ni_sR (none))]
theorem ni_pk56 : ∀ r ∈ ni_pr56, ni_Ok xs yX0_init cX0_init 1 (none) [] r.1 r.2 ∧ ni_MU r.2 := ni_row (ni_aloadn ni_dX0_init_0 rfl) ni_muLd <|
  ni_row (ni_okP (ni_objInit ni_dX0_init_1 ni_w148 ni_w103 ni_w104)) (ni_muP ni_eqObj) <|
  ni_row (ni_aloadn ni_dX0_init_4 rfl) ni_muLd <|
  ni_row (ni_okP (ni_iconst ni_dX0_init_5 (by decide +kernel))) (ni_muP (ni_eqPush fun _ => rfl)) <|
  ni_row (ni_putA (T := TX0) (ty0 := tyX0) (b := false) (Or.inl rfl) rfl ni_dX0_init_6 (by decide) rfl (by decide) ni_uX0 tyX0_ok nmX0 ni_w158) ni_muPut <|
  ni_row (ni_aloadn ni_dX0_init_9 rfl) ni_muLd <|
  ni_row (ni_okP (ni_bipush ni_dX0_init_10 (by decide +kernel))) (ni_muP (ni_eqPush fun _ => rfl)) <|
  ni_row (ni_newa ni_dX0_init_12 rfl rfl (by decide) ni_w143) ni_muNewa <|
  ni_row (ni_putA (T := TX0) (ty0 := tyX0) (b := true) (Or.inr ⟨rfl, rfl, rfl⟩) rfl ni_dX0_init_14 (by decide) rfl (by decide) ni_uX0 tyX0_ok nmX0 ni_w170) ni_muPut <|
  ni_row (ni_aloadn ni_dX0_init_17 rfl) ni_muLd <|
  ni_row (ni_okP (ni_bipush ni_dX0_init_18 (by decide +kernel))) (ni_muP (ni_eqPush fun _ => rfl)) <|
  ni_row (ni_newa ni_dX0_init_20 rfl rfl (by decide) ni_w143) ni_muNewa <|
  ni_row (ni_putA (T := TX0) (ty0 := tyX0) (b := true) (Or.inr ⟨rfl, rfl, rfl⟩) rfl ni_dX0_init_22 (by decide) rfl (by decide) ni_uX0 tyX0_ok nmX0 ni_w178) ni_muPut <|
  ni_row (ni_aloadn ni_dX0_init_25 rfl) ni_muLd <|
  ni_row (ni_okP (ni_iconst ni_dX0_init_26 (by decide +kernel))) (ni_muP (ni_eqPush fun _ => rfl)) <|
  ni_row (ni_putA (T := TX0) (ty0 := tyX0) (b := false) (Or.inl rfl) rfl ni_dX0_init_27 (by decide) rfl (by decide) ni_uX0 tyX0_ok nmX0 ni_w184) ni_muPut <|
  ni_row (ni_aloadn ni_dX0_init_30 rfl) ni_muLd <|
  ni_row (ni_okP (ni_iconst ni_dX0_init_31 (by decide +kernel))) (ni_muP (ni_eqPush fun _ => rfl)) <|
  ni_row (ni_putA (T := TX0) (ty0 := tyX0) (b := false) (Or.inl rfl) rfl ni_dX0_init_32 (by decide) rfl (by decide) ni_uX0 tyX0_ok nmX0 ni_w186) ni_muPut <|
  ni_row (ni_ret ni_dX0_init_35) ni_muR <|
  ni_row0
def ni_pr57 : List (Nat × ni_S) := [(0, ni_sLd 3 0 1),
  (1, ni_sP (ni_gObj 4)),
  (4, ni_sLd 3 0 5),
  (5, ni_sLd 0 1 6),
  (6, ni_sPut 2 0 (.int) 9),
  (9, ni_sLd 3 0 10),
  (10, ni_sLd 0 2 11),
  (11, ni_sPut 2 1 (.int) 14),
  (14, ni_sLd 3 0 15),
  (15, ni_sLd 0 3 16),
  (16, ni_sPut 2 2 (.int) 19),
  (19, ni_sLd 3 0 20),
  (20, ni_sLd 3 4 22),
  (22, ni_sPut 2 3 (.array (.int)) 25),
  (25, ni_sLd 3 0 26),
  (26, ni_sLd 3 5 28),
  (28, ni_sPut 2 4 (.array (.int)) 31),
  (31, ni_sR (none))]
theorem ni_pk57 : ∀ r ∈ ni_pr57, ni_Ok xs yX1_init cX1_init 6 (none) [] r.1 r.2 ∧ ni_MU r.2 := ni_row (ni_aloadn ni_dX1_init_0 rfl) ni_muLd <|
  ni_row (ni_okP (ni_objInit ni_dX1_init_1 ni_w360 ni_w103 ni_w104)) (ni_muP ni_eqObj) <|
  ni_row (ni_aloadn ni_dX1_init_4 rfl) ni_muLd <|
  ni_row (ni_iloadn ni_dX1_init_5 rfl) ni_muLd <|
  ni_row (ni_putA (T := TX1) (ty0 := tyX1) (b := true) (Or.inr ⟨rfl, rfl, rfl⟩) rfl ni_dX1_init_6 (by decide) rfl (by decide) ni_uX1 tyX1_ok nmX1 ni_w361) ni_muPut <|
  ni_row (ni_aloadn ni_dX1_init_9 rfl) ni_muLd <|
  ni_row (ni_iloadn ni_dX1_init_10 rfl) ni_muLd <|
  ni_row (ni_putA (T := TX1) (ty0 := tyX1) (b := true) (Or.inr ⟨rfl, rfl, rfl⟩) rfl ni_dX1_init_11 (by decide) rfl (by decide) ni_uX1 tyX1_ok nmX1 ni_w364) ni_muPut <|
  ni_row (ni_aloadn ni_dX1_init_14 rfl) ni_muLd <|
  ni_row (ni_iloadn ni_dX1_init_15 rfl) ni_muLd <|
  ni_row (ni_putA (T := TX1) (ty0 := tyX1) (b := true) (Or.inr ⟨rfl, rfl, rfl⟩) rfl ni_dX1_init_16 (by decide) rfl (by decide) ni_uX1 tyX1_ok nmX1 ni_w367) ni_muPut <|
  ni_row (ni_aloadn ni_dX1_init_19 rfl) ni_muLd <|
  ni_row (ni_aload ni_dX1_init_20) ni_muLd <|
  ni_row (ni_putA (T := TX1) (ty0 := tyX1) (b := true) (Or.inr ⟨rfl, rfl, rfl⟩) rfl ni_dX1_init_22 (by decide) rfl (by decide) ni_uX1 tyX1_ok nmX1 ni_w368) ni_muPut <|
  ni_row (ni_aloadn ni_dX1_init_25 rfl) ni_muLd <|
  ni_row (ni_aload ni_dX1_init_26) ni_muLd <|
  ni_row (ni_putA (T := TX1) (ty0 := tyX1) (b := true) (Or.inr ⟨rfl, rfl, rfl⟩) rfl ni_dX1_init_28 (by decide) rfl (by decide) ni_uX1 tyX1_ok nmX1 ni_w370) ni_muPut <|
  ni_row (ni_ret ni_dX1_init_31) ni_muR <|
  ni_row0
def ni_pr58 : List (Nat × ni_S) := [(0, ni_sLd 3 0 1),
  (1, ni_sP (ni_gObj 4)),
  (4, ni_sLd 3 0 5),
  (5, ni_sP (ni_gPush (.int 8) 7)),
  (7, ni_sANew 7 10),
  (10, ni_sPut 3 0 (.array (.object "Switchyard$Letter")) 13),
  (13, ni_sLd 3 0 14),
  (14, ni_sP (ni_gPush (.int 8) 16)),
  (16, ni_sNewa 0 .int 18),
  (18, ni_sPut 3 1 (.array (.int)) 21),
  (21, ni_sLd 3 0 22),
  (22, ni_sP (ni_gPush (.int 21) 24)),
  (24, ni_sNewa 0 .int 26),
  (26, ni_sPut 3 3 (.array (.int)) 29),
  (29, ni_sP (ni_gPush (.int 0) 30)),
  (30, ni_sSt 0 1 31),
  (31, ni_sLd 0 1 32),
  (32, ni_sP (ni_gPush (.int 21) 34)),
  (34, ni_sP (ni_gIc (fun x y => decide (y ≤ x)) 50 37)),
  (37, ni_sLd 3 0 38),
  (38, ni_sGet 3 3 41),
  (41, ni_sLd 0 1 42),
  (42, ni_sP (ni_gPush (.int (-1)) 43)),
  (43, ni_sAst .int 0 44),
  (44, ni_sInc 1 (1) 47),
  (47, ni_sP (ni_gGo 31)),
  (50, ni_sR (none))]
theorem ni_pk58 : ∀ r ∈ ni_pr58, ni_Ok xs yX2_init cX2_init 2 (none) [] r.1 r.2 ∧ ni_MU r.2 := ni_row (ni_aloadn ni_dX2_init_0 rfl) ni_muLd <|
  ni_row (ni_okP (ni_objInit ni_dX2_init_1 ni_w244 ni_w103 ni_w104)) (ni_muP ni_eqObj) <|
  ni_row (ni_aloadn ni_dX2_init_4 rfl) ni_muLd <|
  ni_row (ni_okP (ni_bipush ni_dX2_init_5 (by decide +kernel))) (ni_muP (ni_eqPush fun _ => rfl)) <|
  ni_row (ni_anew ni_dX2_init_7 rfl ni_w245 (by decide)) ni_muANew <|
  ni_row (ni_putA (T := TX2) (ty0 := tyX2) (b := false) (Or.inl rfl) rfl ni_dX2_init_10 (by decide) rfl (by decide) ni_uX2 tyX2_ok nmX2 ni_w247) ni_muPut <|
  ni_row (ni_aloadn ni_dX2_init_13 rfl) ni_muLd <|
  ni_row (ni_okP (ni_bipush ni_dX2_init_14 (by decide +kernel))) (ni_muP (ni_eqPush fun _ => rfl)) <|
  ni_row (ni_newa ni_dX2_init_16 rfl rfl (by decide) ni_w143) ni_muNewa <|
  ni_row (ni_putA (T := TX2) (ty0 := tyX2) (b := false) (Or.inl rfl) rfl ni_dX2_init_18 (by decide) rfl (by decide) ni_uX2 tyX2_ok nmX2 ni_w249) ni_muPut <|
  ni_row (ni_aloadn ni_dX2_init_21 rfl) ni_muLd <|
  ni_row (ni_okP (ni_bipush ni_dX2_init_22 (by decide +kernel))) (ni_muP (ni_eqPush fun _ => rfl)) <|
  ni_row (ni_newa ni_dX2_init_24 rfl rfl (by decide) ni_w143) ni_muNewa <|
  ni_row (ni_putA (T := TX2) (ty0 := tyX2) (b := true) (Or.inr ⟨rfl, rfl, rfl⟩) rfl ni_dX2_init_26 (by decide) rfl (by decide) ni_uX2 tyX2_ok nmX2 ni_w253) ni_muPut <|
  ni_row (ni_okP (ni_iconst ni_dX2_init_29 (by decide +kernel))) (ni_muP (ni_eqPush fun _ => rfl)) <|
  ni_row (ni_istoren ni_dX2_init_30 rfl (by decide)) ni_muSt <|
  ni_row (ni_iloadn ni_dX2_init_31 rfl) ni_muLd <|
  ni_row (ni_okP (ni_bipush ni_dX2_init_32 (by decide +kernel))) (ni_muP (ni_eqPush fun _ => rfl)) <|
  ni_row (ni_okP (ni_ic_ge ni_dX2_init_34 (by decide))) (ni_muP ni_eqIc) <|
  ni_row (ni_aloadn ni_dX2_init_37 rfl) ni_muLd <|
  ni_row (ni_get (T := TX2) ni_dX2_init_38 (by decide) rfl (by decide) ni_uX2 ni_w253) ni_muGet <|
  ni_row (ni_iloadn ni_dX2_init_41 rfl) ni_muLd <|
  ni_row (ni_okP (ni_iconst ni_dX2_init_42 (by decide +kernel))) (ni_muP (ni_eqPush fun _ => rfl)) <|
  ni_row (ni_iast ni_dX2_init_43) ni_muAst <|
  ni_row (ni_iinc (n := 1) ni_dX2_init_44 (by decide)) ni_muInc <|
  ni_row (ni_okP (ni_goto ni_dX2_init_47 (by decide))) (ni_muP ni_eqGo) <|
  ni_row (ni_ret ni_dX2_init_50) ni_muR <|
  ni_row0
def ni_pr59 : List (Nat × ni_S) := [(0, ni_sLd 3 0 1),
  (1, ni_sP (ni_gObj 4)),
  (4, ni_sLd 3 0 5),
  (5, ni_sNew 6 [.null, .int 0, .int 0, .int 0, .int 0, .null, .null, .int 0, .int 0, .null, .int 0, .int 0, .int 0, .int 0] 8),
  (8, ni_sP (ni_gDup 9)),
  (9, ni_sI 64 0 12),
  (12, ni_sPut 4 6 (.object "Switchyard$Port") 15),
  (15, ni_sLd 3 0 16),
  (16, ni_sNew 6 [.null, .int 0, .int 0, .int 0, .int 0, .null, .null, .int 0, .int 0, .null, .int 0, .int 0, .int 0, .int 0] 19),
  (19, ni_sP (ni_gDup 20)),
  (20, ni_sI 64 0 23),
  (23, ni_sPut 4 7 (.object "Switchyard$Port") 26),
  (26, ni_sR (none))]
theorem ni_pk59 : ∀ r ∈ ni_pr59, ni_Ok xs yX3_init cX3_init 1 (none) [] r.1 r.2 ∧ ni_MU r.2 := ni_row (ni_aloadn ni_dX3_init_0 rfl) ni_muLd <|
  ni_row (ni_okP (ni_objInit ni_dX3_init_1 ni_w232 ni_w103 ni_w104)) (ni_muP ni_eqObj) <|
  ni_row (ni_aloadn ni_dX3_init_4 rfl) ni_muLd <|
  ni_row (ni_new (T := TX6) (ty0 := tyX6) ni_dX3_init_5 (by decide) rfl ni_uX6 tyX6_ok rfl (by decide +kernel) ni_w233 ni_w234 ni_w66) (ni_muNew fun _ => rfl) <|
  ni_row (ni_okP (ni_dup ni_dX3_init_8)) (ni_muP ni_eqDup) <|
  ni_row (ni_init (y := 64) ni_dX3_init_9 rfl rfl ni_w235 ni_w236 ni_w66 ni_w237 ⟨by decide +kernel, by decide +kernel, by decide +kernel⟩ (by decide) rfl) ni_muI <|
  ni_row (ni_putA (T := TX3) (ty0 := tyX3) (b := true) (Or.inr ⟨rfl, rfl, rfl⟩) rfl ni_dX3_init_12 (by decide) rfl (by decide) ni_uX3 tyX3_ok nmX3 ni_w331) ni_muPut <|
  ni_row (ni_aloadn ni_dX3_init_15 rfl) ni_muLd <|
  ni_row (ni_new (T := TX6) (ty0 := tyX6) ni_dX3_init_16 (by decide) rfl ni_uX6 tyX6_ok rfl (by decide +kernel) ni_w233 ni_w234 ni_w66) (ni_muNew fun _ => rfl) <|
  ni_row (ni_okP (ni_dup ni_dX3_init_19)) (ni_muP ni_eqDup) <|
  ni_row (ni_init (y := 64) ni_dX3_init_20 rfl rfl ni_w235 ni_w236 ni_w66 ni_w237 ⟨by decide +kernel, by decide +kernel, by decide +kernel⟩ (by decide) rfl) ni_muI <|
  ni_row (ni_putA (T := TX3) (ty0 := tyX3) (b := true) (Or.inr ⟨rfl, rfl, rfl⟩) rfl ni_dX3_init_23 (by decide) rfl (by decide) ni_uX3 tyX3_ok nmX3 ni_w334) ni_muPut <|
  ni_row (ni_ret ni_dX3_init_26) ni_muR <|
  ni_row0
end NIP
