section NIP
variable {xs : List Int32}
def ni_pr85_0 (xs : List Int32) : List (Nat × ni_S) := [(0, ni_sNew 10 [.null, .null] 3),
  (3, ni_sP (ni_gDup 4)),
  (4, ni_sI 0 0 7),
  (7, ni_sSt 3 1 8),
  (8, ni_sNew 18 [.null, .int 0] 11),
  (11, ni_sP (ni_gDup 12)),
  (12, ni_sI 110 0 15),
  (15, ni_sSt 3 2 16),
  (16, ni_sP (ni_gPush (.int 1) 17)),
  (17, ni_sNewa 1 .long 19),
  (19, ni_sSt 3 3 20),
  (20, ni_sP (ni_gPush (.int 1) 21)),
  (21, ni_sNewa 2 .double 23),
  (23, ni_sSt 3 4 25),
  (25, ni_sP (ni_gPush (.int 0) 26)),
  (26, ni_sSt 0 5 28)]
theorem ni_pk85_0 : ∀ r ∈ ni_pr85_0 xs, ni_Ok xs ⟨"SwitchyardLaw", "law", "([I)Z"⟩ cL_law 9 (some .boolean) [] r.1 r.2 ∧ ni_MU r.2 := ni_row (ni_new (T := TX11) (ty0 := tyX11) ni_dL_law_0 (by decide) rfl ni_uX11 tyX11_ok rfl (by decide +kernel) ni_w97 ni_w98 ni_w61) (ni_muNew fun _ => rfl) <|
  ni_row (ni_okP (ni_dup ni_dL_law_3)) (ni_muP ni_eqDup) <|
  ni_row (ni_init (y := 0) ni_dL_law_4 rfl rfl ni_w99 ni_w100 ni_w61 ni_w101 ⟨by decide +kernel, by decide +kernel, by decide +kernel⟩ (by decide) rfl) ni_muI <|
  ni_row (ni_astoren ni_dL_law_7 rfl (by decide)) ni_muSt <|
  ni_row (ni_new (T := TX19) (ty0 := tyX19) ni_dL_law_8 (by decide) rfl ni_uX19 tyX19_ok rfl (by decide +kernel) ni_w1365 ni_w1366 ni_w71) (ni_muNew fun _ => rfl) <|
  ni_row (ni_okP (ni_dup ni_dL_law_11)) (ni_muP ni_eqDup) <|
  ni_row (ni_init (y := 110) ni_dL_law_12 rfl rfl ni_w1367 ni_w1368 ni_w71 ni_w1369 ⟨by decide +kernel, by decide +kernel, by decide +kernel⟩ (by decide) rfl) ni_muI <|
  ni_row (ni_astoren ni_dL_law_15 rfl (by decide)) ni_muSt <|
  ni_row (ni_okP (ni_iconst ni_dL_law_16 (by decide +kernel))) (ni_muP (ni_eqPush fun _ => rfl)) <|
  ni_row (ni_newa ni_dL_law_17 rfl rfl (by decide) ni_w2367) ni_muNewa <|
  ni_row (ni_astoren ni_dL_law_19 rfl (by decide)) ni_muSt <|
  ni_row (ni_okP (ni_iconst ni_dL_law_20 (by decide +kernel))) (ni_muP (ni_eqPush fun _ => rfl)) <|
  ni_row (ni_newa ni_dL_law_21 rfl rfl (by decide) ni_w2368) ni_muNewa <|
  ni_row (ni_astore ni_dL_law_23 (by decide)) ni_muSt <|
  ni_row (ni_okP (ni_iconst ni_dL_law_25 (by decide +kernel))) (ni_muP (ni_eqPush fun _ => rfl)) <|
  ni_row (ni_istore ni_dL_law_26 (by decide)) ni_muSt <|
  ni_row0
def ni_pr85_1 (xs : List Int32) : List (Nat × ni_S) := [(28, ni_sLd 0 5 30),
  (30, ni_sLd 3 0 31),
  (31, ni_sSln xs 32),
  (32, ni_sP (ni_gPush (.int 6) 34)),
  (34, ni_sP (ni_gI (fun x y => x - y) 35)),
  (35, ni_sP (ni_gIc (fun x y => decide (y < x)) 3323 38)),
  (38, ni_sLd 3 0 39),
  (39, ni_sLd 0 5 41),
  (41, ni_sSld xs 42),
  (42, ni_sP (ni_gPush (.int 63) 44)),
  (44, ni_sP (ni_gI (fun x y => x &&& y) 45)),
  (45, ni_sP (ni_gSw (ni_tsf 0 3317 [260, 304, 408, 476, 567, 647, 703, 795, 851, 987, 1095, 1187, 1279, 1359, 1415, 1428, 1441, 1454, 1467, 1480, 1493, 1556, 1624, 1637, 1650, 1718, 1786, 1842, 1898, 1954, 2022, 2090, 2158, 2226, 2282, 2366, 2462, 2546, 2642, 2698, 2754, 2810, 2866, 2922, 2990, 3046, 3123, 3179, 3247, 3303])))]
theorem ni_pk85_1 : ∀ r ∈ ni_pr85_1 xs, ni_Ok xs ⟨"SwitchyardLaw", "law", "([I)Z"⟩ cL_law 9 (some .boolean) [] r.1 r.2 ∧ ni_MU r.2 := ni_row (ni_iload ni_dL_law_28) ni_muLd <|
  ni_row (ni_aloadn ni_dL_law_30 rfl) ni_muLd <|
  ni_row (ni_slen ni_dL_law_31) ni_muSln <|
  ni_row (ni_okP (ni_bipush ni_dL_law_32 (by decide +kernel))) (ni_muP (ni_eqPush fun _ => rfl)) <|
  ni_row (ni_okP (ni_isub ni_dL_law_34)) (ni_muP ni_eqI) <|
  ni_row (ni_okP (ni_ic_gt ni_dL_law_35 (by decide))) (ni_muP ni_eqIc) <|
  ni_row (ni_aloadn ni_dL_law_38 rfl) ni_muLd <|
  ni_row (ni_iload ni_dL_law_39) ni_muLd <|
  ni_row (ni_sld ni_dL_law_41) ni_muSld <|
  ni_row (ni_okP (ni_bipush ni_dL_law_42 (by decide +kernel))) (ni_muP (ni_eqPush fun _ => rfl)) <|
  ni_row (ni_okP (ni_iand ni_dL_law_44)) (ni_muP ni_eqI) <|
  ni_row (ni_okP (ni_tsOk ni_dL_law_45 (by decide) (by decide) (by decide))) (ni_muP ni_eqSw) <|
  ni_row0
def ni_pr85_2 (xs : List Int32) : List (Nat × ni_S) := [(260, ni_sLd 3 1 261),
  (261, ni_sLd 3 3 262),
  (262, ni_sC 71 2 265),
  (265, ni_sSt 0 6 267),
  (267, ni_sLd 3 2 268),
  (268, ni_sV 115 0 18 271),
  (271, ni_sSt 0 7 273),
  (273, ni_sLd 3 2 274),
  (274, ni_sV 167 0 18 277),
  (277, ni_sLd 0 6 279),
  (279, ni_sP (ni_gIc (fun x y => decide (x = y)) 284 282)),
  (284, ni_sLd 0 6 286),
  (286, ni_sP (ni_gIf (fun x => decide (¬ x = 0)) 301 289)),
  (289, ni_sLd 3 3 290),
  (290, ni_sP (ni_gPush (.int 0) 291)),
  (291, ni_sAld .long 1 292),
  (292, ni_sLd 0 7 294),
  (294, ni_sP (ni_gU (fun x => .long x.toInt64) 295)),
  (295, ni_sP (ni_gJ (fun x y => .int (lg_cmp x y)) 296)),
  (296, ni_sP (ni_gIf (fun x => decide (x = 0)) 301 299)),
  (301, ni_sP (ni_gGo 3317))]
theorem ni_pk85_2 : ∀ r ∈ ni_pr85_2 xs, ni_Ok xs ⟨"SwitchyardLaw", "law", "([I)Z"⟩ cL_law 9 (some .boolean) [] r.1 r.2 ∧ ni_MU r.2 := ni_row (ni_aloadn ni_dL_law_260 rfl) ni_muLd <|
  ni_row (ni_aloadn ni_dL_law_261 rfl) ni_muLd <|
  ni_row (ni_statX (y := 71) ni_dL_law_262 ni_w623 ni_w624 ni_w60 ni_w625 ⟨by decide +kernel, by decide +kernel, by decide +kernel⟩ (by decide) (by decide)) ni_muC <|
  ni_row (ni_istore ni_dL_law_265 (by decide)) ni_muSt <|
  ni_row (ni_aloadn ni_dL_law_267 rfl) ni_muLd <|
  ni_row (ni_virt (y := 115) (T := TX19) ni_dL_law_268 (by decide) rfl rfl ni_w1580 ni_w1581 ni_w1582 ni_w71 ni_w1583 ⟨by decide +kernel, by decide +kernel, by decide +kernel⟩ (by decide) rfl) (ni_muV (by decide)) <|
  ni_row (ni_istore ni_dL_law_271 (by decide)) ni_muSt <|
  ni_row (ni_aloadn ni_dL_law_273 rfl) ni_muLd <|
  ni_row (ni_virt (y := 167) (T := TX19) ni_dL_law_274 (by decide) rfl rfl ni_w1576 ni_w1577 ni_w1578 ni_w71 ni_w1579 ⟨by decide +kernel, by decide +kernel, by decide +kernel⟩ (by decide) rfl) (ni_muV (by decide)) <|
  ni_row (ni_iload ni_dL_law_277) ni_muLd <|
  ni_row (ni_okP (ni_ic_eq ni_dL_law_279 (by decide))) (ni_muP ni_eqIc) <|
  ni_row (ni_iload ni_dL_law_284) ni_muLd <|
  ni_row (ni_okP (ni_if_ne ni_dL_law_286 (by decide))) (ni_muP ni_eqIf) <|
  ni_row (ni_aloadn ni_dL_law_289 rfl) ni_muLd <|
  ni_row (ni_okP (ni_iconst ni_dL_law_290 (by decide +kernel))) (ni_muP (ni_eqPush fun _ => rfl)) <|
  ni_row (ni_lald ni_dL_law_291) ni_muAld <|
  ni_row (ni_iload ni_dL_law_292) ni_muLd <|
  ni_row (ni_okP (ni_i2l ni_dL_law_294)) (ni_muP (ni_eqU fun _ _ => rfl)) <|
  ni_row (ni_okP (ni_lcmp ni_dL_law_295)) (ni_muP (ni_eqJ fun _ _ _ => rfl)) <|
  ni_row (ni_okP (ni_if_eq ni_dL_law_296 (by decide))) (ni_muP ni_eqIf) <|
  ni_row (ni_okP (ni_goto ni_dL_law_301 (by decide))) (ni_muP ni_eqGo) <|
  ni_row0
def ni_pr85_3 (xs : List Int32) : List (Nat × ni_S) := [(304, ni_sLd 3 1 305),
  (305, ni_sLd 3 0 306),
  (306, ni_sLd 0 5 308),
  (308, ni_sP (ni_gPush (.int 1) 309)),
  (309, ni_sP (ni_gI (fun x y => x + y) 310)),
  (310, ni_sSld xs 311),
  (311, ni_sLd 3 0 312),
  (312, ni_sLd 0 5 314),
  (314, ni_sP (ni_gPush (.int 2) 315)),
  (315, ni_sP (ni_gI (fun x y => x + y) 316)),
  (316, ni_sSld xs 317),
  (317, ni_sLd 3 0 318),
  (318, ni_sLd 0 5 320),
  (320, ni_sP (ni_gPush (.int 3) 321)),
  (321, ni_sP (ni_gI (fun x y => x + y) 322)),
  (322, ni_sSld xs 323),
  (323, ni_sLd 3 0 324),
  (324, ni_sLd 0 5 326),
  (326, ni_sP (ni_gPush (.int 4) 327)),
  (327, ni_sP (ni_gI (fun x y => x + y) 328)),
  (328, ni_sSld xs 329),
  (329, ni_sLd 3 0 330),
  (330, ni_sLd 0 5 332),
  (332, ni_sP (ni_gPush (.int 5) 333)),
  (333, ni_sP (ni_gI (fun x y => x + y) 334)),
  (334, ni_sSld xs 335),
  (335, ni_sLd 3 3 336),
  (336, ni_sC 69 7 339),
  (339, ni_sSt 0 6 341),
  (341, ni_sLd 3 2 342),
  (342, ni_sLd 3 0 343),
  (343, ni_sLd 0 5 345),
  (345, ni_sP (ni_gPush (.int 1) 346)),
  (346, ni_sP (ni_gI (fun x y => x + y) 347)),
  (347, ni_sSld xs 348),
  (348, ni_sLd 3 0 349),
  (349, ni_sLd 0 5 351),
  (351, ni_sP (ni_gPush (.int 2) 352)),
  (352, ni_sP (ni_gI (fun x y => x + y) 353)),
  (353, ni_sSld xs 354),
  (354, ni_sLd 3 0 355),
  (355, ni_sLd 0 5 357),
  (357, ni_sP (ni_gPush (.int 3) 358)),
  (358, ni_sP (ni_gI (fun x y => x + y) 359)),
  (359, ni_sSld xs 360),
  (360, ni_sLd 3 0 361),
  (361, ni_sLd 0 5 363),
  (363, ni_sP (ni_gPush (.int 4) 364)),
  (364, ni_sP (ni_gI (fun x y => x + y) 365)),
  (365, ni_sSld xs 366),
  (366, ni_sLd 3 0 367),
  (367, ni_sLd 0 5 369),
  (369, ni_sP (ni_gPush (.int 5) 370)),
  (370, ni_sP (ni_gI (fun x y => x + y) 371)),
  (371, ni_sSld xs 372),
  (372, ni_sV 113 5 18 375),
  (375, ni_sSt 0 7 377),
  (377, ni_sLd 3 2 378),
  (378, ni_sV 167 0 18 381),
  (381, ni_sLd 0 6 383),
  (383, ni_sP (ni_gIc (fun x y => decide (x = y)) 388 386)),
  (388, ni_sLd 0 6 390),
  (390, ni_sP (ni_gIf (fun x => decide (¬ x = 0)) 405 393)),
  (405, ni_sP (ni_gGo 3317))]
theorem ni_pk85_3 : ∀ r ∈ ni_pr85_3 xs, ni_Ok xs ⟨"SwitchyardLaw", "law", "([I)Z"⟩ cL_law 9 (some .boolean) [] r.1 r.2 ∧ ni_MU r.2 := ni_row (ni_aloadn ni_dL_law_304 rfl) ni_muLd <|
  ni_row (ni_aloadn ni_dL_law_305 rfl) ni_muLd <|
  ni_row (ni_iload ni_dL_law_306) ni_muLd <|
  ni_row (ni_okP (ni_iconst ni_dL_law_308 (by decide +kernel))) (ni_muP (ni_eqPush fun _ => rfl)) <|
  ni_row (ni_okP (ni_iadd ni_dL_law_309)) (ni_muP ni_eqI) <|
  ni_row (ni_sld ni_dL_law_310) ni_muSld <|
  ni_row (ni_aloadn ni_dL_law_311 rfl) ni_muLd <|
  ni_row (ni_iload ni_dL_law_312) ni_muLd <|
  ni_row (ni_okP (ni_iconst ni_dL_law_314 (by decide +kernel))) (ni_muP (ni_eqPush fun _ => rfl)) <|
  ni_row (ni_okP (ni_iadd ni_dL_law_315)) (ni_muP ni_eqI) <|
  ni_row (ni_sld ni_dL_law_316) ni_muSld <|
  ni_row (ni_aloadn ni_dL_law_317 rfl) ni_muLd <|
  ni_row (ni_iload ni_dL_law_318) ni_muLd <|
  ni_row (ni_okP (ni_iconst ni_dL_law_320 (by decide +kernel))) (ni_muP (ni_eqPush fun _ => rfl)) <|
  ni_row (ni_okP (ni_iadd ni_dL_law_321)) (ni_muP ni_eqI) <|
  ni_row (ni_sld ni_dL_law_322) ni_muSld <|
  ni_row (ni_aloadn ni_dL_law_323 rfl) ni_muLd <|
  ni_row (ni_iload ni_dL_law_324) ni_muLd <|
  ni_row (ni_okP (ni_iconst ni_dL_law_326 (by decide +kernel))) (ni_muP (ni_eqPush fun _ => rfl)) <|
  ni_row (ni_okP (ni_iadd ni_dL_law_327)) (ni_muP ni_eqI) <|
  ni_row (ni_sld ni_dL_law_328) ni_muSld <|
  ni_row (ni_aloadn ni_dL_law_329 rfl) ni_muLd <|
  ni_row (ni_iload ni_dL_law_330) ni_muLd <|
  ni_row (ni_okP (ni_iconst ni_dL_law_332 (by decide +kernel))) (ni_muP (ni_eqPush fun _ => rfl)) <|
  ni_row (ni_okP (ni_iadd ni_dL_law_333)) (ni_muP ni_eqI) <|
  ni_row (ni_sld ni_dL_law_334) ni_muSld <|
  ni_row (ni_aloadn ni_dL_law_335 rfl) ni_muLd <|
  ni_row (ni_statX (y := 69) ni_dL_law_336 ni_w703 ni_w704 ni_w60 ni_w705 ⟨by decide +kernel, by decide +kernel, by decide +kernel⟩ (by decide) (by decide)) ni_muC <|
  ni_row (ni_istore ni_dL_law_339 (by decide)) ni_muSt <|
  ni_row (ni_aloadn ni_dL_law_341 rfl) ni_muLd <|
  ni_row (ni_aloadn ni_dL_law_342 rfl) ni_muLd <|
  ni_row (ni_iload ni_dL_law_343) ni_muLd <|
  ni_row (ni_okP (ni_iconst ni_dL_law_345 (by decide +kernel))) (ni_muP (ni_eqPush fun _ => rfl)) <|
  ni_row (ni_okP (ni_iadd ni_dL_law_346)) (ni_muP ni_eqI) <|
  ni_row (ni_sld ni_dL_law_347) ni_muSld <|
  ni_row (ni_aloadn ni_dL_law_348 rfl) ni_muLd <|
  ni_row (ni_iload ni_dL_law_349) ni_muLd <|
  ni_row (ni_okP (ni_iconst ni_dL_law_351 (by decide +kernel))) (ni_muP (ni_eqPush fun _ => rfl)) <|
  ni_row (ni_okP (ni_iadd ni_dL_law_352)) (ni_muP ni_eqI) <|
  ni_row (ni_sld ni_dL_law_353) ni_muSld <|
  ni_row (ni_aloadn ni_dL_law_354 rfl) ni_muLd <|
  ni_row (ni_iload ni_dL_law_355) ni_muLd <|
  ni_row (ni_okP (ni_iconst ni_dL_law_357 (by decide +kernel))) (ni_muP (ni_eqPush fun _ => rfl)) <|
  ni_row (ni_okP (ni_iadd ni_dL_law_358)) (ni_muP ni_eqI) <|
  ni_row (ni_sld ni_dL_law_359) ni_muSld <|
  ni_row (ni_aloadn ni_dL_law_360 rfl) ni_muLd <|
  ni_row (ni_iload ni_dL_law_361) ni_muLd <|
  ni_row (ni_okP (ni_iconst ni_dL_law_363 (by decide +kernel))) (ni_muP (ni_eqPush fun _ => rfl)) <|
  ni_row (ni_okP (ni_iadd ni_dL_law_364)) (ni_muP ni_eqI) <|
  ni_row (ni_sld ni_dL_law_365) ni_muSld <|
  ni_row (ni_aloadn ni_dL_law_366 rfl) ni_muLd <|
  ni_row (ni_iload ni_dL_law_367) ni_muLd <|
  ni_row (ni_okP (ni_iconst ni_dL_law_369 (by decide +kernel))) (ni_muP (ni_eqPush fun _ => rfl)) <|
  ni_row (ni_okP (ni_iadd ni_dL_law_370)) (ni_muP ni_eqI) <|
  ni_row (ni_sld ni_dL_law_371) ni_muSld <|
  ni_row (ni_virt (y := 113) (T := TX19) ni_dL_law_372 (by decide) rfl rfl ni_w1592 ni_w1593 ni_w1594 ni_w71 ni_w1595 ⟨by decide +kernel, by decide +kernel, by decide +kernel⟩ (by decide) rfl) (ni_muV (by decide)) <|
  ni_row (ni_istore ni_dL_law_375 (by decide)) ni_muSt <|
  ni_row (ni_aloadn ni_dL_law_377 rfl) ni_muLd <|
  ni_row (ni_virt (y := 167) (T := TX19) ni_dL_law_378 (by decide) rfl rfl ni_w1576 ni_w1577 ni_w1578 ni_w71 ni_w1579 ⟨by decide +kernel, by decide +kernel, by decide +kernel⟩ (by decide) rfl) (ni_muV (by decide)) <|
  ni_row (ni_iload ni_dL_law_381) ni_muLd <|
  ni_row (ni_okP (ni_ic_eq ni_dL_law_383 (by decide))) (ni_muP ni_eqIc) <|
  ni_row (ni_iload ni_dL_law_388) ni_muLd <|
  ni_row (ni_okP (ni_if_ne ni_dL_law_390 (by decide))) (ni_muP ni_eqIf) <|
  ni_row (ni_okP (ni_goto ni_dL_law_405 (by decide))) (ni_muP ni_eqGo) <|
  ni_row0
def ni_pr85_4 (xs : List Int32) : List (Nat × ni_S) := [(408, ni_sLd 3 1 409),
  (409, ni_sLd 3 0 410),
  (410, ni_sLd 0 5 412),
  (412, ni_sP (ni_gPush (.int 1) 413)),
  (413, ni_sP (ni_gI (fun x y => x + y) 414)),
  (414, ni_sSld xs 415),
  (415, ni_sLd 3 0 416),
  (416, ni_sLd 0 5 418),
  (418, ni_sP (ni_gPush (.int 2) 419)),
  (419, ni_sP (ni_gI (fun x y => x + y) 420)),
  (420, ni_sSld xs 421),
  (421, ni_sLd 3 3 422),
  (422, ni_sC 97 4 425),
  (425, ni_sSt 0 6 427),
  (427, ni_sLd 3 2 428),
  (428, ni_sLd 3 0 429),
  (429, ni_sLd 0 5 431),
  (431, ni_sP (ni_gPush (.int 1) 432)),
  (432, ni_sP (ni_gI (fun x y => x + y) 433)),
  (433, ni_sSld xs 434),
  (434, ni_sLd 3 0 435),
  (435, ni_sLd 0 5 437),
  (437, ni_sP (ni_gPush (.int 2) 438)),
  (438, ni_sP (ni_gI (fun x y => x + y) 439)),
  (439, ni_sSld xs 440),
  (440, ni_sV 156 2 18 443),
  (443, ni_sSt 0 7 445),
  (445, ni_sLd 3 2 446),
  (446, ni_sV 167 0 18 449),
  (449, ni_sLd 0 6 451),
  (451, ni_sP (ni_gIc (fun x y => decide (x = y)) 456 454)),
  (456, ni_sLd 0 6 458),
  (458, ni_sP (ni_gIf (fun x => decide (¬ x = 0)) 473 461)),
  (473, ni_sP (ni_gGo 3317))]
theorem ni_pk85_4 : ∀ r ∈ ni_pr85_4 xs, ni_Ok xs ⟨"SwitchyardLaw", "law", "([I)Z"⟩ cL_law 9 (some .boolean) [] r.1 r.2 ∧ ni_MU r.2 := ni_row (ni_aloadn ni_dL_law_408 rfl) ni_muLd <|
  ni_row (ni_aloadn ni_dL_law_409 rfl) ni_muLd <|
  ni_row (ni_iload ni_dL_law_410) ni_muLd <|
  ni_row (ni_okP (ni_iconst ni_dL_law_412 (by decide +kernel))) (ni_muP (ni_eqPush fun _ => rfl)) <|
  ni_row (ni_okP (ni_iadd ni_dL_law_413)) (ni_muP ni_eqI) <|
  ni_row (ni_sld ni_dL_law_414) ni_muSld <|
  ni_row (ni_aloadn ni_dL_law_415 rfl) ni_muLd <|
  ni_row (ni_iload ni_dL_law_416) ni_muLd <|
  ni_row (ni_okP (ni_iconst ni_dL_law_418 (by decide +kernel))) (ni_muP (ni_eqPush fun _ => rfl)) <|
  ni_row (ni_okP (ni_iadd ni_dL_law_419)) (ni_muP ni_eqI) <|
  ni_row (ni_sld ni_dL_law_420) ni_muSld <|
  ni_row (ni_aloadn ni_dL_law_421 rfl) ni_muLd <|
  ni_row (ni_statX (y := 97) ni_dL_law_422 ni_w804 ni_w805 ni_w60 ni_w806 ⟨by decide +kernel, by decide +kernel, by decide +kernel⟩ (by decide) (by decide)) ni_muC <|
  ni_row (ni_istore ni_dL_law_425 (by decide)) ni_muSt <|
  ni_row (ni_aloadn ni_dL_law_427 rfl) ni_muLd <|
  ni_row (ni_aloadn ni_dL_law_428 rfl) ni_muLd <|
  ni_row (ni_iload ni_dL_law_429) ni_muLd <|
  ni_row (ni_okP (ni_iconst ni_dL_law_431 (by decide +kernel))) (ni_muP (ni_eqPush fun _ => rfl)) <|
  ni_row (ni_okP (ni_iadd ni_dL_law_432)) (ni_muP ni_eqI) <|
  ni_row (ni_sld ni_dL_law_433) ni_muSld <|
  ni_row (ni_aloadn ni_dL_law_434 rfl) ni_muLd <|
  ni_row (ni_iload ni_dL_law_435) ni_muLd <|
  ni_row (ni_okP (ni_iconst ni_dL_law_437 (by decide +kernel))) (ni_muP (ni_eqPush fun _ => rfl)) <|
  ni_row (ni_okP (ni_iadd ni_dL_law_438)) (ni_muP ni_eqI) <|
  ni_row (ni_sld ni_dL_law_439) ni_muSld <|
  ni_row (ni_virt (y := 156) (T := TX19) ni_dL_law_440 (by decide) rfl rfl ni_w1752 ni_w1753 ni_w1754 ni_w71 ni_w1755 ⟨by decide +kernel, by decide +kernel, by decide +kernel⟩ (by decide) rfl) (ni_muV (by decide)) <|
  ni_row (ni_istore ni_dL_law_443 (by decide)) ni_muSt <|
  ni_row (ni_aloadn ni_dL_law_445 rfl) ni_muLd <|
  ni_row (ni_virt (y := 167) (T := TX19) ni_dL_law_446 (by decide) rfl rfl ni_w1576 ni_w1577 ni_w1578 ni_w71 ni_w1579 ⟨by decide +kernel, by decide +kernel, by decide +kernel⟩ (by decide) rfl) (ni_muV (by decide)) <|
  ni_row (ni_iload ni_dL_law_449) ni_muLd <|
  ni_row (ni_okP (ni_ic_eq ni_dL_law_451 (by decide))) (ni_muP ni_eqIc) <|
  ni_row (ni_iload ni_dL_law_456) ni_muLd <|
  ni_row (ni_okP (ni_if_ne ni_dL_law_458 (by decide))) (ni_muP ni_eqIf) <|
  ni_row (ni_okP (ni_goto ni_dL_law_473 (by decide))) (ni_muP ni_eqGo) <|
  ni_row0
def ni_pr85_5 (xs : List Int32) : List (Nat × ni_S) := [(476, ni_sLd 3 1 477),
  (477, ni_sLd 3 0 478),
  (478, ni_sLd 0 5 480),
  (480, ni_sP (ni_gPush (.int 1) 481)),
  (481, ni_sP (ni_gI (fun x y => x + y) 482)),
  (482, ni_sSld xs 483),
  (483, ni_sLd 3 0 484),
  (484, ni_sLd 0 5 486),
  (486, ni_sP (ni_gPush (.int 2) 487)),
  (487, ni_sP (ni_gI (fun x y => x + y) 488)),
  (488, ni_sSld xs 489),
  (489, ni_sP (ni_gIf (fun x => decide (x = 0)) 496 492)),
  (492, ni_sP (ni_gPush (.int 1) 493)),
  (493, ni_sP (ni_gGo 497)),
  (496, ni_sP (ni_gPush (.int 0) 497)),
  (497, ni_sLd 3 3 498),
  (498, ni_sC 99 4 501),
  (501, ni_sSt 0 6 503),
  (503, ni_sLd 3 2 504),
  (504, ni_sLd 3 0 505),
  (505, ni_sLd 0 5 507),
  (507, ni_sP (ni_gPush (.int 1) 508)),
  (508, ni_sP (ni_gI (fun x y => x + y) 509)),
  (509, ni_sSld xs 510),
  (510, ni_sLd 3 0 511),
  (511, ni_sLd 0 5 513),
  (513, ni_sP (ni_gPush (.int 2) 514)),
  (514, ni_sP (ni_gI (fun x y => x + y) 515)),
  (515, ni_sSld xs 516),
  (516, ni_sP (ni_gIf (fun x => decide (x = 0)) 523 519)),
  (519, ni_sP (ni_gPush (.int 1) 520)),
  (520, ni_sP (ni_gGo 524)),
  (523, ni_sP (ni_gPush (.int 0) 524)),
  (524, ni_sV 158 2 18 527),
  (527, ni_sSt 0 7 529),
  (529, ni_sLd 3 2 530),
  (530, ni_sV 167 0 18 533),
  (533, ni_sLd 0 6 535),
  (535, ni_sP (ni_gIc (fun x y => decide (x = y)) 540 538)),
  (540, ni_sLd 0 6 542),
  (542, ni_sP (ni_gIf (fun x => decide (¬ x = 0)) 564 545)),
  (564, ni_sP (ni_gGo 3317))]
theorem ni_pk85_5 : ∀ r ∈ ni_pr85_5 xs, ni_Ok xs ⟨"SwitchyardLaw", "law", "([I)Z"⟩ cL_law 9 (some .boolean) [] r.1 r.2 ∧ ni_MU r.2 := ni_row (ni_aloadn ni_dL_law_476 rfl) ni_muLd <|
  ni_row (ni_aloadn ni_dL_law_477 rfl) ni_muLd <|
  ni_row (ni_iload ni_dL_law_478) ni_muLd <|
  ni_row (ni_okP (ni_iconst ni_dL_law_480 (by decide +kernel))) (ni_muP (ni_eqPush fun _ => rfl)) <|
  ni_row (ni_okP (ni_iadd ni_dL_law_481)) (ni_muP ni_eqI) <|
  ni_row (ni_sld ni_dL_law_482) ni_muSld <|
  ni_row (ni_aloadn ni_dL_law_483 rfl) ni_muLd <|
  ni_row (ni_iload ni_dL_law_484) ni_muLd <|
  ni_row (ni_okP (ni_iconst ni_dL_law_486 (by decide +kernel))) (ni_muP (ni_eqPush fun _ => rfl)) <|
  ni_row (ni_okP (ni_iadd ni_dL_law_487)) (ni_muP ni_eqI) <|
  ni_row (ni_sld ni_dL_law_488) ni_muSld <|
  ni_row (ni_okP (ni_if_eq ni_dL_law_489 (by decide))) (ni_muP ni_eqIf) <|
  ni_row (ni_okP (ni_iconst ni_dL_law_492 (by decide +kernel))) (ni_muP (ni_eqPush fun _ => rfl)) <|
  ni_row (ni_okP (ni_goto ni_dL_law_493 (by decide))) (ni_muP ni_eqGo) <|
  ni_row (ni_okP (ni_iconst ni_dL_law_496 (by decide +kernel))) (ni_muP (ni_eqPush fun _ => rfl)) <|
  ni_row (ni_aloadn ni_dL_law_497 rfl) ni_muLd <|
  ni_row (ni_statX (y := 99) ni_dL_law_498 ni_w819 ni_w820 ni_w60 ni_w821 ⟨by decide +kernel, by decide +kernel, by decide +kernel⟩ (by decide) (by decide)) ni_muC <|
  ni_row (ni_istore ni_dL_law_501 (by decide)) ni_muSt <|
  ni_row (ni_aloadn ni_dL_law_503 rfl) ni_muLd <|
  ni_row (ni_aloadn ni_dL_law_504 rfl) ni_muLd <|
  ni_row (ni_iload ni_dL_law_505) ni_muLd <|
  ni_row (ni_okP (ni_iconst ni_dL_law_507 (by decide +kernel))) (ni_muP (ni_eqPush fun _ => rfl)) <|
  ni_row (ni_okP (ni_iadd ni_dL_law_508)) (ni_muP ni_eqI) <|
  ni_row (ni_sld ni_dL_law_509) ni_muSld <|
  ni_row (ni_aloadn ni_dL_law_510 rfl) ni_muLd <|
  ni_row (ni_iload ni_dL_law_511) ni_muLd <|
  ni_row (ni_okP (ni_iconst ni_dL_law_513 (by decide +kernel))) (ni_muP (ni_eqPush fun _ => rfl)) <|
  ni_row (ni_okP (ni_iadd ni_dL_law_514)) (ni_muP ni_eqI) <|
  ni_row (ni_sld ni_dL_law_515) ni_muSld <|
  ni_row (ni_okP (ni_if_eq ni_dL_law_516 (by decide))) (ni_muP ni_eqIf) <|
  ni_row (ni_okP (ni_iconst ni_dL_law_519 (by decide +kernel))) (ni_muP (ni_eqPush fun _ => rfl)) <|
  ni_row (ni_okP (ni_goto ni_dL_law_520 (by decide))) (ni_muP ni_eqGo) <|
  ni_row (ni_okP (ni_iconst ni_dL_law_523 (by decide +kernel))) (ni_muP (ni_eqPush fun _ => rfl)) <|
  ni_row (ni_virt (y := 158) (T := TX19) ni_dL_law_524 (by decide) rfl rfl ni_w1761 ni_w1762 ni_w1763 ni_w71 ni_w1764 ⟨by decide +kernel, by decide +kernel, by decide +kernel⟩ (by decide) rfl) (ni_muV (by decide)) <|
  ni_row (ni_istore ni_dL_law_527 (by decide)) ni_muSt <|
  ni_row (ni_aloadn ni_dL_law_529 rfl) ni_muLd <|
  ni_row (ni_virt (y := 167) (T := TX19) ni_dL_law_530 (by decide) rfl rfl ni_w1576 ni_w1577 ni_w1578 ni_w71 ni_w1579 ⟨by decide +kernel, by decide +kernel, by decide +kernel⟩ (by decide) rfl) (ni_muV (by decide)) <|
  ni_row (ni_iload ni_dL_law_533) ni_muLd <|
  ni_row (ni_okP (ni_ic_eq ni_dL_law_535 (by decide))) (ni_muP ni_eqIc) <|
  ni_row (ni_iload ni_dL_law_540) ni_muLd <|
  ni_row (ni_okP (ni_if_ne ni_dL_law_542 (by decide))) (ni_muP ni_eqIf) <|
  ni_row (ni_okP (ni_goto ni_dL_law_564 (by decide))) (ni_muP ni_eqGo) <|
  ni_row0
def ni_pr85_6 (xs : List Int32) : List (Nat × ni_S) := [(567, ni_sLd 3 1 568),
  (568, ni_sLd 3 0 569),
  (569, ni_sLd 0 5 571),
  (571, ni_sP (ni_gPush (.int 1) 572)),
  (572, ni_sP (ni_gI (fun x y => x + y) 573)),
  (573, ni_sSld xs 574),
  (574, ni_sLd 3 0 575),
  (575, ni_sLd 0 5 577),
  (577, ni_sP (ni_gPush (.int 2) 578)),
  (578, ni_sP (ni_gI (fun x y => x + y) 579)),
  (579, ni_sSld xs 580),
  (580, ni_sLd 3 0 581),
  (581, ni_sLd 0 5 583),
  (583, ni_sP (ni_gPush (.int 3) 584)),
  (584, ni_sP (ni_gI (fun x y => x + y) 585)),
  (585, ni_sSld xs 586),
  (586, ni_sLd 3 3 587),
  (587, ni_sC 70 5 590),
  (590, ni_sSt 0 6 592),
  (592, ni_sLd 3 2 593),
  (593, ni_sLd 3 0 594),
  (594, ni_sLd 0 5 596),
  (596, ni_sP (ni_gPush (.int 1) 597)),
  (597, ni_sP (ni_gI (fun x y => x + y) 598)),
  (598, ni_sSld xs 599),
  (599, ni_sLd 3 0 600),
  (600, ni_sLd 0 5 602),
  (602, ni_sP (ni_gPush (.int 2) 603)),
  (603, ni_sP (ni_gI (fun x y => x + y) 604)),
  (604, ni_sSld xs 605),
  (605, ni_sLd 3 0 606),
  (606, ni_sLd 0 5 608),
  (608, ni_sP (ni_gPush (.int 3) 609)),
  (609, ni_sP (ni_gI (fun x y => x + y) 610)),
  (610, ni_sSld xs 611),
  (611, ni_sV 114 3 18 614),
  (614, ni_sSt 0 7 616),
  (616, ni_sLd 3 2 617),
  (617, ni_sV 167 0 18 620),
  (620, ni_sLd 0 6 622),
  (622, ni_sP (ni_gIc (fun x y => decide (x = y)) 627 625)),
  (627, ni_sLd 0 6 629),
  (629, ni_sP (ni_gIf (fun x => decide (¬ x = 0)) 644 632)),
  (644, ni_sP (ni_gGo 3317))]
theorem ni_pk85_6 : ∀ r ∈ ni_pr85_6 xs, ni_Ok xs ⟨"SwitchyardLaw", "law", "([I)Z"⟩ cL_law 9 (some .boolean) [] r.1 r.2 ∧ ni_MU r.2 := ni_row (ni_aloadn ni_dL_law_567 rfl) ni_muLd <|
  ni_row (ni_aloadn ni_dL_law_568 rfl) ni_muLd <|
  ni_row (ni_iload ni_dL_law_569) ni_muLd <|
  ni_row (ni_okP (ni_iconst ni_dL_law_571 (by decide +kernel))) (ni_muP (ni_eqPush fun _ => rfl)) <|
  ni_row (ni_okP (ni_iadd ni_dL_law_572)) (ni_muP ni_eqI) <|
  ni_row (ni_sld ni_dL_law_573) ni_muSld <|
  ni_row (ni_aloadn ni_dL_law_574 rfl) ni_muLd <|
  ni_row (ni_iload ni_dL_law_575) ni_muLd <|
  ni_row (ni_okP (ni_iconst ni_dL_law_577 (by decide +kernel))) (ni_muP (ni_eqPush fun _ => rfl)) <|
  ni_row (ni_okP (ni_iadd ni_dL_law_578)) (ni_muP ni_eqI) <|
  ni_row (ni_sld ni_dL_law_579) ni_muSld <|
  ni_row (ni_aloadn ni_dL_law_580 rfl) ni_muLd <|
  ni_row (ni_iload ni_dL_law_581) ni_muLd <|
  ni_row (ni_okP (ni_iconst ni_dL_law_583 (by decide +kernel))) (ni_muP (ni_eqPush fun _ => rfl)) <|
  ni_row (ni_okP (ni_iadd ni_dL_law_584)) (ni_muP ni_eqI) <|
  ni_row (ni_sld ni_dL_law_585) ni_muSld <|
  ni_row (ni_aloadn ni_dL_law_586 rfl) ni_muLd <|
  ni_row (ni_statX (y := 70) ni_dL_law_587 ni_w852 ni_w853 ni_w60 ni_w854 ⟨by decide +kernel, by decide +kernel, by decide +kernel⟩ (by decide) (by decide)) ni_muC <|
  ni_row (ni_istore ni_dL_law_590 (by decide)) ni_muSt <|
  ni_row (ni_aloadn ni_dL_law_592 rfl) ni_muLd <|
  ni_row (ni_aloadn ni_dL_law_593 rfl) ni_muLd <|
  ni_row (ni_iload ni_dL_law_594) ni_muLd <|
  ni_row (ni_okP (ni_iconst ni_dL_law_596 (by decide +kernel))) (ni_muP (ni_eqPush fun _ => rfl)) <|
  ni_row (ni_okP (ni_iadd ni_dL_law_597)) (ni_muP ni_eqI) <|
  ni_row (ni_sld ni_dL_law_598) ni_muSld <|
  ni_row (ni_aloadn ni_dL_law_599 rfl) ni_muLd <|
  ni_row (ni_iload ni_dL_law_600) ni_muLd <|
  ni_row (ni_okP (ni_iconst ni_dL_law_602 (by decide +kernel))) (ni_muP (ni_eqPush fun _ => rfl)) <|
  ni_row (ni_okP (ni_iadd ni_dL_law_603)) (ni_muP ni_eqI) <|
  ni_row (ni_sld ni_dL_law_604) ni_muSld <|
  ni_row (ni_aloadn ni_dL_law_605 rfl) ni_muLd <|
  ni_row (ni_iload ni_dL_law_606) ni_muLd <|
  ni_row (ni_okP (ni_iconst ni_dL_law_608 (by decide +kernel))) (ni_muP (ni_eqPush fun _ => rfl)) <|
  ni_row (ni_okP (ni_iadd ni_dL_law_609)) (ni_muP ni_eqI) <|
  ni_row (ni_sld ni_dL_law_610) ni_muSld <|
  ni_row (ni_virt (y := 114) (T := TX19) ni_dL_law_611 (by decide) rfl rfl ni_w1801 ni_w1802 ni_w1803 ni_w71 ni_w1804 ⟨by decide +kernel, by decide +kernel, by decide +kernel⟩ (by decide) rfl) (ni_muV (by decide)) <|
  ni_row (ni_istore ni_dL_law_614 (by decide)) ni_muSt <|
  ni_row (ni_aloadn ni_dL_law_616 rfl) ni_muLd <|
  ni_row (ni_virt (y := 167) (T := TX19) ni_dL_law_617 (by decide) rfl rfl ni_w1576 ni_w1577 ni_w1578 ni_w71 ni_w1579 ⟨by decide +kernel, by decide +kernel, by decide +kernel⟩ (by decide) rfl) (ni_muV (by decide)) <|
  ni_row (ni_iload ni_dL_law_620) ni_muLd <|
  ni_row (ni_okP (ni_ic_eq ni_dL_law_622 (by decide))) (ni_muP ni_eqIc) <|
  ni_row (ni_iload ni_dL_law_627) ni_muLd <|
  ni_row (ni_okP (ni_if_ne ni_dL_law_629 (by decide))) (ni_muP ni_eqIf) <|
  ni_row (ni_okP (ni_goto ni_dL_law_644 (by decide))) (ni_muP ni_eqGo) <|
  ni_row0
def ni_pr85_7 (xs : List Int32) : List (Nat × ni_S) := [(647, ni_sLd 3 1 648),
  (648, ni_sLd 3 0 649),
  (649, ni_sLd 0 5 651),
  (651, ni_sP (ni_gPush (.int 1) 652)),
  (652, ni_sP (ni_gI (fun x y => x + y) 653)),
  (653, ni_sSld xs 654),
  (654, ni_sLd 3 3 655),
  (655, ni_sC 77 3 658),
  (658, ni_sSt 0 6 660),
  (660, ni_sLd 3 2 661),
  (661, ni_sLd 3 0 662),
  (662, ni_sLd 0 5 664),
  (664, ni_sP (ni_gPush (.int 1) 665)),
  (665, ni_sP (ni_gI (fun x y => x + y) 666)),
  (666, ni_sSld xs 667),
  (667, ni_sV 123 1 18 670),
  (670, ni_sSt 0 7 672),
  (672, ni_sLd 3 2 673),
  (673, ni_sV 167 0 18 676),
  (676, ni_sLd 0 6 678),
  (678, ni_sP (ni_gIc (fun x y => decide (x = y)) 683 681)),
  (683, ni_sLd 0 6 685),
  (685, ni_sP (ni_gIf (fun x => decide (¬ x = 0)) 700 688)),
  (700, ni_sP (ni_gGo 3317))]
theorem ni_pk85_7 : ∀ r ∈ ni_pr85_7 xs, ni_Ok xs ⟨"SwitchyardLaw", "law", "([I)Z"⟩ cL_law 9 (some .boolean) [] r.1 r.2 ∧ ni_MU r.2 := ni_row (ni_aloadn ni_dL_law_647 rfl) ni_muLd <|
  ni_row (ni_aloadn ni_dL_law_648 rfl) ni_muLd <|
  ni_row (ni_iload ni_dL_law_649) ni_muLd <|
  ni_row (ni_okP (ni_iconst ni_dL_law_651 (by decide +kernel))) (ni_muP (ni_eqPush fun _ => rfl)) <|
  ni_row (ni_okP (ni_iadd ni_dL_law_652)) (ni_muP ni_eqI) <|
  ni_row (ni_sld ni_dL_law_653) ni_muSld <|
  ni_row (ni_aloadn ni_dL_law_654 rfl) ni_muLd <|
  ni_row (ni_statX (y := 77) ni_dL_law_655 ni_w887 ni_w888 ni_w60 ni_w889 ⟨by decide +kernel, by decide +kernel, by decide +kernel⟩ (by decide) (by decide)) ni_muC <|
  ni_row (ni_istore ni_dL_law_658 (by decide)) ni_muSt <|
  ni_row (ni_aloadn ni_dL_law_660 rfl) ni_muLd <|
  ni_row (ni_aloadn ni_dL_law_661 rfl) ni_muLd <|
  ni_row (ni_iload ni_dL_law_662) ni_muLd <|
  ni_row (ni_okP (ni_iconst ni_dL_law_664 (by decide +kernel))) (ni_muP (ni_eqPush fun _ => rfl)) <|
  ni_row (ni_okP (ni_iadd ni_dL_law_665)) (ni_muP ni_eqI) <|
  ni_row (ni_sld ni_dL_law_666) ni_muSld <|
  ni_row (ni_virt (y := 123) (T := TX19) ni_dL_law_667 (by decide) rfl rfl ni_w1816 ni_w1817 ni_w1818 ni_w71 ni_w1819 ⟨by decide +kernel, by decide +kernel, by decide +kernel⟩ (by decide) rfl) (ni_muV (by decide)) <|
  ni_row (ni_istore ni_dL_law_670 (by decide)) ni_muSt <|
  ni_row (ni_aloadn ni_dL_law_672 rfl) ni_muLd <|
  ni_row (ni_virt (y := 167) (T := TX19) ni_dL_law_673 (by decide) rfl rfl ni_w1576 ni_w1577 ni_w1578 ni_w71 ni_w1579 ⟨by decide +kernel, by decide +kernel, by decide +kernel⟩ (by decide) rfl) (ni_muV (by decide)) <|
  ni_row (ni_iload ni_dL_law_676) ni_muLd <|
  ni_row (ni_okP (ni_ic_eq ni_dL_law_678 (by decide))) (ni_muP ni_eqIc) <|
  ni_row (ni_iload ni_dL_law_683) ni_muLd <|
  ni_row (ni_okP (ni_if_ne ni_dL_law_685 (by decide))) (ni_muP ni_eqIf) <|
  ni_row (ni_okP (ni_goto ni_dL_law_700 (by decide))) (ni_muP ni_eqGo) <|
  ni_row0
def ni_pr85_8 (xs : List Int32) : List (Nat × ni_S) := [(703, ni_sLd 3 1 704),
  (704, ni_sLd 3 0 705),
  (705, ni_sLd 0 5 707),
  (707, ni_sP (ni_gPush (.int 1) 708)),
  (708, ni_sP (ni_gI (fun x y => x + y) 709)),
  (709, ni_sSld xs 710),
  (710, ni_sLd 3 0 711),
  (711, ni_sLd 0 5 713),
  (713, ni_sP (ni_gPush (.int 2) 714)),
  (714, ni_sP (ni_gI (fun x y => x + y) 715)),
  (715, ni_sSld xs 716),
  (716, ni_sLd 3 0 717),
  (717, ni_sLd 0 5 719),
  (719, ni_sP (ni_gPush (.int 3) 720)),
  (720, ni_sP (ni_gI (fun x y => x + y) 721)),
  (721, ni_sSld xs 722),
  (722, ni_sLd 3 0 723),
  (723, ni_sLd 0 5 725),
  (725, ni_sP (ni_gPush (.int 4) 726)),
  (726, ni_sP (ni_gI (fun x y => x + y) 727)),
  (727, ni_sSld xs 728),
  (728, ni_sLd 3 3 729),
  (729, ni_sC 72 6 732),
  (732, ni_sSt 0 6 734),
  (734, ni_sLd 3 2 735),
  (735, ni_sLd 3 0 736),
  (736, ni_sLd 0 5 738),
  (738, ni_sP (ni_gPush (.int 1) 739)),
  (739, ni_sP (ni_gI (fun x y => x + y) 740)),
  (740, ni_sSld xs 741),
  (741, ni_sLd 3 0 742),
  (742, ni_sLd 0 5 744),
  (744, ni_sP (ni_gPush (.int 2) 745)),
  (745, ni_sP (ni_gI (fun x y => x + y) 746)),
  (746, ni_sSld xs 747),
  (747, ni_sLd 3 0 748),
  (748, ni_sLd 0 5 750),
  (750, ni_sP (ni_gPush (.int 3) 751)),
  (751, ni_sP (ni_gI (fun x y => x + y) 752)),
  (752, ni_sSld xs 753),
  (753, ni_sLd 3 0 754),
  (754, ni_sLd 0 5 756),
  (756, ni_sP (ni_gPush (.int 4) 757)),
  (757, ni_sP (ni_gI (fun x y => x + y) 758)),
  (758, ni_sSld xs 759),
  (759, ni_sV 116 4 18 762),
  (762, ni_sSt 0 7 764),
  (764, ni_sLd 3 2 765),
  (765, ni_sV 167 0 18 768),
  (768, ni_sLd 0 6 770),
  (770, ni_sP (ni_gIc (fun x y => decide (x = y)) 775 773)),
  (775, ni_sLd 0 6 777),
  (777, ni_sP (ni_gIf (fun x => decide (¬ x = 0)) 792 780)),
  (792, ni_sP (ni_gGo 3317))]
theorem ni_pk85_8 : ∀ r ∈ ni_pr85_8 xs, ni_Ok xs ⟨"SwitchyardLaw", "law", "([I)Z"⟩ cL_law 9 (some .boolean) [] r.1 r.2 ∧ ni_MU r.2 := ni_row (ni_aloadn ni_dL_law_703 rfl) ni_muLd <|
  ni_row (ni_aloadn ni_dL_law_704 rfl) ni_muLd <|
  ni_row (ni_iload ni_dL_law_705) ni_muLd <|
  ni_row (ni_okP (ni_iconst ni_dL_law_707 (by decide +kernel))) (ni_muP (ni_eqPush fun _ => rfl)) <|
  ni_row (ni_okP (ni_iadd ni_dL_law_708)) (ni_muP ni_eqI) <|
  ni_row (ni_sld ni_dL_law_709) ni_muSld <|
  ni_row (ni_aloadn ni_dL_law_710 rfl) ni_muLd <|
  ni_row (ni_iload ni_dL_law_711) ni_muLd <|
  ni_row (ni_okP (ni_iconst ni_dL_law_713 (by decide +kernel))) (ni_muP (ni_eqPush fun _ => rfl)) <|
  ni_row (ni_okP (ni_iadd ni_dL_law_714)) (ni_muP ni_eqI) <|
  ni_row (ni_sld ni_dL_law_715) ni_muSld <|
  ni_row (ni_aloadn ni_dL_law_716 rfl) ni_muLd <|
  ni_row (ni_iload ni_dL_law_717) ni_muLd <|
  ni_row (ni_okP (ni_iconst ni_dL_law_719 (by decide +kernel))) (ni_muP (ni_eqPush fun _ => rfl)) <|
  ni_row (ni_okP (ni_iadd ni_dL_law_720)) (ni_muP ni_eqI) <|
  ni_row (ni_sld ni_dL_law_721) ni_muSld <|
  ni_row (ni_aloadn ni_dL_law_722 rfl) ni_muLd <|
  ni_row (ni_iload ni_dL_law_723) ni_muLd <|
  ni_row (ni_okP (ni_iconst ni_dL_law_725 (by decide +kernel))) (ni_muP (ni_eqPush fun _ => rfl)) <|
  ni_row (ni_okP (ni_iadd ni_dL_law_726)) (ni_muP ni_eqI) <|
  ni_row (ni_sld ni_dL_law_727) ni_muSld <|
  ni_row (ni_aloadn ni_dL_law_728 rfl) ni_muLd <|
  ni_row (ni_statX (y := 72) ni_dL_law_729 ni_w902 ni_w903 ni_w60 ni_w904 ⟨by decide +kernel, by decide +kernel, by decide +kernel⟩ (by decide) (by decide)) ni_muC <|
  ni_row (ni_istore ni_dL_law_732 (by decide)) ni_muSt <|
  ni_row (ni_aloadn ni_dL_law_734 rfl) ni_muLd <|
  ni_row (ni_aloadn ni_dL_law_735 rfl) ni_muLd <|
  ni_row (ni_iload ni_dL_law_736) ni_muLd <|
  ni_row (ni_okP (ni_iconst ni_dL_law_738 (by decide +kernel))) (ni_muP (ni_eqPush fun _ => rfl)) <|
  ni_row (ni_okP (ni_iadd ni_dL_law_739)) (ni_muP ni_eqI) <|
  ni_row (ni_sld ni_dL_law_740) ni_muSld <|
  ni_row (ni_aloadn ni_dL_law_741 rfl) ni_muLd <|
  ni_row (ni_iload ni_dL_law_742) ni_muLd <|
  ni_row (ni_okP (ni_iconst ni_dL_law_744 (by decide +kernel))) (ni_muP (ni_eqPush fun _ => rfl)) <|
  ni_row (ni_okP (ni_iadd ni_dL_law_745)) (ni_muP ni_eqI) <|
  ni_row (ni_sld ni_dL_law_746) ni_muSld <|
  ni_row (ni_aloadn ni_dL_law_747 rfl) ni_muLd <|
  ni_row (ni_iload ni_dL_law_748) ni_muLd <|
  ni_row (ni_okP (ni_iconst ni_dL_law_750 (by decide +kernel))) (ni_muP (ni_eqPush fun _ => rfl)) <|
  ni_row (ni_okP (ni_iadd ni_dL_law_751)) (ni_muP ni_eqI) <|
  ni_row (ni_sld ni_dL_law_752) ni_muSld <|
  ni_row (ni_aloadn ni_dL_law_753 rfl) ni_muLd <|
  ni_row (ni_iload ni_dL_law_754) ni_muLd <|
  ni_row (ni_okP (ni_iconst ni_dL_law_756 (by decide +kernel))) (ni_muP (ni_eqPush fun _ => rfl)) <|
  ni_row (ni_okP (ni_iadd ni_dL_law_757)) (ni_muP ni_eqI) <|
  ni_row (ni_sld ni_dL_law_758) ni_muSld <|
  ni_row (ni_virt (y := 116) (T := TX19) ni_dL_law_759 (by decide) rfl rfl ni_w1823 ni_w1824 ni_w1825 ni_w71 ni_w1826 ⟨by decide +kernel, by decide +kernel, by decide +kernel⟩ (by decide) rfl) (ni_muV (by decide)) <|
  ni_row (ni_istore ni_dL_law_762 (by decide)) ni_muSt <|
  ni_row (ni_aloadn ni_dL_law_764 rfl) ni_muLd <|
  ni_row (ni_virt (y := 167) (T := TX19) ni_dL_law_765 (by decide) rfl rfl ni_w1576 ni_w1577 ni_w1578 ni_w71 ni_w1579 ⟨by decide +kernel, by decide +kernel, by decide +kernel⟩ (by decide) rfl) (ni_muV (by decide)) <|
  ni_row (ni_iload ni_dL_law_768) ni_muLd <|
  ni_row (ni_okP (ni_ic_eq ni_dL_law_770 (by decide))) (ni_muP ni_eqIc) <|
  ni_row (ni_iload ni_dL_law_775) ni_muLd <|
  ni_row (ni_okP (ni_if_ne ni_dL_law_777 (by decide))) (ni_muP ni_eqIf) <|
  ni_row (ni_okP (ni_goto ni_dL_law_792 (by decide))) (ni_muP ni_eqGo) <|
  ni_row0
def ni_pr85_9 (xs : List Int32) : List (Nat × ni_S) := [(795, ni_sLd 3 1 796),
  (796, ni_sLd 3 0 797),
  (797, ni_sLd 0 5 799),
  (799, ni_sP (ni_gPush (.int 1) 800)),
  (800, ni_sP (ni_gI (fun x y => x + y) 801)),
  (801, ni_sSld xs 802),
  (802, ni_sLd 3 3 803),
  (803, ni_sC 78 3 806),
  (806, ni_sSt 0 6 808),
  (808, ni_sLd 3 2 809),
  (809, ni_sLd 3 0 810),
  (810, ni_sLd 0 5 812),
  (812, ni_sP (ni_gPush (.int 1) 813)),
  (813, ni_sP (ni_gI (fun x y => x + y) 814)),
  (814, ni_sSld xs 815),
  (815, ni_sV 124 1 18 818),
  (818, ni_sSt 0 7 820),
  (820, ni_sLd 3 2 821),
  (821, ni_sV 167 0 18 824),
  (824, ni_sLd 0 6 826),
  (826, ni_sP (ni_gIc (fun x y => decide (x = y)) 831 829)),
  (831, ni_sLd 0 6 833),
  (833, ni_sP (ni_gIf (fun x => decide (¬ x = 0)) 848 836)),
  (848, ni_sP (ni_gGo 3317))]
theorem ni_pk85_9 : ∀ r ∈ ni_pr85_9 xs, ni_Ok xs ⟨"SwitchyardLaw", "law", "([I)Z"⟩ cL_law 9 (some .boolean) [] r.1 r.2 ∧ ni_MU r.2 := ni_row (ni_aloadn ni_dL_law_795 rfl) ni_muLd <|
  ni_row (ni_aloadn ni_dL_law_796 rfl) ni_muLd <|
  ni_row (ni_iload ni_dL_law_797) ni_muLd <|
  ni_row (ni_okP (ni_iconst ni_dL_law_799 (by decide +kernel))) (ni_muP (ni_eqPush fun _ => rfl)) <|
  ni_row (ni_okP (ni_iadd ni_dL_law_800)) (ni_muP ni_eqI) <|
  ni_row (ni_sld ni_dL_law_801) ni_muSld <|
  ni_row (ni_aloadn ni_dL_law_802 rfl) ni_muLd <|
  ni_row (ni_statX (y := 78) ni_dL_law_803 ni_w916 ni_w917 ni_w60 ni_w918 ⟨by decide +kernel, by decide +kernel, by decide +kernel⟩ (by decide) (by decide)) ni_muC <|
  ni_row (ni_istore ni_dL_law_806 (by decide)) ni_muSt <|
  ni_row (ni_aloadn ni_dL_law_808 rfl) ni_muLd <|
  ni_row (ni_aloadn ni_dL_law_809 rfl) ni_muLd <|
  ni_row (ni_iload ni_dL_law_810) ni_muLd <|
  ni_row (ni_okP (ni_iconst ni_dL_law_812 (by decide +kernel))) (ni_muP (ni_eqPush fun _ => rfl)) <|
  ni_row (ni_okP (ni_iadd ni_dL_law_813)) (ni_muP ni_eqI) <|
  ni_row (ni_sld ni_dL_law_814) ni_muSld <|
  ni_row (ni_virt (y := 124) (T := TX19) ni_dL_law_815 (by decide) rfl rfl ni_w1828 ni_w1829 ni_w1830 ni_w71 ni_w1831 ⟨by decide +kernel, by decide +kernel, by decide +kernel⟩ (by decide) rfl) (ni_muV (by decide)) <|
  ni_row (ni_istore ni_dL_law_818 (by decide)) ni_muSt <|
  ni_row (ni_aloadn ni_dL_law_820 rfl) ni_muLd <|
  ni_row (ni_virt (y := 167) (T := TX19) ni_dL_law_821 (by decide) rfl rfl ni_w1576 ni_w1577 ni_w1578 ni_w71 ni_w1579 ⟨by decide +kernel, by decide +kernel, by decide +kernel⟩ (by decide) rfl) (ni_muV (by decide)) <|
  ni_row (ni_iload ni_dL_law_824) ni_muLd <|
  ni_row (ni_okP (ni_ic_eq ni_dL_law_826 (by decide))) (ni_muP ni_eqIc) <|
  ni_row (ni_iload ni_dL_law_831) ni_muLd <|
  ni_row (ni_okP (ni_if_ne ni_dL_law_833 (by decide))) (ni_muP ni_eqIf) <|
  ni_row (ni_okP (ni_goto ni_dL_law_848 (by decide))) (ni_muP ni_eqGo) <|
  ni_row0
def ni_pr85_10 (xs : List Int32) : List (Nat × ni_S) := [(851, ni_sLd 3 1 852),
  (852, ni_sLd 3 0 853),
  (853, ni_sLd 0 5 855),
  (855, ni_sP (ni_gPush (.int 1) 856)),
  (856, ni_sP (ni_gI (fun x y => x + y) 857)),
  (857, ni_sSld xs 858),
  (858, ni_sLd 3 0 859),
  (859, ni_sLd 0 5 861),
  (861, ni_sP (ni_gPush (.int 2) 862)),
  (862, ni_sP (ni_gI (fun x y => x + y) 863)),
  (863, ni_sSld xs 864),
  (864, ni_sP (ni_gIf (fun x => decide (x = 0)) 871 867)),
  (867, ni_sP (ni_gPush (.int 1) 868)),
  (868, ni_sP (ni_gGo 872)),
  (871, ni_sP (ni_gPush (.int 0) 872)),
  (872, ni_sLd 3 0 873),
  (873, ni_sLd 0 5 875),
  (875, ni_sP (ni_gPush (.int 3) 876)),
  (876, ni_sP (ni_gI (fun x y => x + y) 877)),
  (877, ni_sSld xs 878),
  (878, ni_sLd 3 0 879),
  (879, ni_sLd 0 5 881),
  (881, ni_sP (ni_gPush (.int 4) 882)),
  (882, ni_sP (ni_gI (fun x y => x + y) 883)),
  (883, ni_sSld xs 884),
  (884, ni_sLd 3 0 885),
  (885, ni_sLd 0 5 887),
  (887, ni_sP (ni_gPush (.int 5) 888)),
  (888, ni_sP (ni_gI (fun x y => x + y) 889)),
  (889, ni_sSld xs 890),
  (890, ni_sP (ni_gIf (fun x => decide (x = 0)) 897 893)),
  (893, ni_sP (ni_gPush (.int 1) 894)),
  (894, ni_sP (ni_gGo 898)),
  (897, ni_sP (ni_gPush (.int 0) 898)),
  (898, ni_sLd 3 3 899),
  (899, ni_sC 98 7 902),
  (902, ni_sSt 0 6 904),
  (904, ni_sLd 3 2 905),
  (905, ni_sLd 3 0 906),
  (906, ni_sLd 0 5 908),
  (908, ni_sP (ni_gPush (.int 1) 909)),
  (909, ni_sP (ni_gI (fun x y => x + y) 910)),
  (910, ni_sSld xs 911),
  (911, ni_sLd 3 0 912),
  (912, ni_sLd 0 5 914),
  (914, ni_sP (ni_gPush (.int 2) 915)),
  (915, ni_sP (ni_gI (fun x y => x + y) 916)),
  (916, ni_sSld xs 917),
  (917, ni_sP (ni_gIf (fun x => decide (x = 0)) 924 920)),
  (920, ni_sP (ni_gPush (.int 1) 921)),
  (921, ni_sP (ni_gGo 925)),
  (924, ni_sP (ni_gPush (.int 0) 925)),
  (925, ni_sLd 3 0 926),
  (926, ni_sLd 0 5 928),
  (928, ni_sP (ni_gPush (.int 3) 929)),
  (929, ni_sP (ni_gI (fun x y => x + y) 930)),
  (930, ni_sSld xs 931),
  (931, ni_sLd 3 0 932),
  (932, ni_sLd 0 5 934),
  (934, ni_sP (ni_gPush (.int 4) 935)),
  (935, ni_sP (ni_gI (fun x y => x + y) 936)),
  (936, ni_sSld xs 937),
  (937, ni_sLd 3 0 938),
  (938, ni_sLd 0 5 940),
  (940, ni_sP (ni_gPush (.int 5) 941)),
  (941, ni_sP (ni_gI (fun x y => x + y) 942)),
  (942, ni_sSld xs 943),
  (943, ni_sP (ni_gIf (fun x => decide (x = 0)) 950 946)),
  (946, ni_sP (ni_gPush (.int 1) 947)),
  (947, ni_sP (ni_gGo 951)),
  (950, ni_sP (ni_gPush (.int 0) 951)),
  (951, ni_sV 157 5 18 954),
  (954, ni_sSt 0 7 956),
  (956, ni_sLd 3 2 957),
  (957, ni_sV 167 0 18 960),
  (960, ni_sLd 0 6 962),
  (962, ni_sP (ni_gIc (fun x y => decide (x = y)) 967 965)),
  (967, ni_sLd 0 6 969),
  (969, ni_sP (ni_gIf (fun x => decide (¬ x = 0)) 984 972)),
  (984, ni_sP (ni_gGo 3317))]
theorem ni_pk85_10 : ∀ r ∈ ni_pr85_10 xs, ni_Ok xs ⟨"SwitchyardLaw", "law", "([I)Z"⟩ cL_law 9 (some .boolean) [] r.1 r.2 ∧ ni_MU r.2 := ni_row (ni_aloadn ni_dL_law_851 rfl) ni_muLd <|
  ni_row (ni_aloadn ni_dL_law_852 rfl) ni_muLd <|
  ni_row (ni_iload ni_dL_law_853) ni_muLd <|
  ni_row (ni_okP (ni_iconst ni_dL_law_855 (by decide +kernel))) (ni_muP (ni_eqPush fun _ => rfl)) <|
  ni_row (ni_okP (ni_iadd ni_dL_law_856)) (ni_muP ni_eqI) <|
  ni_row (ni_sld ni_dL_law_857) ni_muSld <|
  ni_row (ni_aloadn ni_dL_law_858 rfl) ni_muLd <|
  ni_row (ni_iload ni_dL_law_859) ni_muLd <|
  ni_row (ni_okP (ni_iconst ni_dL_law_861 (by decide +kernel))) (ni_muP (ni_eqPush fun _ => rfl)) <|
  ni_row (ni_okP (ni_iadd ni_dL_law_862)) (ni_muP ni_eqI) <|
  ni_row (ni_sld ni_dL_law_863) ni_muSld <|
  ni_row (ni_okP (ni_if_eq ni_dL_law_864 (by decide))) (ni_muP ni_eqIf) <|
  ni_row (ni_okP (ni_iconst ni_dL_law_867 (by decide +kernel))) (ni_muP (ni_eqPush fun _ => rfl)) <|
  ni_row (ni_okP (ni_goto ni_dL_law_868 (by decide))) (ni_muP ni_eqGo) <|
  ni_row (ni_okP (ni_iconst ni_dL_law_871 (by decide +kernel))) (ni_muP (ni_eqPush fun _ => rfl)) <|
  ni_row (ni_aloadn ni_dL_law_872 rfl) ni_muLd <|
  ni_row (ni_iload ni_dL_law_873) ni_muLd <|
  ni_row (ni_okP (ni_iconst ni_dL_law_875 (by decide +kernel))) (ni_muP (ni_eqPush fun _ => rfl)) <|
  ni_row (ni_okP (ni_iadd ni_dL_law_876)) (ni_muP ni_eqI) <|
  ni_row (ni_sld ni_dL_law_877) ni_muSld <|
  ni_row (ni_aloadn ni_dL_law_878 rfl) ni_muLd <|
  ni_row (ni_iload ni_dL_law_879) ni_muLd <|
  ni_row (ni_okP (ni_iconst ni_dL_law_881 (by decide +kernel))) (ni_muP (ni_eqPush fun _ => rfl)) <|
  ni_row (ni_okP (ni_iadd ni_dL_law_882)) (ni_muP ni_eqI) <|
  ni_row (ni_sld ni_dL_law_883) ni_muSld <|
  ni_row (ni_aloadn ni_dL_law_884 rfl) ni_muLd <|
  ni_row (ni_iload ni_dL_law_885) ni_muLd <|
  ni_row (ni_okP (ni_iconst ni_dL_law_887 (by decide +kernel))) (ni_muP (ni_eqPush fun _ => rfl)) <|
  ni_row (ni_okP (ni_iadd ni_dL_law_888)) (ni_muP ni_eqI) <|
  ni_row (ni_sld ni_dL_law_889) ni_muSld <|
  ni_row (ni_okP (ni_if_eq ni_dL_law_890 (by decide))) (ni_muP ni_eqIf) <|
  ni_row (ni_okP (ni_iconst ni_dL_law_893 (by decide +kernel))) (ni_muP (ni_eqPush fun _ => rfl)) <|
  ni_row (ni_okP (ni_goto ni_dL_law_894 (by decide))) (ni_muP ni_eqGo) <|
  ni_row (ni_okP (ni_iconst ni_dL_law_897 (by decide +kernel))) (ni_muP (ni_eqPush fun _ => rfl)) <|
  ni_row (ni_aloadn ni_dL_law_898 rfl) ni_muLd <|
  ni_row (ni_statX (y := 98) ni_dL_law_899 ni_w927 ni_w928 ni_w60 ni_w929 ⟨by decide +kernel, by decide +kernel, by decide +kernel⟩ (by decide) (by decide)) ni_muC <|
  ni_row (ni_istore ni_dL_law_902 (by decide)) ni_muSt <|
  ni_row (ni_aloadn ni_dL_law_904 rfl) ni_muLd <|
  ni_row (ni_aloadn ni_dL_law_905 rfl) ni_muLd <|
  ni_row (ni_iload ni_dL_law_906) ni_muLd <|
  ni_row (ni_okP (ni_iconst ni_dL_law_908 (by decide +kernel))) (ni_muP (ni_eqPush fun _ => rfl)) <|
  ni_row (ni_okP (ni_iadd ni_dL_law_909)) (ni_muP ni_eqI) <|
  ni_row (ni_sld ni_dL_law_910) ni_muSld <|
  ni_row (ni_aloadn ni_dL_law_911 rfl) ni_muLd <|
  ni_row (ni_iload ni_dL_law_912) ni_muLd <|
  ni_row (ni_okP (ni_iconst ni_dL_law_914 (by decide +kernel))) (ni_muP (ni_eqPush fun _ => rfl)) <|
  ni_row (ni_okP (ni_iadd ni_dL_law_915)) (ni_muP ni_eqI) <|
  ni_row (ni_sld ni_dL_law_916) ni_muSld <|
  ni_row (ni_okP (ni_if_eq ni_dL_law_917 (by decide))) (ni_muP ni_eqIf) <|
  ni_row (ni_okP (ni_iconst ni_dL_law_920 (by decide +kernel))) (ni_muP (ni_eqPush fun _ => rfl)) <|
  ni_row (ni_okP (ni_goto ni_dL_law_921 (by decide))) (ni_muP ni_eqGo) <|
  ni_row (ni_okP (ni_iconst ni_dL_law_924 (by decide +kernel))) (ni_muP (ni_eqPush fun _ => rfl)) <|
  ni_row (ni_aloadn ni_dL_law_925 rfl) ni_muLd <|
  ni_row (ni_iload ni_dL_law_926) ni_muLd <|
  ni_row (ni_okP (ni_iconst ni_dL_law_928 (by decide +kernel))) (ni_muP (ni_eqPush fun _ => rfl)) <|
  ni_row (ni_okP (ni_iadd ni_dL_law_929)) (ni_muP ni_eqI) <|
  ni_row (ni_sld ni_dL_law_930) ni_muSld <|
  ni_row (ni_aloadn ni_dL_law_931 rfl) ni_muLd <|
  ni_row (ni_iload ni_dL_law_932) ni_muLd <|
  ni_row (ni_okP (ni_iconst ni_dL_law_934 (by decide +kernel))) (ni_muP (ni_eqPush fun _ => rfl)) <|
  ni_row (ni_okP (ni_iadd ni_dL_law_935)) (ni_muP ni_eqI) <|
  ni_row (ni_sld ni_dL_law_936) ni_muSld <|
  ni_row (ni_aloadn ni_dL_law_937 rfl) ni_muLd <|
  ni_row (ni_iload ni_dL_law_938) ni_muLd <|
  ni_row (ni_okP (ni_iconst ni_dL_law_940 (by decide +kernel))) (ni_muP (ni_eqPush fun _ => rfl)) <|
  ni_row (ni_okP (ni_iadd ni_dL_law_941)) (ni_muP ni_eqI) <|
  ni_row (ni_sld ni_dL_law_942) ni_muSld <|
  ni_row (ni_okP (ni_if_eq ni_dL_law_943 (by decide))) (ni_muP ni_eqIf) <|
  ni_row (ni_okP (ni_iconst ni_dL_law_946 (by decide +kernel))) (ni_muP (ni_eqPush fun _ => rfl)) <|
  ni_row (ni_okP (ni_goto ni_dL_law_947 (by decide))) (ni_muP ni_eqGo) <|
  ni_row (ni_okP (ni_iconst ni_dL_law_950 (by decide +kernel))) (ni_muP (ni_eqPush fun _ => rfl)) <|
  ni_row (ni_virt (y := 157) (T := TX19) ni_dL_law_951 (by decide) rfl rfl ni_w1832 ni_w1833 ni_w1834 ni_w71 ni_w1835 ⟨by decide +kernel, by decide +kernel, by decide +kernel⟩ (by decide) rfl) (ni_muV (by decide)) <|
  ni_row (ni_istore ni_dL_law_954 (by decide)) ni_muSt <|
  ni_row (ni_aloadn ni_dL_law_956 rfl) ni_muLd <|
  ni_row (ni_virt (y := 167) (T := TX19) ni_dL_law_957 (by decide) rfl rfl ni_w1576 ni_w1577 ni_w1578 ni_w71 ni_w1579 ⟨by decide +kernel, by decide +kernel, by decide +kernel⟩ (by decide) rfl) (ni_muV (by decide)) <|
  ni_row (ni_iload ni_dL_law_960) ni_muLd <|
  ni_row (ni_okP (ni_ic_eq ni_dL_law_962 (by decide))) (ni_muP ni_eqIc) <|
  ni_row (ni_iload ni_dL_law_967) ni_muLd <|
  ni_row (ni_okP (ni_if_ne ni_dL_law_969 (by decide))) (ni_muP ni_eqIf) <|
  ni_row (ni_okP (ni_goto ni_dL_law_984 (by decide))) (ni_muP ni_eqGo) <|
  ni_row0
def ni_pr85_11 (xs : List Int32) : List (Nat × ni_S) := [(987, ni_sLd 3 1 988),
  (988, ni_sLd 3 0 989),
  (989, ni_sLd 0 5 991),
  (991, ni_sP (ni_gPush (.int 1) 992)),
  (992, ni_sP (ni_gI (fun x y => x + y) 993)),
  (993, ni_sSld xs 994),
  (994, ni_sLd 3 0 995),
  (995, ni_sLd 0 5 997),
  (997, ni_sP (ni_gPush (.int 2) 998)),
  (998, ni_sP (ni_gI (fun x y => x + y) 999)),
  (999, ni_sSld xs 1000),
  (1000, ni_sP (ni_gIf (fun x => decide (x = 0)) 1007 1003)),
  (1003, ni_sP (ni_gPush (.int 1) 1004)),
  (1004, ni_sP (ni_gGo 1008)),
  (1007, ni_sP (ni_gPush (.int 0) 1008)),
  (1008, ni_sLd 3 0 1009),
  (1009, ni_sLd 0 5 1011),
  (1011, ni_sP (ni_gPush (.int 3) 1012)),
  (1012, ni_sP (ni_gI (fun x y => x + y) 1013)),
  (1013, ni_sSld xs 1014),
  (1014, ni_sLd 3 0 1015),
  (1015, ni_sLd 0 5 1017),
  (1017, ni_sP (ni_gPush (.int 4) 1018)),
  (1018, ni_sP (ni_gI (fun x y => x + y) 1019)),
  (1019, ni_sSld xs 1020),
  (1020, ni_sLd 3 3 1021),
  (1021, ni_sC 100 6 1024),
  (1024, ni_sSt 0 6 1026),
  (1026, ni_sLd 3 2 1027),
  (1027, ni_sLd 3 0 1028),
  (1028, ni_sLd 0 5 1030),
  (1030, ni_sP (ni_gPush (.int 1) 1031)),
  (1031, ni_sP (ni_gI (fun x y => x + y) 1032)),
  (1032, ni_sSld xs 1033),
  (1033, ni_sLd 3 0 1034),
  (1034, ni_sLd 0 5 1036),
  (1036, ni_sP (ni_gPush (.int 2) 1037)),
  (1037, ni_sP (ni_gI (fun x y => x + y) 1038)),
  (1038, ni_sSld xs 1039),
  (1039, ni_sP (ni_gIf (fun x => decide (x = 0)) 1046 1042)),
  (1042, ni_sP (ni_gPush (.int 1) 1043)),
  (1043, ni_sP (ni_gGo 1047)),
  (1046, ni_sP (ni_gPush (.int 0) 1047)),
  (1047, ni_sLd 3 0 1048),
  (1048, ni_sLd 0 5 1050),
  (1050, ni_sP (ni_gPush (.int 3) 1051)),
  (1051, ni_sP (ni_gI (fun x y => x + y) 1052)),
  (1052, ni_sSld xs 1053),
  (1053, ni_sLd 3 0 1054),
  (1054, ni_sLd 0 5 1056),
  (1056, ni_sP (ni_gPush (.int 4) 1057)),
  (1057, ni_sP (ni_gI (fun x y => x + y) 1058)),
  (1058, ni_sSld xs 1059),
  (1059, ni_sV 159 4 18 1062),
  (1062, ni_sSt 0 7 1064),
  (1064, ni_sLd 3 2 1065),
  (1065, ni_sV 167 0 18 1068),
  (1068, ni_sLd 0 6 1070),
  (1070, ni_sP (ni_gIc (fun x y => decide (x = y)) 1075 1073)),
  (1075, ni_sLd 0 6 1077),
  (1077, ni_sP (ni_gIf (fun x => decide (¬ x = 0)) 1092 1080)),
  (1092, ni_sP (ni_gGo 3317))]
theorem ni_pk85_11 : ∀ r ∈ ni_pr85_11 xs, ni_Ok xs ⟨"SwitchyardLaw", "law", "([I)Z"⟩ cL_law 9 (some .boolean) [] r.1 r.2 ∧ ni_MU r.2 := ni_row (ni_aloadn ni_dL_law_987 rfl) ni_muLd <|
  ni_row (ni_aloadn ni_dL_law_988 rfl) ni_muLd <|
  ni_row (ni_iload ni_dL_law_989) ni_muLd <|
  ni_row (ni_okP (ni_iconst ni_dL_law_991 (by decide +kernel))) (ni_muP (ni_eqPush fun _ => rfl)) <|
  ni_row (ni_okP (ni_iadd ni_dL_law_992)) (ni_muP ni_eqI) <|
  ni_row (ni_sld ni_dL_law_993) ni_muSld <|
  ni_row (ni_aloadn ni_dL_law_994 rfl) ni_muLd <|
  ni_row (ni_iload ni_dL_law_995) ni_muLd <|
  ni_row (ni_okP (ni_iconst ni_dL_law_997 (by decide +kernel))) (ni_muP (ni_eqPush fun _ => rfl)) <|
  ni_row (ni_okP (ni_iadd ni_dL_law_998)) (ni_muP ni_eqI) <|
  ni_row (ni_sld ni_dL_law_999) ni_muSld <|
  ni_row (ni_okP (ni_if_eq ni_dL_law_1000 (by decide))) (ni_muP ni_eqIf) <|
  ni_row (ni_okP (ni_iconst ni_dL_law_1003 (by decide +kernel))) (ni_muP (ni_eqPush fun _ => rfl)) <|
  ni_row (ni_okP (ni_goto ni_dL_law_1004 (by decide))) (ni_muP ni_eqGo) <|
  ni_row (ni_okP (ni_iconst ni_dL_law_1007 (by decide +kernel))) (ni_muP (ni_eqPush fun _ => rfl)) <|
  ni_row (ni_aloadn ni_dL_law_1008 rfl) ni_muLd <|
  ni_row (ni_iload ni_dL_law_1009) ni_muLd <|
  ni_row (ni_okP (ni_iconst ni_dL_law_1011 (by decide +kernel))) (ni_muP (ni_eqPush fun _ => rfl)) <|
  ni_row (ni_okP (ni_iadd ni_dL_law_1012)) (ni_muP ni_eqI) <|
  ni_row (ni_sld ni_dL_law_1013) ni_muSld <|
  ni_row (ni_aloadn ni_dL_law_1014 rfl) ni_muLd <|
  ni_row (ni_iload ni_dL_law_1015) ni_muLd <|
  ni_row (ni_okP (ni_iconst ni_dL_law_1017 (by decide +kernel))) (ni_muP (ni_eqPush fun _ => rfl)) <|
  ni_row (ni_okP (ni_iadd ni_dL_law_1018)) (ni_muP ni_eqI) <|
  ni_row (ni_sld ni_dL_law_1019) ni_muSld <|
  ni_row (ni_aloadn ni_dL_law_1020 rfl) ni_muLd <|
  ni_row (ni_statX (y := 100) ni_dL_law_1021 ni_w942 ni_w943 ni_w60 ni_w944 ⟨by decide +kernel, by decide +kernel, by decide +kernel⟩ (by decide) (by decide)) ni_muC <|
  ni_row (ni_istore ni_dL_law_1024 (by decide)) ni_muSt <|
  ni_row (ni_aloadn ni_dL_law_1026 rfl) ni_muLd <|
  ni_row (ni_aloadn ni_dL_law_1027 rfl) ni_muLd <|
  ni_row (ni_iload ni_dL_law_1028) ni_muLd <|
  ni_row (ni_okP (ni_iconst ni_dL_law_1030 (by decide +kernel))) (ni_muP (ni_eqPush fun _ => rfl)) <|
  ni_row (ni_okP (ni_iadd ni_dL_law_1031)) (ni_muP ni_eqI) <|
  ni_row (ni_sld ni_dL_law_1032) ni_muSld <|
  ni_row (ni_aloadn ni_dL_law_1033 rfl) ni_muLd <|
  ni_row (ni_iload ni_dL_law_1034) ni_muLd <|
  ni_row (ni_okP (ni_iconst ni_dL_law_1036 (by decide +kernel))) (ni_muP (ni_eqPush fun _ => rfl)) <|
  ni_row (ni_okP (ni_iadd ni_dL_law_1037)) (ni_muP ni_eqI) <|
  ni_row (ni_sld ni_dL_law_1038) ni_muSld <|
  ni_row (ni_okP (ni_if_eq ni_dL_law_1039 (by decide))) (ni_muP ni_eqIf) <|
  ni_row (ni_okP (ni_iconst ni_dL_law_1042 (by decide +kernel))) (ni_muP (ni_eqPush fun _ => rfl)) <|
  ni_row (ni_okP (ni_goto ni_dL_law_1043 (by decide))) (ni_muP ni_eqGo) <|
  ni_row (ni_okP (ni_iconst ni_dL_law_1046 (by decide +kernel))) (ni_muP (ni_eqPush fun _ => rfl)) <|
  ni_row (ni_aloadn ni_dL_law_1047 rfl) ni_muLd <|
  ni_row (ni_iload ni_dL_law_1048) ni_muLd <|
  ni_row (ni_okP (ni_iconst ni_dL_law_1050 (by decide +kernel))) (ni_muP (ni_eqPush fun _ => rfl)) <|
  ni_row (ni_okP (ni_iadd ni_dL_law_1051)) (ni_muP ni_eqI) <|
  ni_row (ni_sld ni_dL_law_1052) ni_muSld <|
  ni_row (ni_aloadn ni_dL_law_1053 rfl) ni_muLd <|
  ni_row (ni_iload ni_dL_law_1054) ni_muLd <|
  ni_row (ni_okP (ni_iconst ni_dL_law_1056 (by decide +kernel))) (ni_muP (ni_eqPush fun _ => rfl)) <|
  ni_row (ni_okP (ni_iadd ni_dL_law_1057)) (ni_muP ni_eqI) <|
  ni_row (ni_sld ni_dL_law_1058) ni_muSld <|
  ni_row (ni_virt (y := 159) (T := TX19) ni_dL_law_1059 (by decide) rfl rfl ni_w1842 ni_w1843 ni_w1844 ni_w71 ni_w1845 ⟨by decide +kernel, by decide +kernel, by decide +kernel⟩ (by decide) rfl) (ni_muV (by decide)) <|
  ni_row (ni_istore ni_dL_law_1062 (by decide)) ni_muSt <|
  ni_row (ni_aloadn ni_dL_law_1064 rfl) ni_muLd <|
  ni_row (ni_virt (y := 167) (T := TX19) ni_dL_law_1065 (by decide) rfl rfl ni_w1576 ni_w1577 ni_w1578 ni_w71 ni_w1579 ⟨by decide +kernel, by decide +kernel, by decide +kernel⟩ (by decide) rfl) (ni_muV (by decide)) <|
  ni_row (ni_iload ni_dL_law_1068) ni_muLd <|
  ni_row (ni_okP (ni_ic_eq ni_dL_law_1070 (by decide))) (ni_muP ni_eqIc) <|
  ni_row (ni_iload ni_dL_law_1075) ni_muLd <|
  ni_row (ni_okP (ni_if_ne ni_dL_law_1077 (by decide))) (ni_muP ni_eqIf) <|
  ni_row (ni_okP (ni_goto ni_dL_law_1092 (by decide))) (ni_muP ni_eqGo) <|
  ni_row0
def ni_pr85_12 (xs : List Int32) : List (Nat × ni_S) := [(1095, ni_sLd 3 1 1096),
  (1096, ni_sLd 3 0 1097),
  (1097, ni_sLd 0 5 1099),
  (1099, ni_sP (ni_gPush (.int 1) 1100)),
  (1100, ni_sP (ni_gI (fun x y => x + y) 1101)),
  (1101, ni_sSld xs 1102),
  (1102, ni_sLd 3 0 1103),
  (1103, ni_sLd 0 5 1105),
  (1105, ni_sP (ni_gPush (.int 2) 1106)),
  (1106, ni_sP (ni_gI (fun x y => x + y) 1107)),
  (1107, ni_sSld xs 1108),
  (1108, ni_sLd 3 0 1109),
  (1109, ni_sLd 0 5 1111),
  (1111, ni_sP (ni_gPush (.int 3) 1112)),
  (1112, ni_sP (ni_gI (fun x y => x + y) 1113)),
  (1113, ni_sSld xs 1114),
  (1114, ni_sLd 3 0 1115),
  (1115, ni_sLd 0 5 1117),
  (1117, ni_sP (ni_gPush (.int 4) 1118)),
  (1118, ni_sP (ni_gI (fun x y => x + y) 1119)),
  (1119, ni_sSld xs 1120),
  (1120, ni_sLd 3 3 1121),
  (1121, ni_sC 68 6 1124),
  (1124, ni_sSt 0 6 1126),
  (1126, ni_sLd 3 2 1127),
  (1127, ni_sLd 3 0 1128),
  (1128, ni_sLd 0 5 1130),
  (1130, ni_sP (ni_gPush (.int 1) 1131)),
  (1131, ni_sP (ni_gI (fun x y => x + y) 1132)),
  (1132, ni_sSld xs 1133),
  (1133, ni_sLd 3 0 1134),
  (1134, ni_sLd 0 5 1136),
  (1136, ni_sP (ni_gPush (.int 2) 1137)),
  (1137, ni_sP (ni_gI (fun x y => x + y) 1138)),
  (1138, ni_sSld xs 1139),
  (1139, ni_sLd 3 0 1140),
  (1140, ni_sLd 0 5 1142),
  (1142, ni_sP (ni_gPush (.int 3) 1143)),
  (1143, ni_sP (ni_gI (fun x y => x + y) 1144)),
  (1144, ni_sSld xs 1145),
  (1145, ni_sLd 3 0 1146),
  (1146, ni_sLd 0 5 1148),
  (1148, ni_sP (ni_gPush (.int 4) 1149)),
  (1149, ni_sP (ni_gI (fun x y => x + y) 1150)),
  (1150, ni_sSld xs 1151),
  (1151, ni_sV 112 4 18 1154),
  (1154, ni_sSt 0 7 1156),
  (1156, ni_sLd 3 2 1157),
  (1157, ni_sV 167 0 18 1160),
  (1160, ni_sLd 0 6 1162),
  (1162, ni_sP (ni_gIc (fun x y => decide (x = y)) 1167 1165)),
  (1167, ni_sLd 0 6 1169),
  (1169, ni_sP (ni_gIf (fun x => decide (¬ x = 0)) 1184 1172)),
  (1184, ni_sP (ni_gGo 3317))]
theorem ni_pk85_12 : ∀ r ∈ ni_pr85_12 xs, ni_Ok xs ⟨"SwitchyardLaw", "law", "([I)Z"⟩ cL_law 9 (some .boolean) [] r.1 r.2 ∧ ni_MU r.2 := ni_row (ni_aloadn ni_dL_law_1095 rfl) ni_muLd <|
  ni_row (ni_aloadn ni_dL_law_1096 rfl) ni_muLd <|
  ni_row (ni_iload ni_dL_law_1097) ni_muLd <|
  ni_row (ni_okP (ni_iconst ni_dL_law_1099 (by decide +kernel))) (ni_muP (ni_eqPush fun _ => rfl)) <|
  ni_row (ni_okP (ni_iadd ni_dL_law_1100)) (ni_muP ni_eqI) <|
  ni_row (ni_sld ni_dL_law_1101) ni_muSld <|
  ni_row (ni_aloadn ni_dL_law_1102 rfl) ni_muLd <|
  ni_row (ni_iload ni_dL_law_1103) ni_muLd <|
  ni_row (ni_okP (ni_iconst ni_dL_law_1105 (by decide +kernel))) (ni_muP (ni_eqPush fun _ => rfl)) <|
  ni_row (ni_okP (ni_iadd ni_dL_law_1106)) (ni_muP ni_eqI) <|
  ni_row (ni_sld ni_dL_law_1107) ni_muSld <|
  ni_row (ni_aloadn ni_dL_law_1108 rfl) ni_muLd <|
  ni_row (ni_iload ni_dL_law_1109) ni_muLd <|
  ni_row (ni_okP (ni_iconst ni_dL_law_1111 (by decide +kernel))) (ni_muP (ni_eqPush fun _ => rfl)) <|
  ni_row (ni_okP (ni_iadd ni_dL_law_1112)) (ni_muP ni_eqI) <|
  ni_row (ni_sld ni_dL_law_1113) ni_muSld <|
  ni_row (ni_aloadn ni_dL_law_1114 rfl) ni_muLd <|
  ni_row (ni_iload ni_dL_law_1115) ni_muLd <|
  ni_row (ni_okP (ni_iconst ni_dL_law_1117 (by decide +kernel))) (ni_muP (ni_eqPush fun _ => rfl)) <|
  ni_row (ni_okP (ni_iadd ni_dL_law_1118)) (ni_muP ni_eqI) <|
  ni_row (ni_sld ni_dL_law_1119) ni_muSld <|
  ni_row (ni_aloadn ni_dL_law_1120 rfl) ni_muLd <|
  ni_row (ni_statX (y := 68) ni_dL_law_1121 ni_w949 ni_w950 ni_w60 ni_w951 ⟨by decide +kernel, by decide +kernel, by decide +kernel⟩ (by decide) (by decide)) ni_muC <|
  ni_row (ni_istore ni_dL_law_1124 (by decide)) ni_muSt <|
  ni_row (ni_aloadn ni_dL_law_1126 rfl) ni_muLd <|
  ni_row (ni_aloadn ni_dL_law_1127 rfl) ni_muLd <|
  ni_row (ni_iload ni_dL_law_1128) ni_muLd <|
  ni_row (ni_okP (ni_iconst ni_dL_law_1130 (by decide +kernel))) (ni_muP (ni_eqPush fun _ => rfl)) <|
  ni_row (ni_okP (ni_iadd ni_dL_law_1131)) (ni_muP ni_eqI) <|
  ni_row (ni_sld ni_dL_law_1132) ni_muSld <|
  ni_row (ni_aloadn ni_dL_law_1133 rfl) ni_muLd <|
  ni_row (ni_iload ni_dL_law_1134) ni_muLd <|
  ni_row (ni_okP (ni_iconst ni_dL_law_1136 (by decide +kernel))) (ni_muP (ni_eqPush fun _ => rfl)) <|
  ni_row (ni_okP (ni_iadd ni_dL_law_1137)) (ni_muP ni_eqI) <|
  ni_row (ni_sld ni_dL_law_1138) ni_muSld <|
  ni_row (ni_aloadn ni_dL_law_1139 rfl) ni_muLd <|
  ni_row (ni_iload ni_dL_law_1140) ni_muLd <|
  ni_row (ni_okP (ni_iconst ni_dL_law_1142 (by decide +kernel))) (ni_muP (ni_eqPush fun _ => rfl)) <|
  ni_row (ni_okP (ni_iadd ni_dL_law_1143)) (ni_muP ni_eqI) <|
  ni_row (ni_sld ni_dL_law_1144) ni_muSld <|
  ni_row (ni_aloadn ni_dL_law_1145 rfl) ni_muLd <|
  ni_row (ni_iload ni_dL_law_1146) ni_muLd <|
  ni_row (ni_okP (ni_iconst ni_dL_law_1148 (by decide +kernel))) (ni_muP (ni_eqPush fun _ => rfl)) <|
  ni_row (ni_okP (ni_iadd ni_dL_law_1149)) (ni_muP ni_eqI) <|
  ni_row (ni_sld ni_dL_law_1150) ni_muSld <|
  ni_row (ni_virt (y := 112) (T := TX19) ni_dL_law_1151 (by decide) rfl rfl ni_w1846 ni_w1847 ni_w1848 ni_w71 ni_w1849 ⟨by decide +kernel, by decide +kernel, by decide +kernel⟩ (by decide) rfl) (ni_muV (by decide)) <|
  ni_row (ni_istore ni_dL_law_1154 (by decide)) ni_muSt <|
  ni_row (ni_aloadn ni_dL_law_1156 rfl) ni_muLd <|
  ni_row (ni_virt (y := 167) (T := TX19) ni_dL_law_1157 (by decide) rfl rfl ni_w1576 ni_w1577 ni_w1578 ni_w71 ni_w1579 ⟨by decide +kernel, by decide +kernel, by decide +kernel⟩ (by decide) rfl) (ni_muV (by decide)) <|
  ni_row (ni_iload ni_dL_law_1160) ni_muLd <|
  ni_row (ni_okP (ni_ic_eq ni_dL_law_1162 (by decide))) (ni_muP ni_eqIc) <|
  ni_row (ni_iload ni_dL_law_1167) ni_muLd <|
  ni_row (ni_okP (ni_if_ne ni_dL_law_1169 (by decide))) (ni_muP ni_eqIf) <|
  ni_row (ni_okP (ni_goto ni_dL_law_1184 (by decide))) (ni_muP ni_eqGo) <|
  ni_row0
def ni_pr85_13 (xs : List Int32) : List (Nat × ni_S) := [(1187, ni_sLd 3 1 1188),
  (1188, ni_sLd 3 0 1189),
  (1189, ni_sLd 0 5 1191),
  (1191, ni_sP (ni_gPush (.int 1) 1192)),
  (1192, ni_sP (ni_gI (fun x y => x + y) 1193)),
  (1193, ni_sSld xs 1194),
  (1194, ni_sLd 3 0 1195),
  (1195, ni_sLd 0 5 1197),
  (1197, ni_sP (ni_gPush (.int 2) 1198)),
  (1198, ni_sP (ni_gI (fun x y => x + y) 1199)),
  (1199, ni_sSld xs 1200),
  (1200, ni_sLd 3 0 1201),
  (1201, ni_sLd 0 5 1203),
  (1203, ni_sP (ni_gPush (.int 3) 1204)),
  (1204, ni_sP (ni_gI (fun x y => x + y) 1205)),
  (1205, ni_sSld xs 1206),
  (1206, ni_sLd 3 0 1207),
  (1207, ni_sLd 0 5 1209),
  (1209, ni_sP (ni_gPush (.int 4) 1210)),
  (1210, ni_sP (ni_gI (fun x y => x + y) 1211)),
  (1211, ni_sSld xs 1212),
  (1212, ni_sLd 3 3 1213),
  (1213, ni_sC 95 6 1216),
  (1216, ni_sSt 0 6 1218),
  (1218, ni_sLd 3 2 1219),
  (1219, ni_sLd 3 0 1220),
  (1220, ni_sLd 0 5 1222),
  (1222, ni_sP (ni_gPush (.int 1) 1223)),
  (1223, ni_sP (ni_gI (fun x y => x + y) 1224)),
  (1224, ni_sSld xs 1225),
  (1225, ni_sLd 3 0 1226),
  (1226, ni_sLd 0 5 1228),
  (1228, ni_sP (ni_gPush (.int 2) 1229)),
  (1229, ni_sP (ni_gI (fun x y => x + y) 1230)),
  (1230, ni_sSld xs 1231),
  (1231, ni_sLd 3 0 1232),
  (1232, ni_sLd 0 5 1234),
  (1234, ni_sP (ni_gPush (.int 3) 1235)),
  (1235, ni_sP (ni_gI (fun x y => x + y) 1236)),
  (1236, ni_sSld xs 1237),
  (1237, ni_sLd 3 0 1238),
  (1238, ni_sLd 0 5 1240),
  (1240, ni_sP (ni_gPush (.int 4) 1241)),
  (1241, ni_sP (ni_gI (fun x y => x + y) 1242)),
  (1242, ni_sSld xs 1243),
  (1243, ni_sV 154 4 18 1246),
  (1246, ni_sSt 0 7 1248),
  (1248, ni_sLd 3 2 1249),
  (1249, ni_sV 167 0 18 1252),
  (1252, ni_sLd 0 6 1254),
  (1254, ni_sP (ni_gIc (fun x y => decide (x = y)) 1259 1257)),
  (1259, ni_sLd 0 6 1261),
  (1261, ni_sP (ni_gIf (fun x => decide (¬ x = 0)) 1276 1264)),
  (1276, ni_sP (ni_gGo 3317))]
theorem ni_pk85_13 : ∀ r ∈ ni_pr85_13 xs, ni_Ok xs ⟨"SwitchyardLaw", "law", "([I)Z"⟩ cL_law 9 (some .boolean) [] r.1 r.2 ∧ ni_MU r.2 := ni_row (ni_aloadn ni_dL_law_1187 rfl) ni_muLd <|
  ni_row (ni_aloadn ni_dL_law_1188 rfl) ni_muLd <|
  ni_row (ni_iload ni_dL_law_1189) ni_muLd <|
  ni_row (ni_okP (ni_iconst ni_dL_law_1191 (by decide +kernel))) (ni_muP (ni_eqPush fun _ => rfl)) <|
  ni_row (ni_okP (ni_iadd ni_dL_law_1192)) (ni_muP ni_eqI) <|
  ni_row (ni_sld ni_dL_law_1193) ni_muSld <|
  ni_row (ni_aloadn ni_dL_law_1194 rfl) ni_muLd <|
  ni_row (ni_iload ni_dL_law_1195) ni_muLd <|
  ni_row (ni_okP (ni_iconst ni_dL_law_1197 (by decide +kernel))) (ni_muP (ni_eqPush fun _ => rfl)) <|
  ni_row (ni_okP (ni_iadd ni_dL_law_1198)) (ni_muP ni_eqI) <|
  ni_row (ni_sld ni_dL_law_1199) ni_muSld <|
  ni_row (ni_aloadn ni_dL_law_1200 rfl) ni_muLd <|
  ni_row (ni_iload ni_dL_law_1201) ni_muLd <|
  ni_row (ni_okP (ni_iconst ni_dL_law_1203 (by decide +kernel))) (ni_muP (ni_eqPush fun _ => rfl)) <|
  ni_row (ni_okP (ni_iadd ni_dL_law_1204)) (ni_muP ni_eqI) <|
  ni_row (ni_sld ni_dL_law_1205) ni_muSld <|
  ni_row (ni_aloadn ni_dL_law_1206 rfl) ni_muLd <|
  ni_row (ni_iload ni_dL_law_1207) ni_muLd <|
  ni_row (ni_okP (ni_iconst ni_dL_law_1209 (by decide +kernel))) (ni_muP (ni_eqPush fun _ => rfl)) <|
  ni_row (ni_okP (ni_iadd ni_dL_law_1210)) (ni_muP ni_eqI) <|
  ni_row (ni_sld ni_dL_law_1211) ni_muSld <|
  ni_row (ni_aloadn ni_dL_law_1212 rfl) ni_muLd <|
  ni_row (ni_statX (y := 95) ni_dL_law_1213 ni_w961 ni_w962 ni_w60 ni_w963 ⟨by decide +kernel, by decide +kernel, by decide +kernel⟩ (by decide) (by decide)) ni_muC <|
  ni_row (ni_istore ni_dL_law_1216 (by decide)) ni_muSt <|
  ni_row (ni_aloadn ni_dL_law_1218 rfl) ni_muLd <|
  ni_row (ni_aloadn ni_dL_law_1219 rfl) ni_muLd <|
  ni_row (ni_iload ni_dL_law_1220) ni_muLd <|
  ni_row (ni_okP (ni_iconst ni_dL_law_1222 (by decide +kernel))) (ni_muP (ni_eqPush fun _ => rfl)) <|
  ni_row (ni_okP (ni_iadd ni_dL_law_1223)) (ni_muP ni_eqI) <|
  ni_row (ni_sld ni_dL_law_1224) ni_muSld <|
  ni_row (ni_aloadn ni_dL_law_1225 rfl) ni_muLd <|
  ni_row (ni_iload ni_dL_law_1226) ni_muLd <|
  ni_row (ni_okP (ni_iconst ni_dL_law_1228 (by decide +kernel))) (ni_muP (ni_eqPush fun _ => rfl)) <|
  ni_row (ni_okP (ni_iadd ni_dL_law_1229)) (ni_muP ni_eqI) <|
  ni_row (ni_sld ni_dL_law_1230) ni_muSld <|
  ni_row (ni_aloadn ni_dL_law_1231 rfl) ni_muLd <|
  ni_row (ni_iload ni_dL_law_1232) ni_muLd <|
  ni_row (ni_okP (ni_iconst ni_dL_law_1234 (by decide +kernel))) (ni_muP (ni_eqPush fun _ => rfl)) <|
  ni_row (ni_okP (ni_iadd ni_dL_law_1235)) (ni_muP ni_eqI) <|
  ni_row (ni_sld ni_dL_law_1236) ni_muSld <|
  ni_row (ni_aloadn ni_dL_law_1237 rfl) ni_muLd <|
  ni_row (ni_iload ni_dL_law_1238) ni_muLd <|
  ni_row (ni_okP (ni_iconst ni_dL_law_1240 (by decide +kernel))) (ni_muP (ni_eqPush fun _ => rfl)) <|
  ni_row (ni_okP (ni_iadd ni_dL_law_1241)) (ni_muP ni_eqI) <|
  ni_row (ni_sld ni_dL_law_1242) ni_muSld <|
  ni_row (ni_virt (y := 154) (T := TX19) ni_dL_law_1243 (by decide) rfl rfl ni_w1959 ni_w1960 ni_w1961 ni_w71 ni_w1962 ⟨by decide +kernel, by decide +kernel, by decide +kernel⟩ (by decide) rfl) (ni_muV (by decide)) <|
  ni_row (ni_istore ni_dL_law_1246 (by decide)) ni_muSt <|
  ni_row (ni_aloadn ni_dL_law_1248 rfl) ni_muLd <|
  ni_row (ni_virt (y := 167) (T := TX19) ni_dL_law_1249 (by decide) rfl rfl ni_w1576 ni_w1577 ni_w1578 ni_w71 ni_w1579 ⟨by decide +kernel, by decide +kernel, by decide +kernel⟩ (by decide) rfl) (ni_muV (by decide)) <|
  ni_row (ni_iload ni_dL_law_1252) ni_muLd <|
  ni_row (ni_okP (ni_ic_eq ni_dL_law_1254 (by decide))) (ni_muP ni_eqIc) <|
  ni_row (ni_iload ni_dL_law_1259) ni_muLd <|
  ni_row (ni_okP (ni_if_ne ni_dL_law_1261 (by decide))) (ni_muP ni_eqIf) <|
  ni_row (ni_okP (ni_goto ni_dL_law_1276 (by decide))) (ni_muP ni_eqGo) <|
  ni_row0
def ni_pr85_14 (xs : List Int32) : List (Nat × ni_S) := [(1279, ni_sLd 3 1 1280),
  (1280, ni_sLd 3 0 1281),
  (1281, ni_sLd 0 5 1283),
  (1283, ni_sP (ni_gPush (.int 1) 1284)),
  (1284, ni_sP (ni_gI (fun x y => x + y) 1285)),
  (1285, ni_sSld xs 1286),
  (1286, ni_sLd 3 0 1287),
  (1287, ni_sLd 0 5 1289),
  (1289, ni_sP (ni_gPush (.int 2) 1290)),
  (1290, ni_sP (ni_gI (fun x y => x + y) 1291)),
  (1291, ni_sSld xs 1292),
  (1292, ni_sLd 3 0 1293),
  (1293, ni_sLd 0 5 1295),
  (1295, ni_sP (ni_gPush (.int 3) 1296)),
  (1296, ni_sP (ni_gI (fun x y => x + y) 1297)),
  (1297, ni_sSld xs 1298),
  (1298, ni_sLd 3 3 1299),
  (1299, ni_sC 102 5 1302),
  (1302, ni_sSt 0 6 1304),
  (1304, ni_sLd 3 2 1305),
  (1305, ni_sLd 3 0 1306),
  (1306, ni_sLd 0 5 1308),
  (1308, ni_sP (ni_gPush (.int 1) 1309)),
  (1309, ni_sP (ni_gI (fun x y => x + y) 1310)),
  (1310, ni_sSld xs 1311),
  (1311, ni_sLd 3 0 1312),
  (1312, ni_sLd 0 5 1314),
  (1314, ni_sP (ni_gPush (.int 2) 1315)),
  (1315, ni_sP (ni_gI (fun x y => x + y) 1316)),
  (1316, ni_sSld xs 1317),
  (1317, ni_sLd 3 0 1318),
  (1318, ni_sLd 0 5 1320),
  (1320, ni_sP (ni_gPush (.int 3) 1321)),
  (1321, ni_sP (ni_gI (fun x y => x + y) 1322)),
  (1322, ni_sSld xs 1323),
  (1323, ni_sV 161 3 18 1326),
  (1326, ni_sSt 0 7 1328),
  (1328, ni_sLd 3 2 1329),
  (1329, ni_sV 167 0 18 1332),
  (1332, ni_sLd 0 6 1334),
  (1334, ni_sP (ni_gIc (fun x y => decide (x = y)) 1339 1337)),
  (1339, ni_sLd 0 6 1341),
  (1341, ni_sP (ni_gIf (fun x => decide (¬ x = 0)) 1356 1344)),
  (1356, ni_sP (ni_gGo 3317))]
theorem ni_pk85_14 : ∀ r ∈ ni_pr85_14 xs, ni_Ok xs ⟨"SwitchyardLaw", "law", "([I)Z"⟩ cL_law 9 (some .boolean) [] r.1 r.2 ∧ ni_MU r.2 := ni_row (ni_aloadn ni_dL_law_1279 rfl) ni_muLd <|
  ni_row (ni_aloadn ni_dL_law_1280 rfl) ni_muLd <|
  ni_row (ni_iload ni_dL_law_1281) ni_muLd <|
  ni_row (ni_okP (ni_iconst ni_dL_law_1283 (by decide +kernel))) (ni_muP (ni_eqPush fun _ => rfl)) <|
  ni_row (ni_okP (ni_iadd ni_dL_law_1284)) (ni_muP ni_eqI) <|
  ni_row (ni_sld ni_dL_law_1285) ni_muSld <|
  ni_row (ni_aloadn ni_dL_law_1286 rfl) ni_muLd <|
  ni_row (ni_iload ni_dL_law_1287) ni_muLd <|
  ni_row (ni_okP (ni_iconst ni_dL_law_1289 (by decide +kernel))) (ni_muP (ni_eqPush fun _ => rfl)) <|
  ni_row (ni_okP (ni_iadd ni_dL_law_1290)) (ni_muP ni_eqI) <|
  ni_row (ni_sld ni_dL_law_1291) ni_muSld <|
  ni_row (ni_aloadn ni_dL_law_1292 rfl) ni_muLd <|
  ni_row (ni_iload ni_dL_law_1293) ni_muLd <|
  ni_row (ni_okP (ni_iconst ni_dL_law_1295 (by decide +kernel))) (ni_muP (ni_eqPush fun _ => rfl)) <|
  ni_row (ni_okP (ni_iadd ni_dL_law_1296)) (ni_muP ni_eqI) <|
  ni_row (ni_sld ni_dL_law_1297) ni_muSld <|
  ni_row (ni_aloadn ni_dL_law_1298 rfl) ni_muLd <|
  ni_row (ni_statX (y := 102) ni_dL_law_1299 ni_w973 ni_w974 ni_w60 ni_w975 ⟨by decide +kernel, by decide +kernel, by decide +kernel⟩ (by decide) (by decide)) ni_muC <|
  ni_row (ni_istore ni_dL_law_1302 (by decide)) ni_muSt <|
  ni_row (ni_aloadn ni_dL_law_1304 rfl) ni_muLd <|
  ni_row (ni_aloadn ni_dL_law_1305 rfl) ni_muLd <|
  ni_row (ni_iload ni_dL_law_1306) ni_muLd <|
  ni_row (ni_okP (ni_iconst ni_dL_law_1308 (by decide +kernel))) (ni_muP (ni_eqPush fun _ => rfl)) <|
  ni_row (ni_okP (ni_iadd ni_dL_law_1309)) (ni_muP ni_eqI) <|
  ni_row (ni_sld ni_dL_law_1310) ni_muSld <|
  ni_row (ni_aloadn ni_dL_law_1311 rfl) ni_muLd <|
  ni_row (ni_iload ni_dL_law_1312) ni_muLd <|
  ni_row (ni_okP (ni_iconst ni_dL_law_1314 (by decide +kernel))) (ni_muP (ni_eqPush fun _ => rfl)) <|
  ni_row (ni_okP (ni_iadd ni_dL_law_1315)) (ni_muP ni_eqI) <|
  ni_row (ni_sld ni_dL_law_1316) ni_muSld <|
  ni_row (ni_aloadn ni_dL_law_1317 rfl) ni_muLd <|
  ni_row (ni_iload ni_dL_law_1318) ni_muLd <|
  ni_row (ni_okP (ni_iconst ni_dL_law_1320 (by decide +kernel))) (ni_muP (ni_eqPush fun _ => rfl)) <|
  ni_row (ni_okP (ni_iadd ni_dL_law_1321)) (ni_muP ni_eqI) <|
  ni_row (ni_sld ni_dL_law_1322) ni_muSld <|
  ni_row (ni_virt (y := 161) (T := TX19) ni_dL_law_1323 (by decide) rfl rfl ni_w1968 ni_w1969 ni_w1970 ni_w71 ni_w1971 ⟨by decide +kernel, by decide +kernel, by decide +kernel⟩ (by decide) rfl) (ni_muV (by decide)) <|
  ni_row (ni_istore ni_dL_law_1326 (by decide)) ni_muSt <|
  ni_row (ni_aloadn ni_dL_law_1328 rfl) ni_muLd <|
  ni_row (ni_virt (y := 167) (T := TX19) ni_dL_law_1329 (by decide) rfl rfl ni_w1576 ni_w1577 ni_w1578 ni_w71 ni_w1579 ⟨by decide +kernel, by decide +kernel, by decide +kernel⟩ (by decide) rfl) (ni_muV (by decide)) <|
  ni_row (ni_iload ni_dL_law_1332) ni_muLd <|
  ni_row (ni_okP (ni_ic_eq ni_dL_law_1334 (by decide))) (ni_muP ni_eqIc) <|
  ni_row (ni_iload ni_dL_law_1339) ni_muLd <|
  ni_row (ni_okP (ni_if_ne ni_dL_law_1341 (by decide))) (ni_muP ni_eqIf) <|
  ni_row (ni_okP (ni_goto ni_dL_law_1356 (by decide))) (ni_muP ni_eqGo) <|
  ni_row0
def ni_pr85_15 (xs : List Int32) : List (Nat × ni_S) := [(1359, ni_sLd 3 1 1360),
  (1360, ni_sLd 3 0 1361),
  (1361, ni_sLd 0 5 1363),
  (1363, ni_sP (ni_gPush (.int 1) 1364)),
  (1364, ni_sP (ni_gI (fun x y => x + y) 1365)),
  (1365, ni_sSld xs 1366),
  (1366, ni_sLd 3 3 1367),
  (1367, ni_sC 105 3 1370),
  (1370, ni_sSt 0 6 1372),
  (1372, ni_sLd 3 2 1373),
  (1373, ni_sLd 3 0 1374),
  (1374, ni_sLd 0 5 1376),
  (1376, ni_sP (ni_gPush (.int 1) 1377)),
  (1377, ni_sP (ni_gI (fun x y => x + y) 1378)),
  (1378, ni_sSld xs 1379),
  (1379, ni_sV 166 1 18 1382),
  (1382, ni_sSt 0 7 1384),
  (1384, ni_sLd 3 2 1385),
  (1385, ni_sV 167 0 18 1388),
  (1388, ni_sLd 0 6 1390),
  (1390, ni_sP (ni_gIc (fun x y => decide (x = y)) 1395 1393)),
  (1395, ni_sLd 0 6 1397),
  (1397, ni_sP (ni_gIf (fun x => decide (¬ x = 0)) 1412 1400)),
  (1400, ni_sLd 3 3 1401),
  (1401, ni_sP (ni_gPush (.int 0) 1402)),
  (1402, ni_sAld .long 1 1403),
  (1403, ni_sLd 0 7 1405),
  (1405, ni_sP (ni_gU (fun x => .long x.toInt64) 1406)),
  (1406, ni_sP (ni_gJ (fun x y => .int (lg_cmp x y)) 1407)),
  (1407, ni_sP (ni_gIf (fun x => decide (x = 0)) 1412 1410)),
  (1412, ni_sP (ni_gGo 3317))]
theorem ni_pk85_15 : ∀ r ∈ ni_pr85_15 xs, ni_Ok xs ⟨"SwitchyardLaw", "law", "([I)Z"⟩ cL_law 9 (some .boolean) [] r.1 r.2 ∧ ni_MU r.2 := ni_row (ni_aloadn ni_dL_law_1359 rfl) ni_muLd <|
  ni_row (ni_aloadn ni_dL_law_1360 rfl) ni_muLd <|
  ni_row (ni_iload ni_dL_law_1361) ni_muLd <|
  ni_row (ni_okP (ni_iconst ni_dL_law_1363 (by decide +kernel))) (ni_muP (ni_eqPush fun _ => rfl)) <|
  ni_row (ni_okP (ni_iadd ni_dL_law_1364)) (ni_muP ni_eqI) <|
  ni_row (ni_sld ni_dL_law_1365) ni_muSld <|
  ni_row (ni_aloadn ni_dL_law_1366 rfl) ni_muLd <|
  ni_row (ni_statX (y := 105) ni_dL_law_1367 ni_w980 ni_w981 ni_w60 ni_w982 ⟨by decide +kernel, by decide +kernel, by decide +kernel⟩ (by decide) (by decide)) ni_muC <|
  ni_row (ni_istore ni_dL_law_1370 (by decide)) ni_muSt <|
  ni_row (ni_aloadn ni_dL_law_1372 rfl) ni_muLd <|
  ni_row (ni_aloadn ni_dL_law_1373 rfl) ni_muLd <|
  ni_row (ni_iload ni_dL_law_1374) ni_muLd <|
  ni_row (ni_okP (ni_iconst ni_dL_law_1376 (by decide +kernel))) (ni_muP (ni_eqPush fun _ => rfl)) <|
  ni_row (ni_okP (ni_iadd ni_dL_law_1377)) (ni_muP ni_eqI) <|
  ni_row (ni_sld ni_dL_law_1378) ni_muSld <|
  ni_row (ni_virt (y := 166) (T := TX19) ni_dL_law_1379 (by decide) rfl rfl ni_w1972 ni_w1973 ni_w1974 ni_w71 ni_w1975 ⟨by decide +kernel, by decide +kernel, by decide +kernel⟩ (by decide) rfl) (ni_muV (by decide)) <|
  ni_row (ni_istore ni_dL_law_1382 (by decide)) ni_muSt <|
  ni_row (ni_aloadn ni_dL_law_1384 rfl) ni_muLd <|
  ni_row (ni_virt (y := 167) (T := TX19) ni_dL_law_1385 (by decide) rfl rfl ni_w1576 ni_w1577 ni_w1578 ni_w71 ni_w1579 ⟨by decide +kernel, by decide +kernel, by decide +kernel⟩ (by decide) rfl) (ni_muV (by decide)) <|
  ni_row (ni_iload ni_dL_law_1388) ni_muLd <|
  ni_row (ni_okP (ni_ic_eq ni_dL_law_1390 (by decide))) (ni_muP ni_eqIc) <|
  ni_row (ni_iload ni_dL_law_1395) ni_muLd <|
  ni_row (ni_okP (ni_if_ne ni_dL_law_1397 (by decide))) (ni_muP ni_eqIf) <|
  ni_row (ni_aloadn ni_dL_law_1400 rfl) ni_muLd <|
  ni_row (ni_okP (ni_iconst ni_dL_law_1401 (by decide +kernel))) (ni_muP (ni_eqPush fun _ => rfl)) <|
  ni_row (ni_lald ni_dL_law_1402) ni_muAld <|
  ni_row (ni_iload ni_dL_law_1403) ni_muLd <|
  ni_row (ni_okP (ni_i2l ni_dL_law_1405)) (ni_muP (ni_eqU fun _ _ => rfl)) <|
  ni_row (ni_okP (ni_lcmp ni_dL_law_1406)) (ni_muP (ni_eqJ fun _ _ _ => rfl)) <|
  ni_row (ni_okP (ni_if_eq ni_dL_law_1407 (by decide))) (ni_muP ni_eqIf) <|
  ni_row (ni_okP (ni_goto ni_dL_law_1412 (by decide))) (ni_muP ni_eqGo) <|
  ni_row0
def ni_pr85_16 (xs : List Int32) : List (Nat × ni_S) := [(1415, ni_sLd 3 1 1416),
  (1416, ni_sV 51 0 10 1419),
  (1419, ni_sLd 3 2 1420),
  (1420, ni_sV 168 0 18 1423),
  (1423, ni_sP (ni_gIc (fun x y => decide (x = y)) 3317 1426))]
theorem ni_pk85_16 : ∀ r ∈ ni_pr85_16 xs, ni_Ok xs ⟨"SwitchyardLaw", "law", "([I)Z"⟩ cL_law 9 (some .boolean) [] r.1 r.2 ∧ ni_MU r.2 := ni_row (ni_aloadn ni_dL_law_1415 rfl) ni_muLd <|
  ni_row (ni_virt (y := 51) (T := TX11) ni_dL_law_1416 (by decide) rfl rfl ni_w483 ni_w484 ni_w485 ni_w61 ni_w486 ⟨by decide +kernel, by decide +kernel, by decide +kernel⟩ (by decide) rfl) (ni_muV (by decide)) <|
  ni_row (ni_aloadn ni_dL_law_1419 rfl) ni_muLd <|
  ni_row (ni_virt (y := 168) (T := TX19) ni_dL_law_1420 (by decide) rfl rfl ni_w2115 ni_w2116 ni_w2117 ni_w71 ni_w2118 ⟨by decide +kernel, by decide +kernel, by decide +kernel⟩ (by decide) rfl) (ni_muV (by decide)) <|
  ni_row (ni_okP (ni_ic_eq ni_dL_law_1423 (by decide))) (ni_muP ni_eqIc) <|
  ni_row0
def ni_pr85_17 (xs : List Int32) : List (Nat × ni_S) := [(1428, ni_sLd 3 1 1429),
  (1429, ni_sV 38 0 10 1432),
  (1432, ni_sLd 3 2 1433),
  (1433, ni_sV 153 0 18 1436),
  (1436, ni_sP (ni_gIc (fun x y => decide (x = y)) 3317 1439))]
theorem ni_pk85_17 : ∀ r ∈ ni_pr85_17 xs, ni_Ok xs ⟨"SwitchyardLaw", "law", "([I)Z"⟩ cL_law 9 (some .boolean) [] r.1 r.2 ∧ ni_MU r.2 := ni_row (ni_aloadn ni_dL_law_1428 rfl) ni_muLd <|
  ni_row (ni_virt (y := 38) (T := TX11) ni_dL_law_1429 (by decide) rfl rfl ni_w487 ni_w488 ni_w489 ni_w61 ni_w490 ⟨by decide +kernel, by decide +kernel, by decide +kernel⟩ (by decide) rfl) (ni_muV (by decide)) <|
  ni_row (ni_aloadn ni_dL_law_1432 rfl) ni_muLd <|
  ni_row (ni_virt (y := 153) (T := TX19) ni_dL_law_1433 (by decide) rfl rfl ni_w2123 ni_w2124 ni_w2125 ni_w71 ni_w2126 ⟨by decide +kernel, by decide +kernel, by decide +kernel⟩ (by decide) rfl) (ni_muV (by decide)) <|
  ni_row (ni_okP (ni_ic_eq ni_dL_law_1436 (by decide))) (ni_muP ni_eqIc) <|
  ni_row0
def ni_pr85_18 (xs : List Int32) : List (Nat × ni_S) := [(1441, ni_sLd 3 1 1442),
  (1442, ni_sV 28 0 10 1445),
  (1445, ni_sLd 3 2 1446),
  (1446, ni_sV 141 0 18 1449),
  (1449, ni_sP (ni_gIc (fun x y => decide (x = y)) 3317 1452))]
theorem ni_pk85_18 : ∀ r ∈ ni_pr85_18 xs, ni_Ok xs ⟨"SwitchyardLaw", "law", "([I)Z"⟩ cL_law 9 (some .boolean) [] r.1 r.2 ∧ ni_MU r.2 := ni_row (ni_aloadn ni_dL_law_1441 rfl) ni_muLd <|
  ni_row (ni_virt (y := 28) (T := TX11) ni_dL_law_1442 (by decide) rfl rfl ni_w491 ni_w492 ni_w493 ni_w61 ni_w494 ⟨by decide +kernel, by decide +kernel, by decide +kernel⟩ (by decide) rfl) (ni_muV (by decide)) <|
  ni_row (ni_aloadn ni_dL_law_1445 rfl) ni_muLd <|
  ni_row (ni_virt (y := 141) (T := TX19) ni_dL_law_1446 (by decide) rfl rfl ni_w2127 ni_w2128 ni_w2129 ni_w71 ni_w2130 ⟨by decide +kernel, by decide +kernel, by decide +kernel⟩ (by decide) rfl) (ni_muV (by decide)) <|
  ni_row (ni_okP (ni_ic_eq ni_dL_law_1449 (by decide))) (ni_muP ni_eqIc) <|
  ni_row0
def ni_pr85_19 (xs : List Int32) : List (Nat × ni_S) := [(1454, ni_sLd 3 1 1455),
  (1455, ni_sV 31 0 10 1458),
  (1458, ni_sLd 3 2 1459),
  (1459, ni_sV 144 0 18 1462),
  (1462, ni_sP (ni_gIc (fun x y => decide (x = y)) 3317 1465))]
theorem ni_pk85_19 : ∀ r ∈ ni_pr85_19 xs, ni_Ok xs ⟨"SwitchyardLaw", "law", "([I)Z"⟩ cL_law 9 (some .boolean) [] r.1 r.2 ∧ ni_MU r.2 := ni_row (ni_aloadn ni_dL_law_1454 rfl) ni_muLd <|
  ni_row (ni_virt (y := 31) (T := TX11) ni_dL_law_1455 (by decide) rfl rfl ni_w495 ni_w496 ni_w497 ni_w61 ni_w498 ⟨by decide +kernel, by decide +kernel, by decide +kernel⟩ (by decide) rfl) (ni_muV (by decide)) <|
  ni_row (ni_aloadn ni_dL_law_1458 rfl) ni_muLd <|
  ni_row (ni_virt (y := 144) (T := TX19) ni_dL_law_1459 (by decide) rfl rfl ni_w2131 ni_w2132 ni_w2133 ni_w71 ni_w2134 ⟨by decide +kernel, by decide +kernel, by decide +kernel⟩ (by decide) rfl) (ni_muV (by decide)) <|
  ni_row (ni_okP (ni_ic_eq ni_dL_law_1462 (by decide))) (ni_muP ni_eqIc) <|
  ni_row0
def ni_pr85_20 (xs : List Int32) : List (Nat × ni_S) := [(1467, ni_sLd 3 1 1468),
  (1468, ni_sV 49 0 10 1471),
  (1471, ni_sLd 3 2 1472),
  (1472, ni_sV 165 0 18 1475),
  (1475, ni_sP (ni_gIc (fun x y => decide (x = y)) 3317 1478))]
theorem ni_pk85_20 : ∀ r ∈ ni_pr85_20 xs, ni_Ok xs ⟨"SwitchyardLaw", "law", "([I)Z"⟩ cL_law 9 (some .boolean) [] r.1 r.2 ∧ ni_MU r.2 := ni_row (ni_aloadn ni_dL_law_1467 rfl) ni_muLd <|
  ni_row (ni_virt (y := 49) (T := TX11) ni_dL_law_1468 (by decide) rfl rfl ni_w499 ni_w500 ni_w501 ni_w61 ni_w502 ⟨by decide +kernel, by decide +kernel, by decide +kernel⟩ (by decide) rfl) (ni_muV (by decide)) <|
  ni_row (ni_aloadn ni_dL_law_1471 rfl) ni_muLd <|
  ni_row (ni_virt (y := 165) (T := TX19) ni_dL_law_1472 (by decide) rfl rfl ni_w2135 ni_w2136 ni_w2137 ni_w71 ni_w2138 ⟨by decide +kernel, by decide +kernel, by decide +kernel⟩ (by decide) rfl) (ni_muV (by decide)) <|
  ni_row (ni_okP (ni_ic_eq ni_dL_law_1475 (by decide))) (ni_muP ni_eqIc) <|
  ni_row0
def ni_pr85_21 (xs : List Int32) : List (Nat × ni_S) := [(1480, ni_sLd 3 1 1481),
  (1481, ni_sV 21 0 10 1484),
  (1484, ni_sLd 3 2 1485),
  (1485, ni_sV 128 0 18 1488),
  (1488, ni_sP (ni_gIc (fun x y => decide (x = y)) 3317 1491))]
theorem ni_pk85_21 : ∀ r ∈ ni_pr85_21 xs, ni_Ok xs ⟨"SwitchyardLaw", "law", "([I)Z"⟩ cL_law 9 (some .boolean) [] r.1 r.2 ∧ ni_MU r.2 := ni_row (ni_aloadn ni_dL_law_1480 rfl) ni_muLd <|
  ni_row (ni_virt (y := 21) (T := TX11) ni_dL_law_1481 (by decide) rfl rfl ni_w503 ni_w504 ni_w505 ni_w61 ni_w506 ⟨by decide +kernel, by decide +kernel, by decide +kernel⟩ (by decide) rfl) (ni_muV (by decide)) <|
  ni_row (ni_aloadn ni_dL_law_1484 rfl) ni_muLd <|
  ni_row (ni_virt (y := 128) (T := TX19) ni_dL_law_1485 (by decide) rfl rfl ni_w2139 ni_w2140 ni_w2141 ni_w71 ni_w2142 ⟨by decide +kernel, by decide +kernel, by decide +kernel⟩ (by decide) rfl) (ni_muV (by decide)) <|
  ni_row (ni_okP (ni_ic_eq ni_dL_law_1488 (by decide))) (ni_muP ni_eqIc) <|
  ni_row0
def ni_pr85_22 (xs : List Int32) : List (Nat × ni_S) := [(1493, ni_sLd 3 1 1494),
  (1494, ni_sLd 3 0 1495),
  (1495, ni_sLd 0 5 1497),
  (1497, ni_sP (ni_gPush (.int 1) 1498)),
  (1498, ni_sP (ni_gI (fun x y => x + y) 1499)),
  (1499, ni_sSld xs 1500),
  (1500, ni_sLd 3 3 1501),
  (1501, ni_sC 83 3 1504),
  (1504, ni_sSt 0 6 1506),
  (1506, ni_sLd 3 2 1507),
  (1507, ni_sLd 3 0 1508),
  (1508, ni_sLd 0 5 1510),
  (1510, ni_sP (ni_gPush (.int 1) 1511)),
  (1511, ni_sP (ni_gI (fun x y => x + y) 1512)),
  (1512, ni_sSld xs 1513),
  (1513, ni_sV 137 1 18 1516),
  (1516, ni_sSt 0 7 1518),
  (1518, ni_sLd 3 2 1519),
  (1519, ni_sV 167 0 18 1522),
  (1522, ni_sLd 0 6 1524),
  (1524, ni_sP (ni_gIc (fun x y => decide (x = y)) 1529 1527)),
  (1529, ni_sLd 0 6 1531),
  (1531, ni_sP (ni_gIf (fun x => decide (¬ x = 0)) 1553 1534)),
  (1553, ni_sP (ni_gGo 3317))]
theorem ni_pk85_22 : ∀ r ∈ ni_pr85_22 xs, ni_Ok xs ⟨"SwitchyardLaw", "law", "([I)Z"⟩ cL_law 9 (some .boolean) [] r.1 r.2 ∧ ni_MU r.2 := ni_row (ni_aloadn ni_dL_law_1493 rfl) ni_muLd <|
  ni_row (ni_aloadn ni_dL_law_1494 rfl) ni_muLd <|
  ni_row (ni_iload ni_dL_law_1495) ni_muLd <|
  ni_row (ni_okP (ni_iconst ni_dL_law_1497 (by decide +kernel))) (ni_muP (ni_eqPush fun _ => rfl)) <|
  ni_row (ni_okP (ni_iadd ni_dL_law_1498)) (ni_muP ni_eqI) <|
  ni_row (ni_sld ni_dL_law_1499) ni_muSld <|
  ni_row (ni_aloadn ni_dL_law_1500 rfl) ni_muLd <|
  ni_row (ni_statX (y := 83) ni_dL_law_1501 ni_w1130 ni_w1131 ni_w60 ni_w1132 ⟨by decide +kernel, by decide +kernel, by decide +kernel⟩ (by decide) (by decide)) ni_muC <|
  ni_row (ni_istore ni_dL_law_1504 (by decide)) ni_muSt <|
  ni_row (ni_aloadn ni_dL_law_1506 rfl) ni_muLd <|
  ni_row (ni_aloadn ni_dL_law_1507 rfl) ni_muLd <|
  ni_row (ni_iload ni_dL_law_1508) ni_muLd <|
  ni_row (ni_okP (ni_iconst ni_dL_law_1510 (by decide +kernel))) (ni_muP (ni_eqPush fun _ => rfl)) <|
  ni_row (ni_okP (ni_iadd ni_dL_law_1511)) (ni_muP ni_eqI) <|
  ni_row (ni_sld ni_dL_law_1512) ni_muSld <|
  ni_row (ni_virt (y := 137) (T := TX19) ni_dL_law_1513 (by decide) rfl rfl ni_w2143 ni_w2144 ni_w2145 ni_w71 ni_w2146 ⟨by decide +kernel, by decide +kernel, by decide +kernel⟩ (by decide) rfl) (ni_muV (by decide)) <|
  ni_row (ni_istore ni_dL_law_1516 (by decide)) ni_muSt <|
  ni_row (ni_aloadn ni_dL_law_1518 rfl) ni_muLd <|
  ni_row (ni_virt (y := 167) (T := TX19) ni_dL_law_1519 (by decide) rfl rfl ni_w1576 ni_w1577 ni_w1578 ni_w71 ni_w1579 ⟨by decide +kernel, by decide +kernel, by decide +kernel⟩ (by decide) rfl) (ni_muV (by decide)) <|
  ni_row (ni_iload ni_dL_law_1522) ni_muLd <|
  ni_row (ni_okP (ni_ic_eq ni_dL_law_1524 (by decide))) (ni_muP ni_eqIc) <|
  ni_row (ni_iload ni_dL_law_1529) ni_muLd <|
  ni_row (ni_okP (ni_if_ne ni_dL_law_1531 (by decide))) (ni_muP ni_eqIf) <|
  ni_row (ni_okP (ni_goto ni_dL_law_1553 (by decide))) (ni_muP ni_eqGo) <|
  ni_row0
def ni_pr85_23 (xs : List Int32) : List (Nat × ni_S) := [(1556, ni_sLd 3 1 1557),
  (1557, ni_sLd 3 0 1558),
  (1558, ni_sLd 0 5 1560),
  (1560, ni_sP (ni_gPush (.int 1) 1561)),
  (1561, ni_sP (ni_gI (fun x y => x + y) 1562)),
  (1562, ni_sSld xs 1563),
  (1563, ni_sLd 3 0 1564),
  (1564, ni_sLd 0 5 1566),
  (1566, ni_sP (ni_gPush (.int 2) 1567)),
  (1567, ni_sP (ni_gI (fun x y => x + y) 1568)),
  (1568, ni_sSld xs 1569),
  (1569, ni_sLd 3 3 1570),
  (1570, ni_sC 86 4 1573),
  (1573, ni_sSt 0 6 1575),
  (1575, ni_sLd 3 2 1576),
  (1576, ni_sLd 3 0 1577),
  (1577, ni_sLd 0 5 1579),
  (1579, ni_sP (ni_gPush (.int 1) 1580)),
  (1580, ni_sP (ni_gI (fun x y => x + y) 1581)),
  (1581, ni_sSld xs 1582),
  (1582, ni_sLd 3 0 1583),
  (1583, ni_sLd 0 5 1585),
  (1585, ni_sP (ni_gPush (.int 2) 1586)),
  (1586, ni_sP (ni_gI (fun x y => x + y) 1587)),
  (1587, ni_sSld xs 1588),
  (1588, ni_sV 139 2 18 1591),
  (1591, ni_sSt 0 7 1593),
  (1593, ni_sLd 3 2 1594),
  (1594, ni_sV 167 0 18 1597),
  (1597, ni_sLd 0 6 1599),
  (1599, ni_sP (ni_gIc (fun x y => decide (x = y)) 1604 1602)),
  (1604, ni_sLd 0 6 1606),
  (1606, ni_sP (ni_gIf (fun x => decide (¬ x = 0)) 1621 1609)),
  (1621, ni_sP (ni_gGo 3317))]
theorem ni_pk85_23 : ∀ r ∈ ni_pr85_23 xs, ni_Ok xs ⟨"SwitchyardLaw", "law", "([I)Z"⟩ cL_law 9 (some .boolean) [] r.1 r.2 ∧ ni_MU r.2 := ni_row (ni_aloadn ni_dL_law_1556 rfl) ni_muLd <|
  ni_row (ni_aloadn ni_dL_law_1557 rfl) ni_muLd <|
  ni_row (ni_iload ni_dL_law_1558) ni_muLd <|
  ni_row (ni_okP (ni_iconst ni_dL_law_1560 (by decide +kernel))) (ni_muP (ni_eqPush fun _ => rfl)) <|
  ni_row (ni_okP (ni_iadd ni_dL_law_1561)) (ni_muP ni_eqI) <|
  ni_row (ni_sld ni_dL_law_1562) ni_muSld <|
  ni_row (ni_aloadn ni_dL_law_1563 rfl) ni_muLd <|
  ni_row (ni_iload ni_dL_law_1564) ni_muLd <|
  ni_row (ni_okP (ni_iconst ni_dL_law_1566 (by decide +kernel))) (ni_muP (ni_eqPush fun _ => rfl)) <|
  ni_row (ni_okP (ni_iadd ni_dL_law_1567)) (ni_muP ni_eqI) <|
  ni_row (ni_sld ni_dL_law_1568) ni_muSld <|
  ni_row (ni_aloadn ni_dL_law_1569 rfl) ni_muLd <|
  ni_row (ni_statX (y := 86) ni_dL_law_1570 ni_w1137 ni_w1138 ni_w60 ni_w1139 ⟨by decide +kernel, by decide +kernel, by decide +kernel⟩ (by decide) (by decide)) ni_muC <|
  ni_row (ni_istore ni_dL_law_1573 (by decide)) ni_muSt <|
  ni_row (ni_aloadn ni_dL_law_1575 rfl) ni_muLd <|
  ni_row (ni_aloadn ni_dL_law_1576 rfl) ni_muLd <|
  ni_row (ni_iload ni_dL_law_1577) ni_muLd <|
  ni_row (ni_okP (ni_iconst ni_dL_law_1579 (by decide +kernel))) (ni_muP (ni_eqPush fun _ => rfl)) <|
  ni_row (ni_okP (ni_iadd ni_dL_law_1580)) (ni_muP ni_eqI) <|
  ni_row (ni_sld ni_dL_law_1581) ni_muSld <|
  ni_row (ni_aloadn ni_dL_law_1582 rfl) ni_muLd <|
  ni_row (ni_iload ni_dL_law_1583) ni_muLd <|
  ni_row (ni_okP (ni_iconst ni_dL_law_1585 (by decide +kernel))) (ni_muP (ni_eqPush fun _ => rfl)) <|
  ni_row (ni_okP (ni_iadd ni_dL_law_1586)) (ni_muP ni_eqI) <|
  ni_row (ni_sld ni_dL_law_1587) ni_muSld <|
  ni_row (ni_virt (y := 139) (T := TX19) ni_dL_law_1588 (by decide) rfl rfl ni_w2147 ni_w2148 ni_w2149 ni_w71 ni_w2150 ⟨by decide +kernel, by decide +kernel, by decide +kernel⟩ (by decide) rfl) (ni_muV (by decide)) <|
  ni_row (ni_istore ni_dL_law_1591 (by decide)) ni_muSt <|
  ni_row (ni_aloadn ni_dL_law_1593 rfl) ni_muLd <|
  ni_row (ni_virt (y := 167) (T := TX19) ni_dL_law_1594 (by decide) rfl rfl ni_w1576 ni_w1577 ni_w1578 ni_w71 ni_w1579 ⟨by decide +kernel, by decide +kernel, by decide +kernel⟩ (by decide) rfl) (ni_muV (by decide)) <|
  ni_row (ni_iload ni_dL_law_1597) ni_muLd <|
  ni_row (ni_okP (ni_ic_eq ni_dL_law_1599 (by decide))) (ni_muP ni_eqIc) <|
  ni_row (ni_iload ni_dL_law_1604) ni_muLd <|
  ni_row (ni_okP (ni_if_ne ni_dL_law_1606 (by decide))) (ni_muP ni_eqIf) <|
  ni_row (ni_okP (ni_goto ni_dL_law_1621 (by decide))) (ni_muP ni_eqGo) <|
  ni_row0
def ni_pr85_24 (xs : List Int32) : List (Nat × ni_S) := [(1624, ni_sLd 3 1 1625),
  (1625, ni_sV 27 0 10 1628),
  (1628, ni_sLd 3 2 1629),
  (1629, ni_sV 140 0 18 1632),
  (1632, ni_sP (ni_gIc (fun x y => decide (x = y)) 3317 1635))]
theorem ni_pk85_24 : ∀ r ∈ ni_pr85_24 xs, ni_Ok xs ⟨"SwitchyardLaw", "law", "([I)Z"⟩ cL_law 9 (some .boolean) [] r.1 r.2 ∧ ni_MU r.2 := ni_row (ni_aloadn ni_dL_law_1624 rfl) ni_muLd <|
  ni_row (ni_virt (y := 27) (T := TX11) ni_dL_law_1625 (by decide) rfl rfl ni_w507 ni_w508 ni_w509 ni_w61 ni_w510 ⟨by decide +kernel, by decide +kernel, by decide +kernel⟩ (by decide) rfl) (ni_muV (by decide)) <|
  ni_row (ni_aloadn ni_dL_law_1628 rfl) ni_muLd <|
  ni_row (ni_virt (y := 140) (T := TX19) ni_dL_law_1629 (by decide) rfl rfl ni_w2152 ni_w2153 ni_w2154 ni_w71 ni_w2155 ⟨by decide +kernel, by decide +kernel, by decide +kernel⟩ (by decide) rfl) (ni_muV (by decide)) <|
  ni_row (ni_okP (ni_ic_eq ni_dL_law_1632 (by decide))) (ni_muP ni_eqIc) <|
  ni_row0
def ni_pr85_25 (xs : List Int32) : List (Nat × ni_S) := [(1637, ni_sLd 3 1 1638),
  (1638, ni_sV 23 0 10 1641),
  (1641, ni_sLd 3 2 1642),
  (1642, ni_sV 136 0 18 1645),
  (1645, ni_sP (ni_gIc (fun x y => decide (x = y)) 3317 1648))]
theorem ni_pk85_25 : ∀ r ∈ ni_pr85_25 xs, ni_Ok xs ⟨"SwitchyardLaw", "law", "([I)Z"⟩ cL_law 9 (some .boolean) [] r.1 r.2 ∧ ni_MU r.2 := ni_row (ni_aloadn ni_dL_law_1637 rfl) ni_muLd <|
  ni_row (ni_virt (y := 23) (T := TX11) ni_dL_law_1638 (by decide) rfl rfl ni_w515 ni_w516 ni_w517 ni_w61 ni_w518 ⟨by decide +kernel, by decide +kernel, by decide +kernel⟩ (by decide) rfl) (ni_muV (by decide)) <|
  ni_row (ni_aloadn ni_dL_law_1641 rfl) ni_muLd <|
  ni_row (ni_virt (y := 136) (T := TX19) ni_dL_law_1642 (by decide) rfl rfl ni_w2160 ni_w2161 ni_w2162 ni_w71 ni_w2163 ⟨by decide +kernel, by decide +kernel, by decide +kernel⟩ (by decide) rfl) (ni_muV (by decide)) <|
  ni_row (ni_okP (ni_ic_eq ni_dL_law_1645 (by decide))) (ni_muP ni_eqIc) <|
  ni_row0
def ni_pr85_26 (xs : List Int32) : List (Nat × ni_S) := [(1650, ni_sLd 3 1 1651),
  (1651, ni_sLd 3 0 1652),
  (1652, ni_sLd 0 5 1654),
  (1654, ni_sP (ni_gPush (.int 1) 1655)),
  (1655, ni_sP (ni_gI (fun x y => x + y) 1656)),
  (1656, ni_sSld xs 1657),
  (1657, ni_sLd 3 0 1658),
  (1658, ni_sLd 0 5 1660),
  (1660, ni_sP (ni_gPush (.int 2) 1661)),
  (1661, ni_sP (ni_gI (fun x y => x + y) 1662)),
  (1662, ni_sSld xs 1663),
  (1663, ni_sLd 3 3 1664),
  (1664, ni_sC 76 4 1667),
  (1667, ni_sSt 0 6 1669),
  (1669, ni_sLd 3 2 1670),
  (1670, ni_sLd 3 0 1671),
  (1671, ni_sLd 0 5 1673),
  (1673, ni_sP (ni_gPush (.int 1) 1674)),
  (1674, ni_sP (ni_gI (fun x y => x + y) 1675)),
  (1675, ni_sSld xs 1676),
  (1676, ni_sLd 3 0 1677),
  (1677, ni_sLd 0 5 1679),
  (1679, ni_sP (ni_gPush (.int 2) 1680)),
  (1680, ni_sP (ni_gI (fun x y => x + y) 1681)),
  (1681, ni_sSld xs 1682),
  (1682, ni_sV 122 2 18 1685),
  (1685, ni_sSt 0 7 1687),
  (1687, ni_sLd 3 2 1688),
  (1688, ni_sV 167 0 18 1691),
  (1691, ni_sLd 0 6 1693),
  (1693, ni_sP (ni_gIc (fun x y => decide (x = y)) 1698 1696)),
  (1698, ni_sLd 0 6 1700),
  (1700, ni_sP (ni_gIf (fun x => decide (¬ x = 0)) 1715 1703)),
  (1715, ni_sP (ni_gGo 3317))]
theorem ni_pk85_26 : ∀ r ∈ ni_pr85_26 xs, ni_Ok xs ⟨"SwitchyardLaw", "law", "([I)Z"⟩ cL_law 9 (some .boolean) [] r.1 r.2 ∧ ni_MU r.2 := ni_row (ni_aloadn ni_dL_law_1650 rfl) ni_muLd <|
  ni_row (ni_aloadn ni_dL_law_1651 rfl) ni_muLd <|
  ni_row (ni_iload ni_dL_law_1652) ni_muLd <|
  ni_row (ni_okP (ni_iconst ni_dL_law_1654 (by decide +kernel))) (ni_muP (ni_eqPush fun _ => rfl)) <|
  ni_row (ni_okP (ni_iadd ni_dL_law_1655)) (ni_muP ni_eqI) <|
  ni_row (ni_sld ni_dL_law_1656) ni_muSld <|
  ni_row (ni_aloadn ni_dL_law_1657 rfl) ni_muLd <|
  ni_row (ni_iload ni_dL_law_1658) ni_muLd <|
  ni_row (ni_okP (ni_iconst ni_dL_law_1660 (by decide +kernel))) (ni_muP (ni_eqPush fun _ => rfl)) <|
  ni_row (ni_okP (ni_iadd ni_dL_law_1661)) (ni_muP ni_eqI) <|
  ni_row (ni_sld ni_dL_law_1662) ni_muSld <|
  ni_row (ni_aloadn ni_dL_law_1663 rfl) ni_muLd <|
  ni_row (ni_statX (y := 76) ni_dL_law_1664 ni_w1144 ni_w1145 ni_w60 ni_w1146 ⟨by decide +kernel, by decide +kernel, by decide +kernel⟩ (by decide) (by decide)) ni_muC <|
  ni_row (ni_istore ni_dL_law_1667 (by decide)) ni_muSt <|
  ni_row (ni_aloadn ni_dL_law_1669 rfl) ni_muLd <|
  ni_row (ni_aloadn ni_dL_law_1670 rfl) ni_muLd <|
  ni_row (ni_iload ni_dL_law_1671) ni_muLd <|
  ni_row (ni_okP (ni_iconst ni_dL_law_1673 (by decide +kernel))) (ni_muP (ni_eqPush fun _ => rfl)) <|
  ni_row (ni_okP (ni_iadd ni_dL_law_1674)) (ni_muP ni_eqI) <|
  ni_row (ni_sld ni_dL_law_1675) ni_muSld <|
  ni_row (ni_aloadn ni_dL_law_1676 rfl) ni_muLd <|
  ni_row (ni_iload ni_dL_law_1677) ni_muLd <|
  ni_row (ni_okP (ni_iconst ni_dL_law_1679 (by decide +kernel))) (ni_muP (ni_eqPush fun _ => rfl)) <|
  ni_row (ni_okP (ni_iadd ni_dL_law_1680)) (ni_muP ni_eqI) <|
  ni_row (ni_sld ni_dL_law_1681) ni_muSld <|
  ni_row (ni_virt (y := 122) (T := TX19) ni_dL_law_1682 (by decide) rfl rfl ni_w2164 ni_w2165 ni_w2166 ni_w71 ni_w2167 ⟨by decide +kernel, by decide +kernel, by decide +kernel⟩ (by decide) rfl) (ni_muV (by decide)) <|
  ni_row (ni_istore ni_dL_law_1685 (by decide)) ni_muSt <|
  ni_row (ni_aloadn ni_dL_law_1687 rfl) ni_muLd <|
  ni_row (ni_virt (y := 167) (T := TX19) ni_dL_law_1688 (by decide) rfl rfl ni_w1576 ni_w1577 ni_w1578 ni_w71 ni_w1579 ⟨by decide +kernel, by decide +kernel, by decide +kernel⟩ (by decide) rfl) (ni_muV (by decide)) <|
  ni_row (ni_iload ni_dL_law_1691) ni_muLd <|
  ni_row (ni_okP (ni_ic_eq ni_dL_law_1693 (by decide))) (ni_muP ni_eqIc) <|
  ni_row (ni_iload ni_dL_law_1698) ni_muLd <|
  ni_row (ni_okP (ni_if_ne ni_dL_law_1700 (by decide))) (ni_muP ni_eqIf) <|
  ni_row (ni_okP (ni_goto ni_dL_law_1715 (by decide))) (ni_muP ni_eqGo) <|
  ni_row0
def ni_pr85_27 (xs : List Int32) : List (Nat × ni_S) := [(1718, ni_sLd 3 1 1719),
  (1719, ni_sLd 3 0 1720),
  (1720, ni_sLd 0 5 1722),
  (1722, ni_sP (ni_gPush (.int 1) 1723)),
  (1723, ni_sP (ni_gI (fun x y => x + y) 1724)),
  (1724, ni_sSld xs 1725),
  (1725, ni_sLd 3 0 1726),
  (1726, ni_sLd 0 5 1728),
  (1728, ni_sP (ni_gPush (.int 2) 1729)),
  (1729, ni_sP (ni_gI (fun x y => x + y) 1730)),
  (1730, ni_sSld xs 1731),
  (1731, ni_sLd 3 3 1732),
  (1732, ni_sC 81 4 1735),
  (1735, ni_sSt 0 6 1737),
  (1737, ni_sLd 3 2 1738),
  (1738, ni_sLd 3 0 1739),
  (1739, ni_sLd 0 5 1741),
  (1741, ni_sP (ni_gPush (.int 1) 1742)),
  (1742, ni_sP (ni_gI (fun x y => x + y) 1743)),
  (1743, ni_sSld xs 1744),
  (1744, ni_sLd 3 0 1745),
  (1745, ni_sLd 0 5 1747),
  (1747, ni_sP (ni_gPush (.int 2) 1748)),
  (1748, ni_sP (ni_gI (fun x y => x + y) 1749)),
  (1749, ni_sSld xs 1750),
  (1750, ni_sV 127 2 18 1753),
  (1753, ni_sSt 0 7 1755),
  (1755, ni_sLd 3 2 1756),
  (1756, ni_sV 167 0 18 1759),
  (1759, ni_sLd 0 6 1761),
  (1761, ni_sP (ni_gIc (fun x y => decide (x = y)) 1766 1764)),
  (1766, ni_sLd 0 6 1768),
  (1768, ni_sP (ni_gIf (fun x => decide (¬ x = 0)) 1783 1771)),
  (1783, ni_sP (ni_gGo 3317))]
theorem ni_pk85_27 : ∀ r ∈ ni_pr85_27 xs, ni_Ok xs ⟨"SwitchyardLaw", "law", "([I)Z"⟩ cL_law 9 (some .boolean) [] r.1 r.2 ∧ ni_MU r.2 := ni_row (ni_aloadn ni_dL_law_1718 rfl) ni_muLd <|
  ni_row (ni_aloadn ni_dL_law_1719 rfl) ni_muLd <|
  ni_row (ni_iload ni_dL_law_1720) ni_muLd <|
  ni_row (ni_okP (ni_iconst ni_dL_law_1722 (by decide +kernel))) (ni_muP (ni_eqPush fun _ => rfl)) <|
  ni_row (ni_okP (ni_iadd ni_dL_law_1723)) (ni_muP ni_eqI) <|
  ni_row (ni_sld ni_dL_law_1724) ni_muSld <|
  ni_row (ni_aloadn ni_dL_law_1725 rfl) ni_muLd <|
  ni_row (ni_iload ni_dL_law_1726) ni_muLd <|
  ni_row (ni_okP (ni_iconst ni_dL_law_1728 (by decide +kernel))) (ni_muP (ni_eqPush fun _ => rfl)) <|
  ni_row (ni_okP (ni_iadd ni_dL_law_1729)) (ni_muP ni_eqI) <|
  ni_row (ni_sld ni_dL_law_1730) ni_muSld <|
  ni_row (ni_aloadn ni_dL_law_1731 rfl) ni_muLd <|
  ni_row (ni_statX (y := 81) ni_dL_law_1732 ni_w1151 ni_w1152 ni_w60 ni_w1153 ⟨by decide +kernel, by decide +kernel, by decide +kernel⟩ (by decide) (by decide)) ni_muC <|
  ni_row (ni_istore ni_dL_law_1735 (by decide)) ni_muSt <|
  ni_row (ni_aloadn ni_dL_law_1737 rfl) ni_muLd <|
  ni_row (ni_aloadn ni_dL_law_1738 rfl) ni_muLd <|
  ni_row (ni_iload ni_dL_law_1739) ni_muLd <|
  ni_row (ni_okP (ni_iconst ni_dL_law_1741 (by decide +kernel))) (ni_muP (ni_eqPush fun _ => rfl)) <|
  ni_row (ni_okP (ni_iadd ni_dL_law_1742)) (ni_muP ni_eqI) <|
  ni_row (ni_sld ni_dL_law_1743) ni_muSld <|
  ni_row (ni_aloadn ni_dL_law_1744 rfl) ni_muLd <|
  ni_row (ni_iload ni_dL_law_1745) ni_muLd <|
  ni_row (ni_okP (ni_iconst ni_dL_law_1747 (by decide +kernel))) (ni_muP (ni_eqPush fun _ => rfl)) <|
  ni_row (ni_okP (ni_iadd ni_dL_law_1748)) (ni_muP ni_eqI) <|
  ni_row (ni_sld ni_dL_law_1749) ni_muSld <|
  ni_row (ni_virt (y := 127) (T := TX19) ni_dL_law_1750 (by decide) rfl rfl ni_w2168 ni_w2169 ni_w2170 ni_w71 ni_w2171 ⟨by decide +kernel, by decide +kernel, by decide +kernel⟩ (by decide) rfl) (ni_muV (by decide)) <|
  ni_row (ni_istore ni_dL_law_1753 (by decide)) ni_muSt <|
  ni_row (ni_aloadn ni_dL_law_1755 rfl) ni_muLd <|
  ni_row (ni_virt (y := 167) (T := TX19) ni_dL_law_1756 (by decide) rfl rfl ni_w1576 ni_w1577 ni_w1578 ni_w71 ni_w1579 ⟨by decide +kernel, by decide +kernel, by decide +kernel⟩ (by decide) rfl) (ni_muV (by decide)) <|
  ni_row (ni_iload ni_dL_law_1759) ni_muLd <|
  ni_row (ni_okP (ni_ic_eq ni_dL_law_1761 (by decide))) (ni_muP ni_eqIc) <|
  ni_row (ni_iload ni_dL_law_1766) ni_muLd <|
  ni_row (ni_okP (ni_if_ne ni_dL_law_1768 (by decide))) (ni_muP ni_eqIf) <|
  ni_row (ni_okP (ni_goto ni_dL_law_1783 (by decide))) (ni_muP ni_eqGo) <|
  ni_row0
def ni_pr85_28 (xs : List Int32) : List (Nat × ni_S) := [(1786, ni_sLd 3 1 1787),
  (1787, ni_sLd 3 0 1788),
  (1788, ni_sLd 0 5 1790),
  (1790, ni_sP (ni_gPush (.int 1) 1791)),
  (1791, ni_sP (ni_gI (fun x y => x + y) 1792)),
  (1792, ni_sSld xs 1793),
  (1793, ni_sLd 3 3 1794),
  (1794, ni_sC 80 3 1797),
  (1797, ni_sSt 0 6 1799),
  (1799, ni_sLd 3 2 1800),
  (1800, ni_sLd 3 0 1801),
  (1801, ni_sLd 0 5 1803),
  (1803, ni_sP (ni_gPush (.int 1) 1804)),
  (1804, ni_sP (ni_gI (fun x y => x + y) 1805)),
  (1805, ni_sSld xs 1806),
  (1806, ni_sV 126 1 18 1809),
  (1809, ni_sSt 0 7 1811),
  (1811, ni_sLd 3 2 1812),
  (1812, ni_sV 167 0 18 1815),
  (1815, ni_sLd 0 6 1817),
  (1817, ni_sP (ni_gIc (fun x y => decide (x = y)) 1822 1820)),
  (1822, ni_sLd 0 6 1824),
  (1824, ni_sP (ni_gIf (fun x => decide (¬ x = 0)) 1839 1827)),
  (1839, ni_sP (ni_gGo 3317))]
theorem ni_pk85_28 : ∀ r ∈ ni_pr85_28 xs, ni_Ok xs ⟨"SwitchyardLaw", "law", "([I)Z"⟩ cL_law 9 (some .boolean) [] r.1 r.2 ∧ ni_MU r.2 := ni_row (ni_aloadn ni_dL_law_1786 rfl) ni_muLd <|
  ni_row (ni_aloadn ni_dL_law_1787 rfl) ni_muLd <|
  ni_row (ni_iload ni_dL_law_1788) ni_muLd <|
  ni_row (ni_okP (ni_iconst ni_dL_law_1790 (by decide +kernel))) (ni_muP (ni_eqPush fun _ => rfl)) <|
  ni_row (ni_okP (ni_iadd ni_dL_law_1791)) (ni_muP ni_eqI) <|
  ni_row (ni_sld ni_dL_law_1792) ni_muSld <|
  ni_row (ni_aloadn ni_dL_law_1793 rfl) ni_muLd <|
  ni_row (ni_statX (y := 80) ni_dL_law_1794 ni_w1158 ni_w1159 ni_w60 ni_w1160 ⟨by decide +kernel, by decide +kernel, by decide +kernel⟩ (by decide) (by decide)) ni_muC <|
  ni_row (ni_istore ni_dL_law_1797 (by decide)) ni_muSt <|
  ni_row (ni_aloadn ni_dL_law_1799 rfl) ni_muLd <|
  ni_row (ni_aloadn ni_dL_law_1800 rfl) ni_muLd <|
  ni_row (ni_iload ni_dL_law_1801) ni_muLd <|
  ni_row (ni_okP (ni_iconst ni_dL_law_1803 (by decide +kernel))) (ni_muP (ni_eqPush fun _ => rfl)) <|
  ni_row (ni_okP (ni_iadd ni_dL_law_1804)) (ni_muP ni_eqI) <|
  ni_row (ni_sld ni_dL_law_1805) ni_muSld <|
  ni_row (ni_virt (y := 126) (T := TX19) ni_dL_law_1806 (by decide) rfl rfl ni_w2172 ni_w2173 ni_w2174 ni_w71 ni_w2175 ⟨by decide +kernel, by decide +kernel, by decide +kernel⟩ (by decide) rfl) (ni_muV (by decide)) <|
  ni_row (ni_istore ni_dL_law_1809 (by decide)) ni_muSt <|
  ni_row (ni_aloadn ni_dL_law_1811 rfl) ni_muLd <|
  ni_row (ni_virt (y := 167) (T := TX19) ni_dL_law_1812 (by decide) rfl rfl ni_w1576 ni_w1577 ni_w1578 ni_w71 ni_w1579 ⟨by decide +kernel, by decide +kernel, by decide +kernel⟩ (by decide) rfl) (ni_muV (by decide)) <|
  ni_row (ni_iload ni_dL_law_1815) ni_muLd <|
  ni_row (ni_okP (ni_ic_eq ni_dL_law_1817 (by decide))) (ni_muP ni_eqIc) <|
  ni_row (ni_iload ni_dL_law_1822) ni_muLd <|
  ni_row (ni_okP (ni_if_ne ni_dL_law_1824 (by decide))) (ni_muP ni_eqIf) <|
  ni_row (ni_okP (ni_goto ni_dL_law_1839 (by decide))) (ni_muP ni_eqGo) <|
  ni_row0
def ni_pr85_29 (xs : List Int32) : List (Nat × ni_S) := [(1842, ni_sLd 3 1 1843),
  (1843, ni_sLd 3 0 1844),
  (1844, ni_sLd 0 5 1846),
  (1846, ni_sP (ni_gPush (.int 1) 1847)),
  (1847, ni_sP (ni_gI (fun x y => x + y) 1848)),
  (1848, ni_sSld xs 1849),
  (1849, ni_sLd 3 3 1850),
  (1850, ni_sC 108 3 1853),
  (1853, ni_sSt 0 6 1855),
  (1855, ni_sLd 3 2 1856),
  (1856, ni_sLd 3 0 1857),
  (1857, ni_sLd 0 5 1859),
  (1859, ni_sP (ni_gPush (.int 1) 1860)),
  (1860, ni_sP (ni_gI (fun x y => x + y) 1861)),
  (1861, ni_sSld xs 1862),
  (1862, ni_sV 171 1 18 1865),
  (1865, ni_sSt 0 7 1867),
  (1867, ni_sLd 3 2 1868),
  (1868, ni_sV 167 0 18 1871),
  (1871, ni_sLd 0 6 1873),
  (1873, ni_sP (ni_gIc (fun x y => decide (x = y)) 1878 1876)),
  (1878, ni_sLd 0 6 1880),
  (1880, ni_sP (ni_gIf (fun x => decide (¬ x = 0)) 1895 1883)),
  (1895, ni_sP (ni_gGo 3317))]
theorem ni_pk85_29 : ∀ r ∈ ni_pr85_29 xs, ni_Ok xs ⟨"SwitchyardLaw", "law", "([I)Z"⟩ cL_law 9 (some .boolean) [] r.1 r.2 ∧ ni_MU r.2 := ni_row (ni_aloadn ni_dL_law_1842 rfl) ni_muLd <|
  ni_row (ni_aloadn ni_dL_law_1843 rfl) ni_muLd <|
  ni_row (ni_iload ni_dL_law_1844) ni_muLd <|
  ni_row (ni_okP (ni_iconst ni_dL_law_1846 (by decide +kernel))) (ni_muP (ni_eqPush fun _ => rfl)) <|
  ni_row (ni_okP (ni_iadd ni_dL_law_1847)) (ni_muP ni_eqI) <|
  ni_row (ni_sld ni_dL_law_1848) ni_muSld <|
  ni_row (ni_aloadn ni_dL_law_1849 rfl) ni_muLd <|
  ni_row (ni_statX (y := 108) ni_dL_law_1850 ni_w1165 ni_w1166 ni_w60 ni_w1167 ⟨by decide +kernel, by decide +kernel, by decide +kernel⟩ (by decide) (by decide)) ni_muC <|
  ni_row (ni_istore ni_dL_law_1853 (by decide)) ni_muSt <|
  ni_row (ni_aloadn ni_dL_law_1855 rfl) ni_muLd <|
  ni_row (ni_aloadn ni_dL_law_1856 rfl) ni_muLd <|
  ni_row (ni_iload ni_dL_law_1857) ni_muLd <|
  ni_row (ni_okP (ni_iconst ni_dL_law_1859 (by decide +kernel))) (ni_muP (ni_eqPush fun _ => rfl)) <|
  ni_row (ni_okP (ni_iadd ni_dL_law_1860)) (ni_muP ni_eqI) <|
  ni_row (ni_sld ni_dL_law_1861) ni_muSld <|
  ni_row (ni_virt (y := 171) (T := TX19) ni_dL_law_1862 (by decide) rfl rfl ni_w2177 ni_w2178 ni_w2179 ni_w71 ni_w2180 ⟨by decide +kernel, by decide +kernel, by decide +kernel⟩ (by decide) rfl) (ni_muV (by decide)) <|
  ni_row (ni_istore ni_dL_law_1865 (by decide)) ni_muSt <|
  ni_row (ni_aloadn ni_dL_law_1867 rfl) ni_muLd <|
  ni_row (ni_virt (y := 167) (T := TX19) ni_dL_law_1868 (by decide) rfl rfl ni_w1576 ni_w1577 ni_w1578 ni_w71 ni_w1579 ⟨by decide +kernel, by decide +kernel, by decide +kernel⟩ (by decide) rfl) (ni_muV (by decide)) <|
  ni_row (ni_iload ni_dL_law_1871) ni_muLd <|
  ni_row (ni_okP (ni_ic_eq ni_dL_law_1873 (by decide))) (ni_muP ni_eqIc) <|
  ni_row (ni_iload ni_dL_law_1878) ni_muLd <|
  ni_row (ni_okP (ni_if_ne ni_dL_law_1880 (by decide))) (ni_muP ni_eqIf) <|
  ni_row (ni_okP (ni_goto ni_dL_law_1895 (by decide))) (ni_muP ni_eqGo) <|
  ni_row0
def ni_pr85_30 (xs : List Int32) : List (Nat × ni_S) := [(1898, ni_sLd 3 1 1899),
  (1899, ni_sLd 3 0 1900),
  (1900, ni_sLd 0 5 1902),
  (1902, ni_sP (ni_gPush (.int 1) 1903)),
  (1903, ni_sP (ni_gI (fun x y => x + y) 1904)),
  (1904, ni_sSld xs 1905),
  (1905, ni_sLd 3 3 1906),
  (1906, ni_sC 107 3 1909),
  (1909, ni_sSt 0 6 1911),
  (1911, ni_sLd 3 2 1912),
  (1912, ni_sLd 3 0 1913),
  (1913, ni_sLd 0 5 1915),
  (1915, ni_sP (ni_gPush (.int 1) 1916)),
  (1916, ni_sP (ni_gI (fun x y => x + y) 1917)),
  (1917, ni_sSld xs 1918),
  (1918, ni_sV 170 1 18 1921),
  (1921, ni_sSt 0 7 1923),
  (1923, ni_sLd 3 2 1924),
  (1924, ni_sV 167 0 18 1927),
  (1927, ni_sLd 0 6 1929),
  (1929, ni_sP (ni_gIc (fun x y => decide (x = y)) 1934 1932)),
  (1934, ni_sLd 0 6 1936),
  (1936, ni_sP (ni_gIf (fun x => decide (¬ x = 0)) 1951 1939)),
  (1951, ni_sP (ni_gGo 3317))]
theorem ni_pk85_30 : ∀ r ∈ ni_pr85_30 xs, ni_Ok xs ⟨"SwitchyardLaw", "law", "([I)Z"⟩ cL_law 9 (some .boolean) [] r.1 r.2 ∧ ni_MU r.2 := ni_row (ni_aloadn ni_dL_law_1898 rfl) ni_muLd <|
  ni_row (ni_aloadn ni_dL_law_1899 rfl) ni_muLd <|
  ni_row (ni_iload ni_dL_law_1900) ni_muLd <|
  ni_row (ni_okP (ni_iconst ni_dL_law_1902 (by decide +kernel))) (ni_muP (ni_eqPush fun _ => rfl)) <|
  ni_row (ni_okP (ni_iadd ni_dL_law_1903)) (ni_muP ni_eqI) <|
  ni_row (ni_sld ni_dL_law_1904) ni_muSld <|
  ni_row (ni_aloadn ni_dL_law_1905 rfl) ni_muLd <|
  ni_row (ni_statX (y := 107) ni_dL_law_1906 ni_w1172 ni_w1173 ni_w60 ni_w1174 ⟨by decide +kernel, by decide +kernel, by decide +kernel⟩ (by decide) (by decide)) ni_muC <|
  ni_row (ni_istore ni_dL_law_1909 (by decide)) ni_muSt <|
  ni_row (ni_aloadn ni_dL_law_1911 rfl) ni_muLd <|
  ni_row (ni_aloadn ni_dL_law_1912 rfl) ni_muLd <|
  ni_row (ni_iload ni_dL_law_1913) ni_muLd <|
  ni_row (ni_okP (ni_iconst ni_dL_law_1915 (by decide +kernel))) (ni_muP (ni_eqPush fun _ => rfl)) <|
  ni_row (ni_okP (ni_iadd ni_dL_law_1916)) (ni_muP ni_eqI) <|
  ni_row (ni_sld ni_dL_law_1917) ni_muSld <|
  ni_row (ni_virt (y := 170) (T := TX19) ni_dL_law_1918 (by decide) rfl rfl ni_w2190 ni_w2191 ni_w2192 ni_w71 ni_w2193 ⟨by decide +kernel, by decide +kernel, by decide +kernel⟩ (by decide) rfl) (ni_muV (by decide)) <|
  ni_row (ni_istore ni_dL_law_1921 (by decide)) ni_muSt <|
  ni_row (ni_aloadn ni_dL_law_1923 rfl) ni_muLd <|
  ni_row (ni_virt (y := 167) (T := TX19) ni_dL_law_1924 (by decide) rfl rfl ni_w1576 ni_w1577 ni_w1578 ni_w71 ni_w1579 ⟨by decide +kernel, by decide +kernel, by decide +kernel⟩ (by decide) rfl) (ni_muV (by decide)) <|
  ni_row (ni_iload ni_dL_law_1927) ni_muLd <|
  ni_row (ni_okP (ni_ic_eq ni_dL_law_1929 (by decide))) (ni_muP ni_eqIc) <|
  ni_row (ni_iload ni_dL_law_1934) ni_muLd <|
  ni_row (ni_okP (ni_if_ne ni_dL_law_1936 (by decide))) (ni_muP ni_eqIf) <|
  ni_row (ni_okP (ni_goto ni_dL_law_1951 (by decide))) (ni_muP ni_eqGo) <|
  ni_row0
def ni_pr85_31 (xs : List Int32) : List (Nat × ni_S) := [(1954, ni_sLd 3 1 1955),
  (1955, ni_sLd 3 0 1956),
  (1956, ni_sLd 0 5 1958),
  (1958, ni_sP (ni_gPush (.int 1) 1959)),
  (1959, ni_sP (ni_gI (fun x y => x + y) 1960)),
  (1960, ni_sSld xs 1961),
  (1961, ni_sLd 3 0 1962),
  (1962, ni_sLd 0 5 1964),
  (1964, ni_sP (ni_gPush (.int 2) 1965)),
  (1965, ni_sP (ni_gI (fun x y => x + y) 1966)),
  (1966, ni_sSld xs 1967),
  (1967, ni_sLd 3 3 1968),
  (1968, ni_sC 87 4 1971),
  (1971, ni_sSt 0 6 1973),
  (1973, ni_sLd 3 2 1974),
  (1974, ni_sLd 3 0 1975),
  (1975, ni_sLd 0 5 1977),
  (1977, ni_sP (ni_gPush (.int 1) 1978)),
  (1978, ni_sP (ni_gI (fun x y => x + y) 1979)),
  (1979, ni_sSld xs 1980),
  (1980, ni_sLd 3 0 1981),
  (1981, ni_sLd 0 5 1983),
  (1983, ni_sP (ni_gPush (.int 2) 1984)),
  (1984, ni_sP (ni_gI (fun x y => x + y) 1985)),
  (1985, ni_sSld xs 1986),
  (1986, ni_sV 142 2 18 1989),
  (1989, ni_sSt 0 7 1991),
  (1991, ni_sLd 3 2 1992),
  (1992, ni_sV 167 0 18 1995),
  (1995, ni_sLd 0 6 1997),
  (1997, ni_sP (ni_gIc (fun x y => decide (x = y)) 2002 2000)),
  (2002, ni_sLd 0 6 2004),
  (2004, ni_sP (ni_gIf (fun x => decide (¬ x = 0)) 2019 2007)),
  (2019, ni_sP (ni_gGo 3317))]
theorem ni_pk85_31 : ∀ r ∈ ni_pr85_31 xs, ni_Ok xs ⟨"SwitchyardLaw", "law", "([I)Z"⟩ cL_law 9 (some .boolean) [] r.1 r.2 ∧ ni_MU r.2 := ni_row (ni_aloadn ni_dL_law_1954 rfl) ni_muLd <|
  ni_row (ni_aloadn ni_dL_law_1955 rfl) ni_muLd <|
  ni_row (ni_iload ni_dL_law_1956) ni_muLd <|
  ni_row (ni_okP (ni_iconst ni_dL_law_1958 (by decide +kernel))) (ni_muP (ni_eqPush fun _ => rfl)) <|
  ni_row (ni_okP (ni_iadd ni_dL_law_1959)) (ni_muP ni_eqI) <|
  ni_row (ni_sld ni_dL_law_1960) ni_muSld <|
  ni_row (ni_aloadn ni_dL_law_1961 rfl) ni_muLd <|
  ni_row (ni_iload ni_dL_law_1962) ni_muLd <|
  ni_row (ni_okP (ni_iconst ni_dL_law_1964 (by decide +kernel))) (ni_muP (ni_eqPush fun _ => rfl)) <|
  ni_row (ni_okP (ni_iadd ni_dL_law_1965)) (ni_muP ni_eqI) <|
  ni_row (ni_sld ni_dL_law_1966) ni_muSld <|
  ni_row (ni_aloadn ni_dL_law_1967 rfl) ni_muLd <|
  ni_row (ni_statX (y := 87) ni_dL_law_1968 ni_w1179 ni_w1180 ni_w60 ni_w1181 ⟨by decide +kernel, by decide +kernel, by decide +kernel⟩ (by decide) (by decide)) ni_muC <|
  ni_row (ni_istore ni_dL_law_1971 (by decide)) ni_muSt <|
  ni_row (ni_aloadn ni_dL_law_1973 rfl) ni_muLd <|
  ni_row (ni_aloadn ni_dL_law_1974 rfl) ni_muLd <|
  ni_row (ni_iload ni_dL_law_1975) ni_muLd <|
  ni_row (ni_okP (ni_iconst ni_dL_law_1977 (by decide +kernel))) (ni_muP (ni_eqPush fun _ => rfl)) <|
  ni_row (ni_okP (ni_iadd ni_dL_law_1978)) (ni_muP ni_eqI) <|
  ni_row (ni_sld ni_dL_law_1979) ni_muSld <|
  ni_row (ni_aloadn ni_dL_law_1980 rfl) ni_muLd <|
  ni_row (ni_iload ni_dL_law_1981) ni_muLd <|
  ni_row (ni_okP (ni_iconst ni_dL_law_1983 (by decide +kernel))) (ni_muP (ni_eqPush fun _ => rfl)) <|
  ni_row (ni_okP (ni_iadd ni_dL_law_1984)) (ni_muP ni_eqI) <|
  ni_row (ni_sld ni_dL_law_1985) ni_muSld <|
  ni_row (ni_virt (y := 142) (T := TX19) ni_dL_law_1986 (by decide) rfl rfl ni_w2199 ni_w2200 ni_w2201 ni_w71 ni_w2202 ⟨by decide +kernel, by decide +kernel, by decide +kernel⟩ (by decide) rfl) (ni_muV (by decide)) <|
  ni_row (ni_istore ni_dL_law_1989 (by decide)) ni_muSt <|
  ni_row (ni_aloadn ni_dL_law_1991 rfl) ni_muLd <|
  ni_row (ni_virt (y := 167) (T := TX19) ni_dL_law_1992 (by decide) rfl rfl ni_w1576 ni_w1577 ni_w1578 ni_w71 ni_w1579 ⟨by decide +kernel, by decide +kernel, by decide +kernel⟩ (by decide) rfl) (ni_muV (by decide)) <|
  ni_row (ni_iload ni_dL_law_1995) ni_muLd <|
  ni_row (ni_okP (ni_ic_eq ni_dL_law_1997 (by decide))) (ni_muP ni_eqIc) <|
  ni_row (ni_iload ni_dL_law_2002) ni_muLd <|
  ni_row (ni_okP (ni_if_ne ni_dL_law_2004 (by decide))) (ni_muP ni_eqIf) <|
  ni_row (ni_okP (ni_goto ni_dL_law_2019 (by decide))) (ni_muP ni_eqGo) <|
  ni_row0
def ni_pr85_32 (xs : List Int32) : List (Nat × ni_S) := [(2022, ni_sLd 3 1 2023),
  (2023, ni_sLd 3 0 2024),
  (2024, ni_sLd 0 5 2026),
  (2026, ni_sP (ni_gPush (.int 1) 2027)),
  (2027, ni_sP (ni_gI (fun x y => x + y) 2028)),
  (2028, ni_sSld xs 2029),
  (2029, ni_sLd 3 0 2030),
  (2030, ni_sLd 0 5 2032),
  (2032, ni_sP (ni_gPush (.int 2) 2033)),
  (2033, ni_sP (ni_gI (fun x y => x + y) 2034)),
  (2034, ni_sSld xs 2035),
  (2035, ni_sLd 3 3 2036),
  (2036, ni_sC 82 4 2039),
  (2039, ni_sSt 0 6 2041),
  (2041, ni_sLd 3 2 2042),
  (2042, ni_sLd 3 0 2043),
  (2043, ni_sLd 0 5 2045),
  (2045, ni_sP (ni_gPush (.int 1) 2046)),
  (2046, ni_sP (ni_gI (fun x y => x + y) 2047)),
  (2047, ni_sSld xs 2048),
  (2048, ni_sLd 3 0 2049),
  (2049, ni_sLd 0 5 2051),
  (2051, ni_sP (ni_gPush (.int 2) 2052)),
  (2052, ni_sP (ni_gI (fun x y => x + y) 2053)),
  (2053, ni_sSld xs 2054),
  (2054, ni_sV 129 2 18 2057),
  (2057, ni_sSt 0 7 2059),
  (2059, ni_sLd 3 2 2060),
  (2060, ni_sV 167 0 18 2063),
  (2063, ni_sLd 0 6 2065),
  (2065, ni_sP (ni_gIc (fun x y => decide (x = y)) 2070 2068)),
  (2070, ni_sLd 0 6 2072),
  (2072, ni_sP (ni_gIf (fun x => decide (¬ x = 0)) 2087 2075)),
  (2087, ni_sP (ni_gGo 3317))]
theorem ni_pk85_32 : ∀ r ∈ ni_pr85_32 xs, ni_Ok xs ⟨"SwitchyardLaw", "law", "([I)Z"⟩ cL_law 9 (some .boolean) [] r.1 r.2 ∧ ni_MU r.2 := ni_row (ni_aloadn ni_dL_law_2022 rfl) ni_muLd <|
  ni_row (ni_aloadn ni_dL_law_2023 rfl) ni_muLd <|
  ni_row (ni_iload ni_dL_law_2024) ni_muLd <|
  ni_row (ni_okP (ni_iconst ni_dL_law_2026 (by decide +kernel))) (ni_muP (ni_eqPush fun _ => rfl)) <|
  ni_row (ni_okP (ni_iadd ni_dL_law_2027)) (ni_muP ni_eqI) <|
  ni_row (ni_sld ni_dL_law_2028) ni_muSld <|
  ni_row (ni_aloadn ni_dL_law_2029 rfl) ni_muLd <|
  ni_row (ni_iload ni_dL_law_2030) ni_muLd <|
  ni_row (ni_okP (ni_iconst ni_dL_law_2032 (by decide +kernel))) (ni_muP (ni_eqPush fun _ => rfl)) <|
  ni_row (ni_okP (ni_iadd ni_dL_law_2033)) (ni_muP ni_eqI) <|
  ni_row (ni_sld ni_dL_law_2034) ni_muSld <|
  ni_row (ni_aloadn ni_dL_law_2035 rfl) ni_muLd <|
  ni_row (ni_statX (y := 82) ni_dL_law_2036 ni_w1190 ni_w1191 ni_w60 ni_w1192 ⟨by decide +kernel, by decide +kernel, by decide +kernel⟩ (by decide) (by decide)) ni_muC <|
  ni_row (ni_istore ni_dL_law_2039 (by decide)) ni_muSt <|
  ni_row (ni_aloadn ni_dL_law_2041 rfl) ni_muLd <|
  ni_row (ni_aloadn ni_dL_law_2042 rfl) ni_muLd <|
  ni_row (ni_iload ni_dL_law_2043) ni_muLd <|
  ni_row (ni_okP (ni_iconst ni_dL_law_2045 (by decide +kernel))) (ni_muP (ni_eqPush fun _ => rfl)) <|
  ni_row (ni_okP (ni_iadd ni_dL_law_2046)) (ni_muP ni_eqI) <|
  ni_row (ni_sld ni_dL_law_2047) ni_muSld <|
  ni_row (ni_aloadn ni_dL_law_2048 rfl) ni_muLd <|
  ni_row (ni_iload ni_dL_law_2049) ni_muLd <|
  ni_row (ni_okP (ni_iconst ni_dL_law_2051 (by decide +kernel))) (ni_muP (ni_eqPush fun _ => rfl)) <|
  ni_row (ni_okP (ni_iadd ni_dL_law_2052)) (ni_muP ni_eqI) <|
  ni_row (ni_sld ni_dL_law_2053) ni_muSld <|
  ni_row (ni_virt (y := 129) (T := TX19) ni_dL_law_2054 (by decide) rfl rfl ni_w2210 ni_w2211 ni_w2212 ni_w71 ni_w2213 ⟨by decide +kernel, by decide +kernel, by decide +kernel⟩ (by decide) rfl) (ni_muV (by decide)) <|
  ni_row (ni_istore ni_dL_law_2057 (by decide)) ni_muSt <|
  ni_row (ni_aloadn ni_dL_law_2059 rfl) ni_muLd <|
  ni_row (ni_virt (y := 167) (T := TX19) ni_dL_law_2060 (by decide) rfl rfl ni_w1576 ni_w1577 ni_w1578 ni_w71 ni_w1579 ⟨by decide +kernel, by decide +kernel, by decide +kernel⟩ (by decide) rfl) (ni_muV (by decide)) <|
  ni_row (ni_iload ni_dL_law_2063) ni_muLd <|
  ni_row (ni_okP (ni_ic_eq ni_dL_law_2065 (by decide))) (ni_muP ni_eqIc) <|
  ni_row (ni_iload ni_dL_law_2070) ni_muLd <|
  ni_row (ni_okP (ni_if_ne ni_dL_law_2072 (by decide))) (ni_muP ni_eqIf) <|
  ni_row (ni_okP (ni_goto ni_dL_law_2087 (by decide))) (ni_muP ni_eqGo) <|
  ni_row0
def ni_pr85_33 (xs : List Int32) : List (Nat × ni_S) := [(2090, ni_sLd 3 1 2091),
  (2091, ni_sLd 3 0 2092),
  (2092, ni_sLd 0 5 2094),
  (2094, ni_sP (ni_gPush (.int 1) 2095)),
  (2095, ni_sP (ni_gI (fun x y => x + y) 2096)),
  (2096, ni_sSld xs 2097),
  (2097, ni_sLd 3 0 2098),
  (2098, ni_sLd 0 5 2100),
  (2100, ni_sP (ni_gPush (.int 2) 2101)),
  (2101, ni_sP (ni_gI (fun x y => x + y) 2102)),
  (2102, ni_sSld xs 2103),
  (2103, ni_sLd 3 3 2104),
  (2104, ni_sC 104 4 2107),
  (2107, ni_sSt 0 6 2109),
  (2109, ni_sLd 3 2 2110),
  (2110, ni_sLd 3 0 2111),
  (2111, ni_sLd 0 5 2113),
  (2113, ni_sP (ni_gPush (.int 1) 2114)),
  (2114, ni_sP (ni_gI (fun x y => x + y) 2115)),
  (2115, ni_sSld xs 2116),
  (2116, ni_sLd 3 0 2117),
  (2117, ni_sLd 0 5 2119),
  (2119, ni_sP (ni_gPush (.int 2) 2120)),
  (2120, ni_sP (ni_gI (fun x y => x + y) 2121)),
  (2121, ni_sSld xs 2122),
  (2122, ni_sV 163 2 18 2125),
  (2125, ni_sSt 0 7 2127),
  (2127, ni_sLd 3 2 2128),
  (2128, ni_sV 167 0 18 2131),
  (2131, ni_sLd 0 6 2133),
  (2133, ni_sP (ni_gIc (fun x y => decide (x = y)) 2138 2136)),
  (2138, ni_sLd 0 6 2140),
  (2140, ni_sP (ni_gIf (fun x => decide (¬ x = 0)) 2155 2143)),
  (2155, ni_sP (ni_gGo 3317))]
theorem ni_pk85_33 : ∀ r ∈ ni_pr85_33 xs, ni_Ok xs ⟨"SwitchyardLaw", "law", "([I)Z"⟩ cL_law 9 (some .boolean) [] r.1 r.2 ∧ ni_MU r.2 := ni_row (ni_aloadn ni_dL_law_2090 rfl) ni_muLd <|
  ni_row (ni_aloadn ni_dL_law_2091 rfl) ni_muLd <|
  ni_row (ni_iload ni_dL_law_2092) ni_muLd <|
  ni_row (ni_okP (ni_iconst ni_dL_law_2094 (by decide +kernel))) (ni_muP (ni_eqPush fun _ => rfl)) <|
  ni_row (ni_okP (ni_iadd ni_dL_law_2095)) (ni_muP ni_eqI) <|
  ni_row (ni_sld ni_dL_law_2096) ni_muSld <|
  ni_row (ni_aloadn ni_dL_law_2097 rfl) ni_muLd <|
  ni_row (ni_iload ni_dL_law_2098) ni_muLd <|
  ni_row (ni_okP (ni_iconst ni_dL_law_2100 (by decide +kernel))) (ni_muP (ni_eqPush fun _ => rfl)) <|
  ni_row (ni_okP (ni_iadd ni_dL_law_2101)) (ni_muP ni_eqI) <|
  ni_row (ni_sld ni_dL_law_2102) ni_muSld <|
  ni_row (ni_aloadn ni_dL_law_2103 rfl) ni_muLd <|
  ni_row (ni_statX (y := 104) ni_dL_law_2104 ni_w1199 ni_w1200 ni_w60 ni_w1201 ⟨by decide +kernel, by decide +kernel, by decide +kernel⟩ (by decide) (by decide)) ni_muC <|
  ni_row (ni_istore ni_dL_law_2107 (by decide)) ni_muSt <|
  ni_row (ni_aloadn ni_dL_law_2109 rfl) ni_muLd <|
  ni_row (ni_aloadn ni_dL_law_2110 rfl) ni_muLd <|
  ni_row (ni_iload ni_dL_law_2111) ni_muLd <|
  ni_row (ni_okP (ni_iconst ni_dL_law_2113 (by decide +kernel))) (ni_muP (ni_eqPush fun _ => rfl)) <|
  ni_row (ni_okP (ni_iadd ni_dL_law_2114)) (ni_muP ni_eqI) <|
  ni_row (ni_sld ni_dL_law_2115) ni_muSld <|
  ni_row (ni_aloadn ni_dL_law_2116 rfl) ni_muLd <|
  ni_row (ni_iload ni_dL_law_2117) ni_muLd <|
  ni_row (ni_okP (ni_iconst ni_dL_law_2119 (by decide +kernel))) (ni_muP (ni_eqPush fun _ => rfl)) <|
  ni_row (ni_okP (ni_iadd ni_dL_law_2120)) (ni_muP ni_eqI) <|
  ni_row (ni_sld ni_dL_law_2121) ni_muSld <|
  ni_row (ni_virt (y := 163) (T := TX19) ni_dL_law_2122 (by decide) rfl rfl ni_w2215 ni_w2216 ni_w2217 ni_w71 ni_w2218 ⟨by decide +kernel, by decide +kernel, by decide +kernel⟩ (by decide) rfl) (ni_muV (by decide)) <|
  ni_row (ni_istore ni_dL_law_2125 (by decide)) ni_muSt <|
  ni_row (ni_aloadn ni_dL_law_2127 rfl) ni_muLd <|
  ni_row (ni_virt (y := 167) (T := TX19) ni_dL_law_2128 (by decide) rfl rfl ni_w1576 ni_w1577 ni_w1578 ni_w71 ni_w1579 ⟨by decide +kernel, by decide +kernel, by decide +kernel⟩ (by decide) rfl) (ni_muV (by decide)) <|
  ni_row (ni_iload ni_dL_law_2131) ni_muLd <|
  ni_row (ni_okP (ni_ic_eq ni_dL_law_2133 (by decide))) (ni_muP ni_eqIc) <|
  ni_row (ni_iload ni_dL_law_2138) ni_muLd <|
  ni_row (ni_okP (ni_if_ne ni_dL_law_2140 (by decide))) (ni_muP ni_eqIf) <|
  ni_row (ni_okP (ni_goto ni_dL_law_2155 (by decide))) (ni_muP ni_eqGo) <|
  ni_row0
def ni_pr85_34 (xs : List Int32) : List (Nat × ni_S) := [(2158, ni_sLd 3 1 2159),
  (2159, ni_sLd 3 0 2160),
  (2160, ni_sLd 0 5 2162),
  (2162, ni_sP (ni_gPush (.int 1) 2163)),
  (2163, ni_sP (ni_gI (fun x y => x + y) 2164)),
  (2164, ni_sSld xs 2165),
  (2165, ni_sLd 3 0 2166),
  (2166, ni_sLd 0 5 2168),
  (2168, ni_sP (ni_gPush (.int 2) 2169)),
  (2169, ni_sP (ni_gI (fun x y => x + y) 2170)),
  (2170, ni_sSld xs 2171),
  (2171, ni_sLd 3 3 2172),
  (2172, ni_sC 89 4 2175),
  (2175, ni_sSt 0 6 2177),
  (2177, ni_sLd 3 2 2178),
  (2178, ni_sLd 3 0 2179),
  (2179, ni_sLd 0 5 2181),
  (2181, ni_sP (ni_gPush (.int 1) 2182)),
  (2182, ni_sP (ni_gI (fun x y => x + y) 2183)),
  (2183, ni_sSld xs 2184),
  (2184, ni_sLd 3 0 2185),
  (2185, ni_sLd 0 5 2187),
  (2187, ni_sP (ni_gPush (.int 2) 2188)),
  (2188, ni_sP (ni_gI (fun x y => x + y) 2189)),
  (2189, ni_sSld xs 2190),
  (2190, ni_sV 145 2 18 2193),
  (2193, ni_sSt 0 7 2195),
  (2195, ni_sLd 3 2 2196),
  (2196, ni_sV 167 0 18 2199),
  (2199, ni_sLd 0 6 2201),
  (2201, ni_sP (ni_gIc (fun x y => decide (x = y)) 2206 2204)),
  (2206, ni_sLd 0 6 2208),
  (2208, ni_sP (ni_gIf (fun x => decide (¬ x = 0)) 2223 2211)),
  (2223, ni_sP (ni_gGo 3317))]
theorem ni_pk85_34 : ∀ r ∈ ni_pr85_34 xs, ni_Ok xs ⟨"SwitchyardLaw", "law", "([I)Z"⟩ cL_law 9 (some .boolean) [] r.1 r.2 ∧ ni_MU r.2 := ni_row (ni_aloadn ni_dL_law_2158 rfl) ni_muLd <|
  ni_row (ni_aloadn ni_dL_law_2159 rfl) ni_muLd <|
  ni_row (ni_iload ni_dL_law_2160) ni_muLd <|
  ni_row (ni_okP (ni_iconst ni_dL_law_2162 (by decide +kernel))) (ni_muP (ni_eqPush fun _ => rfl)) <|
  ni_row (ni_okP (ni_iadd ni_dL_law_2163)) (ni_muP ni_eqI) <|
  ni_row (ni_sld ni_dL_law_2164) ni_muSld <|
  ni_row (ni_aloadn ni_dL_law_2165 rfl) ni_muLd <|
  ni_row (ni_iload ni_dL_law_2166) ni_muLd <|
  ni_row (ni_okP (ni_iconst ni_dL_law_2168 (by decide +kernel))) (ni_muP (ni_eqPush fun _ => rfl)) <|
  ni_row (ni_okP (ni_iadd ni_dL_law_2169)) (ni_muP ni_eqI) <|
  ni_row (ni_sld ni_dL_law_2170) ni_muSld <|
  ni_row (ni_aloadn ni_dL_law_2171 rfl) ni_muLd <|
  ni_row (ni_statX (y := 89) ni_dL_law_2172 ni_w1206 ni_w1207 ni_w60 ni_w1208 ⟨by decide +kernel, by decide +kernel, by decide +kernel⟩ (by decide) (by decide)) ni_muC <|
  ni_row (ni_istore ni_dL_law_2175 (by decide)) ni_muSt <|
  ni_row (ni_aloadn ni_dL_law_2177 rfl) ni_muLd <|
  ni_row (ni_aloadn ni_dL_law_2178 rfl) ni_muLd <|
  ni_row (ni_iload ni_dL_law_2179) ni_muLd <|
  ni_row (ni_okP (ni_iconst ni_dL_law_2181 (by decide +kernel))) (ni_muP (ni_eqPush fun _ => rfl)) <|
  ni_row (ni_okP (ni_iadd ni_dL_law_2182)) (ni_muP ni_eqI) <|
  ni_row (ni_sld ni_dL_law_2183) ni_muSld <|
  ni_row (ni_aloadn ni_dL_law_2184 rfl) ni_muLd <|
  ni_row (ni_iload ni_dL_law_2185) ni_muLd <|
  ni_row (ni_okP (ni_iconst ni_dL_law_2187 (by decide +kernel))) (ni_muP (ni_eqPush fun _ => rfl)) <|
  ni_row (ni_okP (ni_iadd ni_dL_law_2188)) (ni_muP ni_eqI) <|
  ni_row (ni_sld ni_dL_law_2189) ni_muSld <|
  ni_row (ni_virt (y := 145) (T := TX19) ni_dL_law_2190 (by decide) rfl rfl ni_w2219 ni_w2220 ni_w2221 ni_w71 ni_w2222 ⟨by decide +kernel, by decide +kernel, by decide +kernel⟩ (by decide) rfl) (ni_muV (by decide)) <|
  ni_row (ni_istore ni_dL_law_2193 (by decide)) ni_muSt <|
  ni_row (ni_aloadn ni_dL_law_2195 rfl) ni_muLd <|
  ni_row (ni_virt (y := 167) (T := TX19) ni_dL_law_2196 (by decide) rfl rfl ni_w1576 ni_w1577 ni_w1578 ni_w71 ni_w1579 ⟨by decide +kernel, by decide +kernel, by decide +kernel⟩ (by decide) rfl) (ni_muV (by decide)) <|
  ni_row (ni_iload ni_dL_law_2199) ni_muLd <|
  ni_row (ni_okP (ni_ic_eq ni_dL_law_2201 (by decide))) (ni_muP ni_eqIc) <|
  ni_row (ni_iload ni_dL_law_2206) ni_muLd <|
  ni_row (ni_okP (ni_if_ne ni_dL_law_2208 (by decide))) (ni_muP ni_eqIf) <|
  ni_row (ni_okP (ni_goto ni_dL_law_2223 (by decide))) (ni_muP ni_eqGo) <|
  ni_row0
def ni_pr85_35 (xs : List Int32) : List (Nat × ni_S) := [(2226, ni_sLd 3 1 2227),
  (2227, ni_sLd 3 0 2228),
  (2228, ni_sLd 0 5 2230),
  (2230, ni_sP (ni_gPush (.int 1) 2231)),
  (2231, ni_sP (ni_gI (fun x y => x + y) 2232)),
  (2232, ni_sSld xs 2233),
  (2233, ni_sLd 3 3 2234),
  (2234, ni_sC 94 3 2237),
  (2237, ni_sSt 0 6 2239),
  (2239, ni_sLd 3 2 2240),
  (2240, ni_sLd 3 0 2241),
  (2241, ni_sLd 0 5 2243),
  (2243, ni_sP (ni_gPush (.int 1) 2244)),
  (2244, ni_sP (ni_gI (fun x y => x + y) 2245)),
  (2245, ni_sSld xs 2246),
  (2246, ni_sV 152 1 18 2249),
  (2249, ni_sSt 0 7 2251),
  (2251, ni_sLd 3 2 2252),
  (2252, ni_sV 167 0 18 2255),
  (2255, ni_sLd 0 6 2257),
  (2257, ni_sP (ni_gIc (fun x y => decide (x = y)) 2262 2260)),
  (2262, ni_sLd 0 6 2264),
  (2264, ni_sP (ni_gIf (fun x => decide (¬ x = 0)) 2279 2267)),
  (2279, ni_sP (ni_gGo 3317))]
theorem ni_pk85_35 : ∀ r ∈ ni_pr85_35 xs, ni_Ok xs ⟨"SwitchyardLaw", "law", "([I)Z"⟩ cL_law 9 (some .boolean) [] r.1 r.2 ∧ ni_MU r.2 := ni_row (ni_aloadn ni_dL_law_2226 rfl) ni_muLd <|
  ni_row (ni_aloadn ni_dL_law_2227 rfl) ni_muLd <|
  ni_row (ni_iload ni_dL_law_2228) ni_muLd <|
  ni_row (ni_okP (ni_iconst ni_dL_law_2230 (by decide +kernel))) (ni_muP (ni_eqPush fun _ => rfl)) <|
  ni_row (ni_okP (ni_iadd ni_dL_law_2231)) (ni_muP ni_eqI) <|
  ni_row (ni_sld ni_dL_law_2232) ni_muSld <|
  ni_row (ni_aloadn ni_dL_law_2233 rfl) ni_muLd <|
  ni_row (ni_statX (y := 94) ni_dL_law_2234 ni_w1213 ni_w1214 ni_w60 ni_w1215 ⟨by decide +kernel, by decide +kernel, by decide +kernel⟩ (by decide) (by decide)) ni_muC <|
  ni_row (ni_istore ni_dL_law_2237 (by decide)) ni_muSt <|
  ni_row (ni_aloadn ni_dL_law_2239 rfl) ni_muLd <|
  ni_row (ni_aloadn ni_dL_law_2240 rfl) ni_muLd <|
  ni_row (ni_iload ni_dL_law_2241) ni_muLd <|
  ni_row (ni_okP (ni_iconst ni_dL_law_2243 (by decide +kernel))) (ni_muP (ni_eqPush fun _ => rfl)) <|
  ni_row (ni_okP (ni_iadd ni_dL_law_2244)) (ni_muP ni_eqI) <|
  ni_row (ni_sld ni_dL_law_2245) ni_muSld <|
  ni_row (ni_virt (y := 152) (T := TX19) ni_dL_law_2246 (by decide) rfl rfl ni_w2227 ni_w2228 ni_w2229 ni_w71 ni_w2230 ⟨by decide +kernel, by decide +kernel, by decide +kernel⟩ (by decide) rfl) (ni_muV (by decide)) <|
  ni_row (ni_istore ni_dL_law_2249 (by decide)) ni_muSt <|
  ni_row (ni_aloadn ni_dL_law_2251 rfl) ni_muLd <|
  ni_row (ni_virt (y := 167) (T := TX19) ni_dL_law_2252 (by decide) rfl rfl ni_w1576 ni_w1577 ni_w1578 ni_w71 ni_w1579 ⟨by decide +kernel, by decide +kernel, by decide +kernel⟩ (by decide) rfl) (ni_muV (by decide)) <|
  ni_row (ni_iload ni_dL_law_2255) ni_muLd <|
  ni_row (ni_okP (ni_ic_eq ni_dL_law_2257 (by decide))) (ni_muP ni_eqIc) <|
  ni_row (ni_iload ni_dL_law_2262) ni_muLd <|
  ni_row (ni_okP (ni_if_ne ni_dL_law_2264 (by decide))) (ni_muP ni_eqIf) <|
  ni_row (ni_okP (ni_goto ni_dL_law_2279 (by decide))) (ni_muP ni_eqGo) <|
  ni_row0
def ni_pr85_36 (xs : List Int32) : List (Nat × ni_S) := [(2282, ni_sLd 3 1 2283),
  (2283, ni_sLd 3 0 2284),
  (2284, ni_sLd 0 5 2286),
  (2286, ni_sP (ni_gPush (.int 1) 2287)),
  (2287, ni_sP (ni_gI (fun x y => x + y) 2288)),
  (2288, ni_sSld xs 2289),
  (2289, ni_sLd 3 0 2290),
  (2290, ni_sLd 0 5 2292),
  (2292, ni_sP (ni_gPush (.int 2) 2293)),
  (2293, ni_sP (ni_gI (fun x y => x + y) 2294)),
  (2294, ni_sSld xs 2295),
  (2295, ni_sP (ni_gIf (fun x => decide (x = 0)) 2302 2298)),
  (2298, ni_sP (ni_gPush (.int 1) 2299)),
  (2299, ni_sP (ni_gGo 2303)),
  (2302, ni_sP (ni_gPush (.int 0) 2303)),
  (2303, ni_sLd 3 3 2304),
  (2304, ni_sC 109 4 2307),
  (2307, ni_sSt 0 6 2309),
  (2309, ni_sLd 3 2 2310),
  (2310, ni_sLd 3 0 2311),
  (2311, ni_sLd 0 5 2313),
  (2313, ni_sP (ni_gPush (.int 1) 2314)),
  (2314, ni_sP (ni_gI (fun x y => x + y) 2315)),
  (2315, ni_sSld xs 2316),
  (2316, ni_sLd 3 0 2317),
  (2317, ni_sLd 0 5 2319),
  (2319, ni_sP (ni_gPush (.int 2) 2320)),
  (2320, ni_sP (ni_gI (fun x y => x + y) 2321)),
  (2321, ni_sSld xs 2322),
  (2322, ni_sP (ni_gIf (fun x => decide (x = 0)) 2329 2325)),
  (2325, ni_sP (ni_gPush (.int 1) 2326)),
  (2326, ni_sP (ni_gGo 2330)),
  (2329, ni_sP (ni_gPush (.int 0) 2330)),
  (2330, ni_sV 172 2 18 2333),
  (2333, ni_sSt 0 7 2335),
  (2335, ni_sLd 3 2 2336),
  (2336, ni_sV 167 0 18 2339),
  (2339, ni_sLd 0 6 2341),
  (2341, ni_sP (ni_gIc (fun x y => decide (x = y)) 2346 2344)),
  (2346, ni_sLd 0 6 2348),
  (2348, ni_sP (ni_gIf (fun x => decide (¬ x = 0)) 2363 2351)),
  (2363, ni_sP (ni_gGo 3317))]
theorem ni_pk85_36 : ∀ r ∈ ni_pr85_36 xs, ni_Ok xs ⟨"SwitchyardLaw", "law", "([I)Z"⟩ cL_law 9 (some .boolean) [] r.1 r.2 ∧ ni_MU r.2 := ni_row (ni_aloadn ni_dL_law_2282 rfl) ni_muLd <|
  ni_row (ni_aloadn ni_dL_law_2283 rfl) ni_muLd <|
  ni_row (ni_iload ni_dL_law_2284) ni_muLd <|
  ni_row (ni_okP (ni_iconst ni_dL_law_2286 (by decide +kernel))) (ni_muP (ni_eqPush fun _ => rfl)) <|
  ni_row (ni_okP (ni_iadd ni_dL_law_2287)) (ni_muP ni_eqI) <|
  ni_row (ni_sld ni_dL_law_2288) ni_muSld <|
  ni_row (ni_aloadn ni_dL_law_2289 rfl) ni_muLd <|
  ni_row (ni_iload ni_dL_law_2290) ni_muLd <|
  ni_row (ni_okP (ni_iconst ni_dL_law_2292 (by decide +kernel))) (ni_muP (ni_eqPush fun _ => rfl)) <|
  ni_row (ni_okP (ni_iadd ni_dL_law_2293)) (ni_muP ni_eqI) <|
  ni_row (ni_sld ni_dL_law_2294) ni_muSld <|
  ni_row (ni_okP (ni_if_eq ni_dL_law_2295 (by decide))) (ni_muP ni_eqIf) <|
  ni_row (ni_okP (ni_iconst ni_dL_law_2298 (by decide +kernel))) (ni_muP (ni_eqPush fun _ => rfl)) <|
  ni_row (ni_okP (ni_goto ni_dL_law_2299 (by decide))) (ni_muP ni_eqGo) <|
  ni_row (ni_okP (ni_iconst ni_dL_law_2302 (by decide +kernel))) (ni_muP (ni_eqPush fun _ => rfl)) <|
  ni_row (ni_aloadn ni_dL_law_2303 rfl) ni_muLd <|
  ni_row (ni_statX (y := 109) ni_dL_law_2304 ni_w1220 ni_w1221 ni_w60 ni_w1222 ⟨by decide +kernel, by decide +kernel, by decide +kernel⟩ (by decide) (by decide)) ni_muC <|
  ni_row (ni_istore ni_dL_law_2307 (by decide)) ni_muSt <|
  ni_row (ni_aloadn ni_dL_law_2309 rfl) ni_muLd <|
  ni_row (ni_aloadn ni_dL_law_2310 rfl) ni_muLd <|
  ni_row (ni_iload ni_dL_law_2311) ni_muLd <|
  ni_row (ni_okP (ni_iconst ni_dL_law_2313 (by decide +kernel))) (ni_muP (ni_eqPush fun _ => rfl)) <|
  ni_row (ni_okP (ni_iadd ni_dL_law_2314)) (ni_muP ni_eqI) <|
  ni_row (ni_sld ni_dL_law_2315) ni_muSld <|
  ni_row (ni_aloadn ni_dL_law_2316 rfl) ni_muLd <|
  ni_row (ni_iload ni_dL_law_2317) ni_muLd <|
  ni_row (ni_okP (ni_iconst ni_dL_law_2319 (by decide +kernel))) (ni_muP (ni_eqPush fun _ => rfl)) <|
  ni_row (ni_okP (ni_iadd ni_dL_law_2320)) (ni_muP ni_eqI) <|
  ni_row (ni_sld ni_dL_law_2321) ni_muSld <|
  ni_row (ni_okP (ni_if_eq ni_dL_law_2322 (by decide))) (ni_muP ni_eqIf) <|
  ni_row (ni_okP (ni_iconst ni_dL_law_2325 (by decide +kernel))) (ni_muP (ni_eqPush fun _ => rfl)) <|
  ni_row (ni_okP (ni_goto ni_dL_law_2326 (by decide))) (ni_muP ni_eqGo) <|
  ni_row (ni_okP (ni_iconst ni_dL_law_2329 (by decide +kernel))) (ni_muP (ni_eqPush fun _ => rfl)) <|
  ni_row (ni_virt (y := 172) (T := TX19) ni_dL_law_2330 (by decide) rfl rfl ni_w2235 ni_w2236 ni_w2237 ni_w71 ni_w2238 ⟨by decide +kernel, by decide +kernel, by decide +kernel⟩ (by decide) rfl) (ni_muV (by decide)) <|
  ni_row (ni_istore ni_dL_law_2333 (by decide)) ni_muSt <|
  ni_row (ni_aloadn ni_dL_law_2335 rfl) ni_muLd <|
  ni_row (ni_virt (y := 167) (T := TX19) ni_dL_law_2336 (by decide) rfl rfl ni_w1576 ni_w1577 ni_w1578 ni_w71 ni_w1579 ⟨by decide +kernel, by decide +kernel, by decide +kernel⟩ (by decide) rfl) (ni_muV (by decide)) <|
  ni_row (ni_iload ni_dL_law_2339) ni_muLd <|
  ni_row (ni_okP (ni_ic_eq ni_dL_law_2341 (by decide))) (ni_muP ni_eqIc) <|
  ni_row (ni_iload ni_dL_law_2346) ni_muLd <|
  ni_row (ni_okP (ni_if_ne ni_dL_law_2348 (by decide))) (ni_muP ni_eqIf) <|
  ni_row (ni_okP (ni_goto ni_dL_law_2363 (by decide))) (ni_muP ni_eqGo) <|
  ni_row0
def ni_pr85_37 (xs : List Int32) : List (Nat × ni_S) := [(2366, ni_sLd 3 1 2367),
  (2367, ni_sLd 3 0 2368),
  (2368, ni_sLd 0 5 2370),
  (2370, ni_sP (ni_gPush (.int 1) 2371)),
  (2371, ni_sP (ni_gI (fun x y => x + y) 2372)),
  (2372, ni_sSld xs 2373),
  (2373, ni_sLd 3 0 2374),
  (2374, ni_sLd 0 5 2376),
  (2376, ni_sP (ni_gPush (.int 2) 2377)),
  (2377, ni_sP (ni_gI (fun x y => x + y) 2378)),
  (2378, ni_sSld xs 2379),
  (2379, ni_sP (ni_gIf (fun x => decide (x = 0)) 2386 2382)),
  (2382, ni_sP (ni_gPush (.int 1) 2383)),
  (2383, ni_sP (ni_gGo 2387)),
  (2386, ni_sP (ni_gPush (.int 0) 2387)),
  (2387, ni_sLd 3 0 2388),
  (2388, ni_sLd 0 5 2390),
  (2390, ni_sP (ni_gPush (.int 3) 2391)),
  (2391, ni_sP (ni_gI (fun x y => x + y) 2392)),
  (2392, ni_sSld xs 2393),
  (2393, ni_sLd 3 3 2394),
  (2394, ni_sC 93 5 2397),
  (2397, ni_sSt 0 6 2399),
  (2399, ni_sLd 3 2 2400),
  (2400, ni_sLd 3 0 2401),
  (2401, ni_sLd 0 5 2403),
  (2403, ni_sP (ni_gPush (.int 1) 2404)),
  (2404, ni_sP (ni_gI (fun x y => x + y) 2405)),
  (2405, ni_sSld xs 2406),
  (2406, ni_sLd 3 0 2407),
  (2407, ni_sLd 0 5 2409),
  (2409, ni_sP (ni_gPush (.int 2) 2410)),
  (2410, ni_sP (ni_gI (fun x y => x + y) 2411)),
  (2411, ni_sSld xs 2412),
  (2412, ni_sP (ni_gIf (fun x => decide (x = 0)) 2419 2415)),
  (2415, ni_sP (ni_gPush (.int 1) 2416)),
  (2416, ni_sP (ni_gGo 2420)),
  (2419, ni_sP (ni_gPush (.int 0) 2420)),
  (2420, ni_sLd 3 0 2421),
  (2421, ni_sLd 0 5 2423),
  (2423, ni_sP (ni_gPush (.int 3) 2424)),
  (2424, ni_sP (ni_gI (fun x y => x + y) 2425)),
  (2425, ni_sSld xs 2426),
  (2426, ni_sV 150 3 18 2429),
  (2429, ni_sSt 0 7 2431),
  (2431, ni_sLd 3 2 2432),
  (2432, ni_sV 167 0 18 2435),
  (2435, ni_sLd 0 6 2437),
  (2437, ni_sP (ni_gIc (fun x y => decide (x = y)) 2442 2440)),
  (2442, ni_sLd 0 6 2444),
  (2444, ni_sP (ni_gIf (fun x => decide (¬ x = 0)) 2459 2447)),
  (2459, ni_sP (ni_gGo 3317))]
theorem ni_pk85_37 : ∀ r ∈ ni_pr85_37 xs, ni_Ok xs ⟨"SwitchyardLaw", "law", "([I)Z"⟩ cL_law 9 (some .boolean) [] r.1 r.2 ∧ ni_MU r.2 := ni_row (ni_aloadn ni_dL_law_2366 rfl) ni_muLd <|
  ni_row (ni_aloadn ni_dL_law_2367 rfl) ni_muLd <|
  ni_row (ni_iload ni_dL_law_2368) ni_muLd <|
  ni_row (ni_okP (ni_iconst ni_dL_law_2370 (by decide +kernel))) (ni_muP (ni_eqPush fun _ => rfl)) <|
  ni_row (ni_okP (ni_iadd ni_dL_law_2371)) (ni_muP ni_eqI) <|
  ni_row (ni_sld ni_dL_law_2372) ni_muSld <|
  ni_row (ni_aloadn ni_dL_law_2373 rfl) ni_muLd <|
  ni_row (ni_iload ni_dL_law_2374) ni_muLd <|
  ni_row (ni_okP (ni_iconst ni_dL_law_2376 (by decide +kernel))) (ni_muP (ni_eqPush fun _ => rfl)) <|
  ni_row (ni_okP (ni_iadd ni_dL_law_2377)) (ni_muP ni_eqI) <|
  ni_row (ni_sld ni_dL_law_2378) ni_muSld <|
  ni_row (ni_okP (ni_if_eq ni_dL_law_2379 (by decide))) (ni_muP ni_eqIf) <|
  ni_row (ni_okP (ni_iconst ni_dL_law_2382 (by decide +kernel))) (ni_muP (ni_eqPush fun _ => rfl)) <|
  ni_row (ni_okP (ni_goto ni_dL_law_2383 (by decide))) (ni_muP ni_eqGo) <|
  ni_row (ni_okP (ni_iconst ni_dL_law_2386 (by decide +kernel))) (ni_muP (ni_eqPush fun _ => rfl)) <|
  ni_row (ni_aloadn ni_dL_law_2387 rfl) ni_muLd <|
  ni_row (ni_iload ni_dL_law_2388) ni_muLd <|
  ni_row (ni_okP (ni_iconst ni_dL_law_2390 (by decide +kernel))) (ni_muP (ni_eqPush fun _ => rfl)) <|
  ni_row (ni_okP (ni_iadd ni_dL_law_2391)) (ni_muP ni_eqI) <|
  ni_row (ni_sld ni_dL_law_2392) ni_muSld <|
  ni_row (ni_aloadn ni_dL_law_2393 rfl) ni_muLd <|
  ni_row (ni_statX (y := 93) ni_dL_law_2394 ni_w1227 ni_w1228 ni_w60 ni_w1229 ⟨by decide +kernel, by decide +kernel, by decide +kernel⟩ (by decide) (by decide)) ni_muC <|
  ni_row (ni_istore ni_dL_law_2397 (by decide)) ni_muSt <|
  ni_row (ni_aloadn ni_dL_law_2399 rfl) ni_muLd <|
  ni_row (ni_aloadn ni_dL_law_2400 rfl) ni_muLd <|
  ni_row (ni_iload ni_dL_law_2401) ni_muLd <|
  ni_row (ni_okP (ni_iconst ni_dL_law_2403 (by decide +kernel))) (ni_muP (ni_eqPush fun _ => rfl)) <|
  ni_row (ni_okP (ni_iadd ni_dL_law_2404)) (ni_muP ni_eqI) <|
  ni_row (ni_sld ni_dL_law_2405) ni_muSld <|
  ni_row (ni_aloadn ni_dL_law_2406 rfl) ni_muLd <|
  ni_row (ni_iload ni_dL_law_2407) ni_muLd <|
  ni_row (ni_okP (ni_iconst ni_dL_law_2409 (by decide +kernel))) (ni_muP (ni_eqPush fun _ => rfl)) <|
  ni_row (ni_okP (ni_iadd ni_dL_law_2410)) (ni_muP ni_eqI) <|
  ni_row (ni_sld ni_dL_law_2411) ni_muSld <|
  ni_row (ni_okP (ni_if_eq ni_dL_law_2412 (by decide))) (ni_muP ni_eqIf) <|
  ni_row (ni_okP (ni_iconst ni_dL_law_2415 (by decide +kernel))) (ni_muP (ni_eqPush fun _ => rfl)) <|
  ni_row (ni_okP (ni_goto ni_dL_law_2416 (by decide))) (ni_muP ni_eqGo) <|
  ni_row (ni_okP (ni_iconst ni_dL_law_2419 (by decide +kernel))) (ni_muP (ni_eqPush fun _ => rfl)) <|
  ni_row (ni_aloadn ni_dL_law_2420 rfl) ni_muLd <|
  ni_row (ni_iload ni_dL_law_2421) ni_muLd <|
  ni_row (ni_okP (ni_iconst ni_dL_law_2423 (by decide +kernel))) (ni_muP (ni_eqPush fun _ => rfl)) <|
  ni_row (ni_okP (ni_iadd ni_dL_law_2424)) (ni_muP ni_eqI) <|
  ni_row (ni_sld ni_dL_law_2425) ni_muSld <|
  ni_row (ni_virt (y := 150) (T := TX19) ni_dL_law_2426 (by decide) rfl rfl ni_w2240 ni_w2241 ni_w2242 ni_w71 ni_w2243 ⟨by decide +kernel, by decide +kernel, by decide +kernel⟩ (by decide) rfl) (ni_muV (by decide)) <|
  ni_row (ni_istore ni_dL_law_2429 (by decide)) ni_muSt <|
  ni_row (ni_aloadn ni_dL_law_2431 rfl) ni_muLd <|
  ni_row (ni_virt (y := 167) (T := TX19) ni_dL_law_2432 (by decide) rfl rfl ni_w1576 ni_w1577 ni_w1578 ni_w71 ni_w1579 ⟨by decide +kernel, by decide +kernel, by decide +kernel⟩ (by decide) rfl) (ni_muV (by decide)) <|
  ni_row (ni_iload ni_dL_law_2435) ni_muLd <|
  ni_row (ni_okP (ni_ic_eq ni_dL_law_2437 (by decide))) (ni_muP ni_eqIc) <|
  ni_row (ni_iload ni_dL_law_2442) ni_muLd <|
  ni_row (ni_okP (ni_if_ne ni_dL_law_2444 (by decide))) (ni_muP ni_eqIf) <|
  ni_row (ni_okP (ni_goto ni_dL_law_2459 (by decide))) (ni_muP ni_eqGo) <|
  ni_row0
def ni_pr85_38 (xs : List Int32) : List (Nat × ni_S) := [(2462, ni_sLd 3 1 2463),
  (2463, ni_sLd 3 0 2464),
  (2464, ni_sLd 0 5 2466),
  (2466, ni_sP (ni_gPush (.int 1) 2467)),
  (2467, ni_sP (ni_gI (fun x y => x + y) 2468)),
  (2468, ni_sSld xs 2469),
  (2469, ni_sLd 3 0 2470),
  (2470, ni_sLd 0 5 2472),
  (2472, ni_sP (ni_gPush (.int 2) 2473)),
  (2473, ni_sP (ni_gI (fun x y => x + y) 2474)),
  (2474, ni_sSld xs 2475),
  (2475, ni_sP (ni_gIf (fun x => decide (x = 0)) 2482 2478)),
  (2478, ni_sP (ni_gPush (.int 1) 2479)),
  (2479, ni_sP (ni_gGo 2483)),
  (2482, ni_sP (ni_gPush (.int 0) 2483)),
  (2483, ni_sLd 3 3 2484),
  (2484, ni_sC 96 4 2487),
  (2487, ni_sSt 0 6 2489),
  (2489, ni_sLd 3 2 2490),
  (2490, ni_sLd 3 0 2491),
  (2491, ni_sLd 0 5 2493),
  (2493, ni_sP (ni_gPush (.int 1) 2494)),
  (2494, ni_sP (ni_gI (fun x y => x + y) 2495)),
  (2495, ni_sSld xs 2496),
  (2496, ni_sLd 3 0 2497),
  (2497, ni_sLd 0 5 2499),
  (2499, ni_sP (ni_gPush (.int 2) 2500)),
  (2500, ni_sP (ni_gI (fun x y => x + y) 2501)),
  (2501, ni_sSld xs 2502),
  (2502, ni_sP (ni_gIf (fun x => decide (x = 0)) 2509 2505)),
  (2505, ni_sP (ni_gPush (.int 1) 2506)),
  (2506, ni_sP (ni_gGo 2510)),
  (2509, ni_sP (ni_gPush (.int 0) 2510)),
  (2510, ni_sV 155 2 18 2513),
  (2513, ni_sSt 0 7 2515),
  (2515, ni_sLd 3 2 2516),
  (2516, ni_sV 167 0 18 2519),
  (2519, ni_sLd 0 6 2521),
  (2521, ni_sP (ni_gIc (fun x y => decide (x = y)) 2526 2524)),
  (2526, ni_sLd 0 6 2528),
  (2528, ni_sP (ni_gIf (fun x => decide (¬ x = 0)) 2543 2531)),
  (2543, ni_sP (ni_gGo 3317))]
theorem ni_pk85_38 : ∀ r ∈ ni_pr85_38 xs, ni_Ok xs ⟨"SwitchyardLaw", "law", "([I)Z"⟩ cL_law 9 (some .boolean) [] r.1 r.2 ∧ ni_MU r.2 := ni_row (ni_aloadn ni_dL_law_2462 rfl) ni_muLd <|
  ni_row (ni_aloadn ni_dL_law_2463 rfl) ni_muLd <|
  ni_row (ni_iload ni_dL_law_2464) ni_muLd <|
  ni_row (ni_okP (ni_iconst ni_dL_law_2466 (by decide +kernel))) (ni_muP (ni_eqPush fun _ => rfl)) <|
  ni_row (ni_okP (ni_iadd ni_dL_law_2467)) (ni_muP ni_eqI) <|
  ni_row (ni_sld ni_dL_law_2468) ni_muSld <|
  ni_row (ni_aloadn ni_dL_law_2469 rfl) ni_muLd <|
  ni_row (ni_iload ni_dL_law_2470) ni_muLd <|
  ni_row (ni_okP (ni_iconst ni_dL_law_2472 (by decide +kernel))) (ni_muP (ni_eqPush fun _ => rfl)) <|
  ni_row (ni_okP (ni_iadd ni_dL_law_2473)) (ni_muP ni_eqI) <|
  ni_row (ni_sld ni_dL_law_2474) ni_muSld <|
  ni_row (ni_okP (ni_if_eq ni_dL_law_2475 (by decide))) (ni_muP ni_eqIf) <|
  ni_row (ni_okP (ni_iconst ni_dL_law_2478 (by decide +kernel))) (ni_muP (ni_eqPush fun _ => rfl)) <|
  ni_row (ni_okP (ni_goto ni_dL_law_2479 (by decide))) (ni_muP ni_eqGo) <|
  ni_row (ni_okP (ni_iconst ni_dL_law_2482 (by decide +kernel))) (ni_muP (ni_eqPush fun _ => rfl)) <|
  ni_row (ni_aloadn ni_dL_law_2483 rfl) ni_muLd <|
  ni_row (ni_statX (y := 96) ni_dL_law_2484 ni_w1234 ni_w1235 ni_w60 ni_w1236 ⟨by decide +kernel, by decide +kernel, by decide +kernel⟩ (by decide) (by decide)) ni_muC <|
  ni_row (ni_istore ni_dL_law_2487 (by decide)) ni_muSt <|
  ni_row (ni_aloadn ni_dL_law_2489 rfl) ni_muLd <|
  ni_row (ni_aloadn ni_dL_law_2490 rfl) ni_muLd <|
  ni_row (ni_iload ni_dL_law_2491) ni_muLd <|
  ni_row (ni_okP (ni_iconst ni_dL_law_2493 (by decide +kernel))) (ni_muP (ni_eqPush fun _ => rfl)) <|
  ni_row (ni_okP (ni_iadd ni_dL_law_2494)) (ni_muP ni_eqI) <|
  ni_row (ni_sld ni_dL_law_2495) ni_muSld <|
  ni_row (ni_aloadn ni_dL_law_2496 rfl) ni_muLd <|
  ni_row (ni_iload ni_dL_law_2497) ni_muLd <|
  ni_row (ni_okP (ni_iconst ni_dL_law_2499 (by decide +kernel))) (ni_muP (ni_eqPush fun _ => rfl)) <|
  ni_row (ni_okP (ni_iadd ni_dL_law_2500)) (ni_muP ni_eqI) <|
  ni_row (ni_sld ni_dL_law_2501) ni_muSld <|
  ni_row (ni_okP (ni_if_eq ni_dL_law_2502 (by decide))) (ni_muP ni_eqIf) <|
  ni_row (ni_okP (ni_iconst ni_dL_law_2505 (by decide +kernel))) (ni_muP (ni_eqPush fun _ => rfl)) <|
  ni_row (ni_okP (ni_goto ni_dL_law_2506 (by decide))) (ni_muP ni_eqGo) <|
  ni_row (ni_okP (ni_iconst ni_dL_law_2509 (by decide +kernel))) (ni_muP (ni_eqPush fun _ => rfl)) <|
  ni_row (ni_virt (y := 155) (T := TX19) ni_dL_law_2510 (by decide) rfl rfl ni_w2253 ni_w2254 ni_w2255 ni_w71 ni_w2256 ⟨by decide +kernel, by decide +kernel, by decide +kernel⟩ (by decide) rfl) (ni_muV (by decide)) <|
  ni_row (ni_istore ni_dL_law_2513 (by decide)) ni_muSt <|
  ni_row (ni_aloadn ni_dL_law_2515 rfl) ni_muLd <|
  ni_row (ni_virt (y := 167) (T := TX19) ni_dL_law_2516 (by decide) rfl rfl ni_w1576 ni_w1577 ni_w1578 ni_w71 ni_w1579 ⟨by decide +kernel, by decide +kernel, by decide +kernel⟩ (by decide) rfl) (ni_muV (by decide)) <|
  ni_row (ni_iload ni_dL_law_2519) ni_muLd <|
  ni_row (ni_okP (ni_ic_eq ni_dL_law_2521 (by decide))) (ni_muP ni_eqIc) <|
  ni_row (ni_iload ni_dL_law_2526) ni_muLd <|
  ni_row (ni_okP (ni_if_ne ni_dL_law_2528 (by decide))) (ni_muP ni_eqIf) <|
  ni_row (ni_okP (ni_goto ni_dL_law_2543 (by decide))) (ni_muP ni_eqGo) <|
  ni_row0
def ni_pr85_39 (xs : List Int32) : List (Nat × ni_S) := [(2546, ni_sLd 3 1 2547),
  (2547, ni_sLd 3 0 2548),
  (2548, ni_sLd 0 5 2550),
  (2550, ni_sP (ni_gPush (.int 1) 2551)),
  (2551, ni_sP (ni_gI (fun x y => x + y) 2552)),
  (2552, ni_sSld xs 2553),
  (2553, ni_sLd 3 0 2554),
  (2554, ni_sLd 0 5 2556),
  (2556, ni_sP (ni_gPush (.int 2) 2557)),
  (2557, ni_sP (ni_gI (fun x y => x + y) 2558)),
  (2558, ni_sSld xs 2559),
  (2559, ni_sP (ni_gIf (fun x => decide (x = 0)) 2566 2562)),
  (2562, ni_sP (ni_gPush (.int 1) 2563)),
  (2563, ni_sP (ni_gGo 2567)),
  (2566, ni_sP (ni_gPush (.int 0) 2567)),
  (2567, ni_sLd 3 0 2568),
  (2568, ni_sLd 0 5 2570),
  (2570, ni_sP (ni_gPush (.int 3) 2571)),
  (2571, ni_sP (ni_gI (fun x y => x + y) 2572)),
  (2572, ni_sSld xs 2573),
  (2573, ni_sLd 3 3 2574),
  (2574, ni_sC 73 5 2577),
  (2577, ni_sSt 0 6 2579),
  (2579, ni_sLd 3 2 2580),
  (2580, ni_sLd 3 0 2581),
  (2581, ni_sLd 0 5 2583),
  (2583, ni_sP (ni_gPush (.int 1) 2584)),
  (2584, ni_sP (ni_gI (fun x y => x + y) 2585)),
  (2585, ni_sSld xs 2586),
  (2586, ni_sLd 3 0 2587),
  (2587, ni_sLd 0 5 2589),
  (2589, ni_sP (ni_gPush (.int 2) 2590)),
  (2590, ni_sP (ni_gI (fun x y => x + y) 2591)),
  (2591, ni_sSld xs 2592),
  (2592, ni_sP (ni_gIf (fun x => decide (x = 0)) 2599 2595)),
  (2595, ni_sP (ni_gPush (.int 1) 2596)),
  (2596, ni_sP (ni_gGo 2600)),
  (2599, ni_sP (ni_gPush (.int 0) 2600)),
  (2600, ni_sLd 3 0 2601),
  (2601, ni_sLd 0 5 2603),
  (2603, ni_sP (ni_gPush (.int 3) 2604)),
  (2604, ni_sP (ni_gI (fun x y => x + y) 2605)),
  (2605, ni_sSld xs 2606),
  (2606, ni_sV 118 3 18 2609),
  (2609, ni_sSt 0 7 2611),
  (2611, ni_sLd 3 2 2612),
  (2612, ni_sV 167 0 18 2615),
  (2615, ni_sLd 0 6 2617),
  (2617, ni_sP (ni_gIc (fun x y => decide (x = y)) 2622 2620)),
  (2622, ni_sLd 0 6 2624),
  (2624, ni_sP (ni_gIf (fun x => decide (¬ x = 0)) 2639 2627)),
  (2639, ni_sP (ni_gGo 3317))]
theorem ni_pk85_39 : ∀ r ∈ ni_pr85_39 xs, ni_Ok xs ⟨"SwitchyardLaw", "law", "([I)Z"⟩ cL_law 9 (some .boolean) [] r.1 r.2 ∧ ni_MU r.2 := ni_row (ni_aloadn ni_dL_law_2546 rfl) ni_muLd <|
  ni_row (ni_aloadn ni_dL_law_2547 rfl) ni_muLd <|
  ni_row (ni_iload ni_dL_law_2548) ni_muLd <|
  ni_row (ni_okP (ni_iconst ni_dL_law_2550 (by decide +kernel))) (ni_muP (ni_eqPush fun _ => rfl)) <|
  ni_row (ni_okP (ni_iadd ni_dL_law_2551)) (ni_muP ni_eqI) <|
  ni_row (ni_sld ni_dL_law_2552) ni_muSld <|
  ni_row (ni_aloadn ni_dL_law_2553 rfl) ni_muLd <|
  ni_row (ni_iload ni_dL_law_2554) ni_muLd <|
  ni_row (ni_okP (ni_iconst ni_dL_law_2556 (by decide +kernel))) (ni_muP (ni_eqPush fun _ => rfl)) <|
  ni_row (ni_okP (ni_iadd ni_dL_law_2557)) (ni_muP ni_eqI) <|
  ni_row (ni_sld ni_dL_law_2558) ni_muSld <|
  ni_row (ni_okP (ni_if_eq ni_dL_law_2559 (by decide))) (ni_muP ni_eqIf) <|
  ni_row (ni_okP (ni_iconst ni_dL_law_2562 (by decide +kernel))) (ni_muP (ni_eqPush fun _ => rfl)) <|
  ni_row (ni_okP (ni_goto ni_dL_law_2563 (by decide))) (ni_muP ni_eqGo) <|
  ni_row (ni_okP (ni_iconst ni_dL_law_2566 (by decide +kernel))) (ni_muP (ni_eqPush fun _ => rfl)) <|
  ni_row (ni_aloadn ni_dL_law_2567 rfl) ni_muLd <|
  ni_row (ni_iload ni_dL_law_2568) ni_muLd <|
  ni_row (ni_okP (ni_iconst ni_dL_law_2570 (by decide +kernel))) (ni_muP (ni_eqPush fun _ => rfl)) <|
  ni_row (ni_okP (ni_iadd ni_dL_law_2571)) (ni_muP ni_eqI) <|
  ni_row (ni_sld ni_dL_law_2572) ni_muSld <|
  ni_row (ni_aloadn ni_dL_law_2573 rfl) ni_muLd <|
  ni_row (ni_statX (y := 73) ni_dL_law_2574 ni_w1241 ni_w1242 ni_w60 ni_w1243 ⟨by decide +kernel, by decide +kernel, by decide +kernel⟩ (by decide) (by decide)) ni_muC <|
  ni_row (ni_istore ni_dL_law_2577 (by decide)) ni_muSt <|
  ni_row (ni_aloadn ni_dL_law_2579 rfl) ni_muLd <|
  ni_row (ni_aloadn ni_dL_law_2580 rfl) ni_muLd <|
  ni_row (ni_iload ni_dL_law_2581) ni_muLd <|
  ni_row (ni_okP (ni_iconst ni_dL_law_2583 (by decide +kernel))) (ni_muP (ni_eqPush fun _ => rfl)) <|
  ni_row (ni_okP (ni_iadd ni_dL_law_2584)) (ni_muP ni_eqI) <|
  ni_row (ni_sld ni_dL_law_2585) ni_muSld <|
  ni_row (ni_aloadn ni_dL_law_2586 rfl) ni_muLd <|
  ni_row (ni_iload ni_dL_law_2587) ni_muLd <|
  ni_row (ni_okP (ni_iconst ni_dL_law_2589 (by decide +kernel))) (ni_muP (ni_eqPush fun _ => rfl)) <|
  ni_row (ni_okP (ni_iadd ni_dL_law_2590)) (ni_muP ni_eqI) <|
  ni_row (ni_sld ni_dL_law_2591) ni_muSld <|
  ni_row (ni_okP (ni_if_eq ni_dL_law_2592 (by decide))) (ni_muP ni_eqIf) <|
  ni_row (ni_okP (ni_iconst ni_dL_law_2595 (by decide +kernel))) (ni_muP (ni_eqPush fun _ => rfl)) <|
  ni_row (ni_okP (ni_goto ni_dL_law_2596 (by decide))) (ni_muP ni_eqGo) <|
  ni_row (ni_okP (ni_iconst ni_dL_law_2599 (by decide +kernel))) (ni_muP (ni_eqPush fun _ => rfl)) <|
  ni_row (ni_aloadn ni_dL_law_2600 rfl) ni_muLd <|
  ni_row (ni_iload ni_dL_law_2601) ni_muLd <|
  ni_row (ni_okP (ni_iconst ni_dL_law_2603 (by decide +kernel))) (ni_muP (ni_eqPush fun _ => rfl)) <|
  ni_row (ni_okP (ni_iadd ni_dL_law_2604)) (ni_muP ni_eqI) <|
  ni_row (ni_sld ni_dL_law_2605) ni_muSld <|
  ni_row (ni_virt (y := 118) (T := TX19) ni_dL_law_2606 (by decide) rfl rfl ni_w2257 ni_w2258 ni_w2259 ni_w71 ni_w2260 ⟨by decide +kernel, by decide +kernel, by decide +kernel⟩ (by decide) rfl) (ni_muV (by decide)) <|
  ni_row (ni_istore ni_dL_law_2609 (by decide)) ni_muSt <|
  ni_row (ni_aloadn ni_dL_law_2611 rfl) ni_muLd <|
  ni_row (ni_virt (y := 167) (T := TX19) ni_dL_law_2612 (by decide) rfl rfl ni_w1576 ni_w1577 ni_w1578 ni_w71 ni_w1579 ⟨by decide +kernel, by decide +kernel, by decide +kernel⟩ (by decide) rfl) (ni_muV (by decide)) <|
  ni_row (ni_iload ni_dL_law_2615) ni_muLd <|
  ni_row (ni_okP (ni_ic_eq ni_dL_law_2617 (by decide))) (ni_muP ni_eqIc) <|
  ni_row (ni_iload ni_dL_law_2622) ni_muLd <|
  ni_row (ni_okP (ni_if_ne ni_dL_law_2624 (by decide))) (ni_muP ni_eqIf) <|
  ni_row (ni_okP (ni_goto ni_dL_law_2639 (by decide))) (ni_muP ni_eqGo) <|
  ni_row0
def ni_pr85_40 (xs : List Int32) : List (Nat × ni_S) := [(2642, ni_sLd 3 1 2643),
  (2643, ni_sLd 3 0 2644),
  (2644, ni_sLd 0 5 2646),
  (2646, ni_sP (ni_gPush (.int 1) 2647)),
  (2647, ni_sP (ni_gI (fun x y => x + y) 2648)),
  (2648, ni_sSld xs 2649),
  (2649, ni_sLd 3 3 2650),
  (2650, ni_sC 91 3 2653),
  (2653, ni_sSt 0 6 2655),
  (2655, ni_sLd 3 2 2656),
  (2656, ni_sLd 3 0 2657),
  (2657, ni_sLd 0 5 2659),
  (2659, ni_sP (ni_gPush (.int 1) 2660)),
  (2660, ni_sP (ni_gI (fun x y => x + y) 2661)),
  (2661, ni_sSld xs 2662),
  (2662, ni_sV 147 1 18 2665),
  (2665, ni_sSt 0 7 2667),
  (2667, ni_sLd 3 2 2668),
  (2668, ni_sV 167 0 18 2671),
  (2671, ni_sLd 0 6 2673),
  (2673, ni_sP (ni_gIc (fun x y => decide (x = y)) 2678 2676)),
  (2678, ni_sLd 0 6 2680),
  (2680, ni_sP (ni_gIf (fun x => decide (¬ x = 0)) 2695 2683)),
  (2695, ni_sP (ni_gGo 3317))]
theorem ni_pk85_40 : ∀ r ∈ ni_pr85_40 xs, ni_Ok xs ⟨"SwitchyardLaw", "law", "([I)Z"⟩ cL_law 9 (some .boolean) [] r.1 r.2 ∧ ni_MU r.2 := ni_row (ni_aloadn ni_dL_law_2642 rfl) ni_muLd <|
  ni_row (ni_aloadn ni_dL_law_2643 rfl) ni_muLd <|
  ni_row (ni_iload ni_dL_law_2644) ni_muLd <|
  ni_row (ni_okP (ni_iconst ni_dL_law_2646 (by decide +kernel))) (ni_muP (ni_eqPush fun _ => rfl)) <|
  ni_row (ni_okP (ni_iadd ni_dL_law_2647)) (ni_muP ni_eqI) <|
  ni_row (ni_sld ni_dL_law_2648) ni_muSld <|
  ni_row (ni_aloadn ni_dL_law_2649 rfl) ni_muLd <|
  ni_row (ni_statX (y := 91) ni_dL_law_2650 ni_w1248 ni_w1249 ni_w60 ni_w1250 ⟨by decide +kernel, by decide +kernel, by decide +kernel⟩ (by decide) (by decide)) ni_muC <|
  ni_row (ni_istore ni_dL_law_2653 (by decide)) ni_muSt <|
  ni_row (ni_aloadn ni_dL_law_2655 rfl) ni_muLd <|
  ni_row (ni_aloadn ni_dL_law_2656 rfl) ni_muLd <|
  ni_row (ni_iload ni_dL_law_2657) ni_muLd <|
  ni_row (ni_okP (ni_iconst ni_dL_law_2659 (by decide +kernel))) (ni_muP (ni_eqPush fun _ => rfl)) <|
  ni_row (ni_okP (ni_iadd ni_dL_law_2660)) (ni_muP ni_eqI) <|
  ni_row (ni_sld ni_dL_law_2661) ni_muSld <|
  ni_row (ni_virt (y := 147) (T := TX19) ni_dL_law_2662 (by decide) rfl rfl ni_w2261 ni_w2262 ni_w2263 ni_w71 ni_w2264 ⟨by decide +kernel, by decide +kernel, by decide +kernel⟩ (by decide) rfl) (ni_muV (by decide)) <|
  ni_row (ni_istore ni_dL_law_2665 (by decide)) ni_muSt <|
  ni_row (ni_aloadn ni_dL_law_2667 rfl) ni_muLd <|
  ni_row (ni_virt (y := 167) (T := TX19) ni_dL_law_2668 (by decide) rfl rfl ni_w1576 ni_w1577 ni_w1578 ni_w71 ni_w1579 ⟨by decide +kernel, by decide +kernel, by decide +kernel⟩ (by decide) rfl) (ni_muV (by decide)) <|
  ni_row (ni_iload ni_dL_law_2671) ni_muLd <|
  ni_row (ni_okP (ni_ic_eq ni_dL_law_2673 (by decide))) (ni_muP ni_eqIc) <|
  ni_row (ni_iload ni_dL_law_2678) ni_muLd <|
  ni_row (ni_okP (ni_if_ne ni_dL_law_2680 (by decide))) (ni_muP ni_eqIf) <|
  ni_row (ni_okP (ni_goto ni_dL_law_2695 (by decide))) (ni_muP ni_eqGo) <|
  ni_row0
def ni_pr85_41 (xs : List Int32) : List (Nat × ni_S) := [(2698, ni_sLd 3 1 2699),
  (2699, ni_sLd 3 0 2700),
  (2700, ni_sLd 0 5 2702),
  (2702, ni_sP (ni_gPush (.int 1) 2703)),
  (2703, ni_sP (ni_gI (fun x y => x + y) 2704)),
  (2704, ni_sSld xs 2705),
  (2705, ni_sLd 3 3 2706),
  (2706, ni_sC 90 3 2709),
  (2709, ni_sSt 0 6 2711),
  (2711, ni_sLd 3 2 2712),
  (2712, ni_sLd 3 0 2713),
  (2713, ni_sLd 0 5 2715),
  (2715, ni_sP (ni_gPush (.int 1) 2716)),
  (2716, ni_sP (ni_gI (fun x y => x + y) 2717)),
  (2717, ni_sSld xs 2718),
  (2718, ni_sV 146 1 18 2721),
  (2721, ni_sSt 0 7 2723),
  (2723, ni_sLd 3 2 2724),
  (2724, ni_sV 167 0 18 2727),
  (2727, ni_sLd 0 6 2729),
  (2729, ni_sP (ni_gIc (fun x y => decide (x = y)) 2734 2732)),
  (2734, ni_sLd 0 6 2736),
  (2736, ni_sP (ni_gIf (fun x => decide (¬ x = 0)) 2751 2739)),
  (2751, ni_sP (ni_gGo 3317))]
theorem ni_pk85_41 : ∀ r ∈ ni_pr85_41 xs, ni_Ok xs ⟨"SwitchyardLaw", "law", "([I)Z"⟩ cL_law 9 (some .boolean) [] r.1 r.2 ∧ ni_MU r.2 := ni_row (ni_aloadn ni_dL_law_2698 rfl) ni_muLd <|
  ni_row (ni_aloadn ni_dL_law_2699 rfl) ni_muLd <|
  ni_row (ni_iload ni_dL_law_2700) ni_muLd <|
  ni_row (ni_okP (ni_iconst ni_dL_law_2702 (by decide +kernel))) (ni_muP (ni_eqPush fun _ => rfl)) <|
  ni_row (ni_okP (ni_iadd ni_dL_law_2703)) (ni_muP ni_eqI) <|
  ni_row (ni_sld ni_dL_law_2704) ni_muSld <|
  ni_row (ni_aloadn ni_dL_law_2705 rfl) ni_muLd <|
  ni_row (ni_statX (y := 90) ni_dL_law_2706 ni_w1255 ni_w1256 ni_w60 ni_w1257 ⟨by decide +kernel, by decide +kernel, by decide +kernel⟩ (by decide) (by decide)) ni_muC <|
  ni_row (ni_istore ni_dL_law_2709 (by decide)) ni_muSt <|
  ni_row (ni_aloadn ni_dL_law_2711 rfl) ni_muLd <|
  ni_row (ni_aloadn ni_dL_law_2712 rfl) ni_muLd <|
  ni_row (ni_iload ni_dL_law_2713) ni_muLd <|
  ni_row (ni_okP (ni_iconst ni_dL_law_2715 (by decide +kernel))) (ni_muP (ni_eqPush fun _ => rfl)) <|
  ni_row (ni_okP (ni_iadd ni_dL_law_2716)) (ni_muP ni_eqI) <|
  ni_row (ni_sld ni_dL_law_2717) ni_muSld <|
  ni_row (ni_virt (y := 146) (T := TX19) ni_dL_law_2718 (by decide) rfl rfl ni_w2269 ni_w2270 ni_w2271 ni_w71 ni_w2272 ⟨by decide +kernel, by decide +kernel, by decide +kernel⟩ (by decide) rfl) (ni_muV (by decide)) <|
  ni_row (ni_istore ni_dL_law_2721 (by decide)) ni_muSt <|
  ni_row (ni_aloadn ni_dL_law_2723 rfl) ni_muLd <|
  ni_row (ni_virt (y := 167) (T := TX19) ni_dL_law_2724 (by decide) rfl rfl ni_w1576 ni_w1577 ni_w1578 ni_w71 ni_w1579 ⟨by decide +kernel, by decide +kernel, by decide +kernel⟩ (by decide) rfl) (ni_muV (by decide)) <|
  ni_row (ni_iload ni_dL_law_2727) ni_muLd <|
  ni_row (ni_okP (ni_ic_eq ni_dL_law_2729 (by decide))) (ni_muP ni_eqIc) <|
  ni_row (ni_iload ni_dL_law_2734) ni_muLd <|
  ni_row (ni_okP (ni_if_ne ni_dL_law_2736 (by decide))) (ni_muP ni_eqIf) <|
  ni_row (ni_okP (ni_goto ni_dL_law_2751 (by decide))) (ni_muP ni_eqGo) <|
  ni_row0
def ni_pr85_42 (xs : List Int32) : List (Nat × ni_S) := [(2754, ni_sLd 3 1 2755),
  (2755, ni_sLd 3 0 2756),
  (2756, ni_sLd 0 5 2758),
  (2758, ni_sP (ni_gPush (.int 1) 2759)),
  (2759, ni_sP (ni_gI (fun x y => x + y) 2760)),
  (2760, ni_sSld xs 2761),
  (2761, ni_sLd 3 3 2762),
  (2762, ni_sC 103 3 2765),
  (2765, ni_sSt 0 6 2767),
  (2767, ni_sLd 3 2 2768),
  (2768, ni_sLd 3 0 2769),
  (2769, ni_sLd 0 5 2771),
  (2771, ni_sP (ni_gPush (.int 1) 2772)),
  (2772, ni_sP (ni_gI (fun x y => x + y) 2773)),
  (2773, ni_sSld xs 2774),
  (2774, ni_sV 162 1 18 2777),
  (2777, ni_sSt 0 7 2779),
  (2779, ni_sLd 3 2 2780),
  (2780, ni_sV 167 0 18 2783),
  (2783, ni_sLd 0 6 2785),
  (2785, ni_sP (ni_gIc (fun x y => decide (x = y)) 2790 2788)),
  (2790, ni_sLd 0 6 2792),
  (2792, ni_sP (ni_gIf (fun x => decide (¬ x = 0)) 2807 2795)),
  (2807, ni_sP (ni_gGo 3317))]
theorem ni_pk85_42 : ∀ r ∈ ni_pr85_42 xs, ni_Ok xs ⟨"SwitchyardLaw", "law", "([I)Z"⟩ cL_law 9 (some .boolean) [] r.1 r.2 ∧ ni_MU r.2 := ni_row (ni_aloadn ni_dL_law_2754 rfl) ni_muLd <|
  ni_row (ni_aloadn ni_dL_law_2755 rfl) ni_muLd <|
  ni_row (ni_iload ni_dL_law_2756) ni_muLd <|
  ni_row (ni_okP (ni_iconst ni_dL_law_2758 (by decide +kernel))) (ni_muP (ni_eqPush fun _ => rfl)) <|
  ni_row (ni_okP (ni_iadd ni_dL_law_2759)) (ni_muP ni_eqI) <|
  ni_row (ni_sld ni_dL_law_2760) ni_muSld <|
  ni_row (ni_aloadn ni_dL_law_2761 rfl) ni_muLd <|
  ni_row (ni_statX (y := 103) ni_dL_law_2762 ni_w1262 ni_w1263 ni_w60 ni_w1264 ⟨by decide +kernel, by decide +kernel, by decide +kernel⟩ (by decide) (by decide)) ni_muC <|
  ni_row (ni_istore ni_dL_law_2765 (by decide)) ni_muSt <|
  ni_row (ni_aloadn ni_dL_law_2767 rfl) ni_muLd <|
  ni_row (ni_aloadn ni_dL_law_2768 rfl) ni_muLd <|
  ni_row (ni_iload ni_dL_law_2769) ni_muLd <|
  ni_row (ni_okP (ni_iconst ni_dL_law_2771 (by decide +kernel))) (ni_muP (ni_eqPush fun _ => rfl)) <|
  ni_row (ni_okP (ni_iadd ni_dL_law_2772)) (ni_muP ni_eqI) <|
  ni_row (ni_sld ni_dL_law_2773) ni_muSld <|
  ni_row (ni_virt (y := 162) (T := TX19) ni_dL_law_2774 (by decide) rfl rfl ni_w2273 ni_w2274 ni_w2275 ni_w71 ni_w2276 ⟨by decide +kernel, by decide +kernel, by decide +kernel⟩ (by decide) rfl) (ni_muV (by decide)) <|
  ni_row (ni_istore ni_dL_law_2777 (by decide)) ni_muSt <|
  ni_row (ni_aloadn ni_dL_law_2779 rfl) ni_muLd <|
  ni_row (ni_virt (y := 167) (T := TX19) ni_dL_law_2780 (by decide) rfl rfl ni_w1576 ni_w1577 ni_w1578 ni_w71 ni_w1579 ⟨by decide +kernel, by decide +kernel, by decide +kernel⟩ (by decide) rfl) (ni_muV (by decide)) <|
  ni_row (ni_iload ni_dL_law_2783) ni_muLd <|
  ni_row (ni_okP (ni_ic_eq ni_dL_law_2785 (by decide))) (ni_muP ni_eqIc) <|
  ni_row (ni_iload ni_dL_law_2790) ni_muLd <|
  ni_row (ni_okP (ni_if_ne ni_dL_law_2792 (by decide))) (ni_muP ni_eqIf) <|
  ni_row (ni_okP (ni_goto ni_dL_law_2807 (by decide))) (ni_muP ni_eqGo) <|
  ni_row0
def ni_pr85_43 (xs : List Int32) : List (Nat × ni_S) := [(2810, ni_sLd 3 1 2811),
  (2811, ni_sLd 3 0 2812),
  (2812, ni_sLd 0 5 2814),
  (2814, ni_sP (ni_gPush (.int 1) 2815)),
  (2815, ni_sP (ni_gI (fun x y => x + y) 2816)),
  (2816, ni_sSld xs 2817),
  (2817, ni_sLd 3 3 2818),
  (2818, ni_sC 106 3 2821),
  (2821, ni_sSt 0 6 2823),
  (2823, ni_sLd 3 2 2824),
  (2824, ni_sLd 3 0 2825),
  (2825, ni_sLd 0 5 2827),
  (2827, ni_sP (ni_gPush (.int 1) 2828)),
  (2828, ni_sP (ni_gI (fun x y => x + y) 2829)),
  (2829, ni_sSld xs 2830),
  (2830, ni_sV 169 1 18 2833),
  (2833, ni_sSt 0 7 2835),
  (2835, ni_sLd 3 2 2836),
  (2836, ni_sV 167 0 18 2839),
  (2839, ni_sLd 0 6 2841),
  (2841, ni_sP (ni_gIc (fun x y => decide (x = y)) 2846 2844)),
  (2846, ni_sLd 0 6 2848),
  (2848, ni_sP (ni_gIf (fun x => decide (¬ x = 0)) 2863 2851)),
  (2863, ni_sP (ni_gGo 3317))]
theorem ni_pk85_43 : ∀ r ∈ ni_pr85_43 xs, ni_Ok xs ⟨"SwitchyardLaw", "law", "([I)Z"⟩ cL_law 9 (some .boolean) [] r.1 r.2 ∧ ni_MU r.2 := ni_row (ni_aloadn ni_dL_law_2810 rfl) ni_muLd <|
  ni_row (ni_aloadn ni_dL_law_2811 rfl) ni_muLd <|
  ni_row (ni_iload ni_dL_law_2812) ni_muLd <|
  ni_row (ni_okP (ni_iconst ni_dL_law_2814 (by decide +kernel))) (ni_muP (ni_eqPush fun _ => rfl)) <|
  ni_row (ni_okP (ni_iadd ni_dL_law_2815)) (ni_muP ni_eqI) <|
  ni_row (ni_sld ni_dL_law_2816) ni_muSld <|
  ni_row (ni_aloadn ni_dL_law_2817 rfl) ni_muLd <|
  ni_row (ni_statX (y := 106) ni_dL_law_2818 ni_w1269 ni_w1270 ni_w60 ni_w1271 ⟨by decide +kernel, by decide +kernel, by decide +kernel⟩ (by decide) (by decide)) ni_muC <|
  ni_row (ni_istore ni_dL_law_2821 (by decide)) ni_muSt <|
  ni_row (ni_aloadn ni_dL_law_2823 rfl) ni_muLd <|
  ni_row (ni_aloadn ni_dL_law_2824 rfl) ni_muLd <|
  ni_row (ni_iload ni_dL_law_2825) ni_muLd <|
  ni_row (ni_okP (ni_iconst ni_dL_law_2827 (by decide +kernel))) (ni_muP (ni_eqPush fun _ => rfl)) <|
  ni_row (ni_okP (ni_iadd ni_dL_law_2828)) (ni_muP ni_eqI) <|
  ni_row (ni_sld ni_dL_law_2829) ni_muSld <|
  ni_row (ni_virt (y := 169) (T := TX19) ni_dL_law_2830 (by decide) rfl rfl ni_w2277 ni_w2278 ni_w2279 ni_w71 ni_w2280 ⟨by decide +kernel, by decide +kernel, by decide +kernel⟩ (by decide) rfl) (ni_muV (by decide)) <|
  ni_row (ni_istore ni_dL_law_2833 (by decide)) ni_muSt <|
  ni_row (ni_aloadn ni_dL_law_2835 rfl) ni_muLd <|
  ni_row (ni_virt (y := 167) (T := TX19) ni_dL_law_2836 (by decide) rfl rfl ni_w1576 ni_w1577 ni_w1578 ni_w71 ni_w1579 ⟨by decide +kernel, by decide +kernel, by decide +kernel⟩ (by decide) rfl) (ni_muV (by decide)) <|
  ni_row (ni_iload ni_dL_law_2839) ni_muLd <|
  ni_row (ni_okP (ni_ic_eq ni_dL_law_2841 (by decide))) (ni_muP ni_eqIc) <|
  ni_row (ni_iload ni_dL_law_2846) ni_muLd <|
  ni_row (ni_okP (ni_if_ne ni_dL_law_2848 (by decide))) (ni_muP ni_eqIf) <|
  ni_row (ni_okP (ni_goto ni_dL_law_2863 (by decide))) (ni_muP ni_eqGo) <|
  ni_row0
def ni_pr85_44 (xs : List Int32) : List (Nat × ni_S) := [(2866, ni_sLd 3 1 2867),
  (2867, ni_sLd 3 0 2868),
  (2868, ni_sLd 0 5 2870),
  (2870, ni_sP (ni_gPush (.int 1) 2871)),
  (2871, ni_sP (ni_gI (fun x y => x + y) 2872)),
  (2872, ni_sSld xs 2873),
  (2873, ni_sLd 3 3 2874),
  (2874, ni_sC 74 3 2877),
  (2877, ni_sSt 0 6 2879),
  (2879, ni_sLd 3 2 2880),
  (2880, ni_sLd 3 0 2881),
  (2881, ni_sLd 0 5 2883),
  (2883, ni_sP (ni_gPush (.int 1) 2884)),
  (2884, ni_sP (ni_gI (fun x y => x + y) 2885)),
  (2885, ni_sSld xs 2886),
  (2886, ni_sV 119 1 18 2889),
  (2889, ni_sSt 0 7 2891),
  (2891, ni_sLd 3 2 2892),
  (2892, ni_sV 167 0 18 2895),
  (2895, ni_sLd 0 6 2897),
  (2897, ni_sP (ni_gIc (fun x y => decide (x = y)) 2902 2900)),
  (2902, ni_sLd 0 6 2904),
  (2904, ni_sP (ni_gIf (fun x => decide (¬ x = 0)) 2919 2907)),
  (2919, ni_sP (ni_gGo 3317))]
theorem ni_pk85_44 : ∀ r ∈ ni_pr85_44 xs, ni_Ok xs ⟨"SwitchyardLaw", "law", "([I)Z"⟩ cL_law 9 (some .boolean) [] r.1 r.2 ∧ ni_MU r.2 := ni_row (ni_aloadn ni_dL_law_2866 rfl) ni_muLd <|
  ni_row (ni_aloadn ni_dL_law_2867 rfl) ni_muLd <|
  ni_row (ni_iload ni_dL_law_2868) ni_muLd <|
  ni_row (ni_okP (ni_iconst ni_dL_law_2870 (by decide +kernel))) (ni_muP (ni_eqPush fun _ => rfl)) <|
  ni_row (ni_okP (ni_iadd ni_dL_law_2871)) (ni_muP ni_eqI) <|
  ni_row (ni_sld ni_dL_law_2872) ni_muSld <|
  ni_row (ni_aloadn ni_dL_law_2873 rfl) ni_muLd <|
  ni_row (ni_statX (y := 74) ni_dL_law_2874 ni_w1276 ni_w1277 ni_w60 ni_w1278 ⟨by decide +kernel, by decide +kernel, by decide +kernel⟩ (by decide) (by decide)) ni_muC <|
  ni_row (ni_istore ni_dL_law_2877 (by decide)) ni_muSt <|
  ni_row (ni_aloadn ni_dL_law_2879 rfl) ni_muLd <|
  ni_row (ni_aloadn ni_dL_law_2880 rfl) ni_muLd <|
  ni_row (ni_iload ni_dL_law_2881) ni_muLd <|
  ni_row (ni_okP (ni_iconst ni_dL_law_2883 (by decide +kernel))) (ni_muP (ni_eqPush fun _ => rfl)) <|
  ni_row (ni_okP (ni_iadd ni_dL_law_2884)) (ni_muP ni_eqI) <|
  ni_row (ni_sld ni_dL_law_2885) ni_muSld <|
  ni_row (ni_virt (y := 119) (T := TX19) ni_dL_law_2886 (by decide) rfl rfl ni_w2281 ni_w2282 ni_w2283 ni_w71 ni_w2284 ⟨by decide +kernel, by decide +kernel, by decide +kernel⟩ (by decide) rfl) (ni_muV (by decide)) <|
  ni_row (ni_istore ni_dL_law_2889 (by decide)) ni_muSt <|
  ni_row (ni_aloadn ni_dL_law_2891 rfl) ni_muLd <|
  ni_row (ni_virt (y := 167) (T := TX19) ni_dL_law_2892 (by decide) rfl rfl ni_w1576 ni_w1577 ni_w1578 ni_w71 ni_w1579 ⟨by decide +kernel, by decide +kernel, by decide +kernel⟩ (by decide) rfl) (ni_muV (by decide)) <|
  ni_row (ni_iload ni_dL_law_2895) ni_muLd <|
  ni_row (ni_okP (ni_ic_eq ni_dL_law_2897 (by decide))) (ni_muP ni_eqIc) <|
  ni_row (ni_iload ni_dL_law_2902) ni_muLd <|
  ni_row (ni_okP (ni_if_ne ni_dL_law_2904 (by decide))) (ni_muP ni_eqIf) <|
  ni_row (ni_okP (ni_goto ni_dL_law_2919 (by decide))) (ni_muP ni_eqGo) <|
  ni_row0
def ni_pr85_45 (xs : List Int32) : List (Nat × ni_S) := [(2922, ni_sLd 3 1 2923),
  (2923, ni_sLd 3 0 2924),
  (2924, ni_sLd 0 5 2926),
  (2926, ni_sP (ni_gPush (.int 1) 2927)),
  (2927, ni_sP (ni_gI (fun x y => x + y) 2928)),
  (2928, ni_sSld xs 2929),
  (2929, ni_sLd 3 0 2930),
  (2930, ni_sLd 0 5 2932),
  (2932, ni_sP (ni_gPush (.int 2) 2933)),
  (2933, ni_sP (ni_gI (fun x y => x + y) 2934)),
  (2934, ni_sSld xs 2935),
  (2935, ni_sLd 3 3 2936),
  (2936, ni_sC 79 4 2939),
  (2939, ni_sSt 0 6 2941),
  (2941, ni_sLd 3 2 2942),
  (2942, ni_sLd 3 0 2943),
  (2943, ni_sLd 0 5 2945),
  (2945, ni_sP (ni_gPush (.int 1) 2946)),
  (2946, ni_sP (ni_gI (fun x y => x + y) 2947)),
  (2947, ni_sSld xs 2948),
  (2948, ni_sLd 3 0 2949),
  (2949, ni_sLd 0 5 2951),
  (2951, ni_sP (ni_gPush (.int 2) 2952)),
  (2952, ni_sP (ni_gI (fun x y => x + y) 2953)),
  (2953, ni_sSld xs 2954),
  (2954, ni_sV 125 2 18 2957),
  (2957, ni_sSt 0 7 2959),
  (2959, ni_sLd 3 2 2960),
  (2960, ni_sV 167 0 18 2963),
  (2963, ni_sLd 0 6 2965),
  (2965, ni_sP (ni_gIc (fun x y => decide (x = y)) 2970 2968)),
  (2970, ni_sLd 0 6 2972),
  (2972, ni_sP (ni_gIf (fun x => decide (¬ x = 0)) 2987 2975)),
  (2987, ni_sP (ni_gGo 3317))]
theorem ni_pk85_45 : ∀ r ∈ ni_pr85_45 xs, ni_Ok xs ⟨"SwitchyardLaw", "law", "([I)Z"⟩ cL_law 9 (some .boolean) [] r.1 r.2 ∧ ni_MU r.2 := ni_row (ni_aloadn ni_dL_law_2922 rfl) ni_muLd <|
  ni_row (ni_aloadn ni_dL_law_2923 rfl) ni_muLd <|
  ni_row (ni_iload ni_dL_law_2924) ni_muLd <|
  ni_row (ni_okP (ni_iconst ni_dL_law_2926 (by decide +kernel))) (ni_muP (ni_eqPush fun _ => rfl)) <|
  ni_row (ni_okP (ni_iadd ni_dL_law_2927)) (ni_muP ni_eqI) <|
  ni_row (ni_sld ni_dL_law_2928) ni_muSld <|
  ni_row (ni_aloadn ni_dL_law_2929 rfl) ni_muLd <|
  ni_row (ni_iload ni_dL_law_2930) ni_muLd <|
  ni_row (ni_okP (ni_iconst ni_dL_law_2932 (by decide +kernel))) (ni_muP (ni_eqPush fun _ => rfl)) <|
  ni_row (ni_okP (ni_iadd ni_dL_law_2933)) (ni_muP ni_eqI) <|
  ni_row (ni_sld ni_dL_law_2934) ni_muSld <|
  ni_row (ni_aloadn ni_dL_law_2935 rfl) ni_muLd <|
  ni_row (ni_statX (y := 79) ni_dL_law_2936 ni_w1283 ni_w1284 ni_w60 ni_w1285 ⟨by decide +kernel, by decide +kernel, by decide +kernel⟩ (by decide) (by decide)) ni_muC <|
  ni_row (ni_istore ni_dL_law_2939 (by decide)) ni_muSt <|
  ni_row (ni_aloadn ni_dL_law_2941 rfl) ni_muLd <|
  ni_row (ni_aloadn ni_dL_law_2942 rfl) ni_muLd <|
  ni_row (ni_iload ni_dL_law_2943) ni_muLd <|
  ni_row (ni_okP (ni_iconst ni_dL_law_2945 (by decide +kernel))) (ni_muP (ni_eqPush fun _ => rfl)) <|
  ni_row (ni_okP (ni_iadd ni_dL_law_2946)) (ni_muP ni_eqI) <|
  ni_row (ni_sld ni_dL_law_2947) ni_muSld <|
  ni_row (ni_aloadn ni_dL_law_2948 rfl) ni_muLd <|
  ni_row (ni_iload ni_dL_law_2949) ni_muLd <|
  ni_row (ni_okP (ni_iconst ni_dL_law_2951 (by decide +kernel))) (ni_muP (ni_eqPush fun _ => rfl)) <|
  ni_row (ni_okP (ni_iadd ni_dL_law_2952)) (ni_muP ni_eqI) <|
  ni_row (ni_sld ni_dL_law_2953) ni_muSld <|
  ni_row (ni_virt (y := 125) (T := TX19) ni_dL_law_2954 (by decide) rfl rfl ni_w2285 ni_w2286 ni_w2287 ni_w71 ni_w2288 ⟨by decide +kernel, by decide +kernel, by decide +kernel⟩ (by decide) rfl) (ni_muV (by decide)) <|
  ni_row (ni_istore ni_dL_law_2957 (by decide)) ni_muSt <|
  ni_row (ni_aloadn ni_dL_law_2959 rfl) ni_muLd <|
  ni_row (ni_virt (y := 167) (T := TX19) ni_dL_law_2960 (by decide) rfl rfl ni_w1576 ni_w1577 ni_w1578 ni_w71 ni_w1579 ⟨by decide +kernel, by decide +kernel, by decide +kernel⟩ (by decide) rfl) (ni_muV (by decide)) <|
  ni_row (ni_iload ni_dL_law_2963) ni_muLd <|
  ni_row (ni_okP (ni_ic_eq ni_dL_law_2965 (by decide))) (ni_muP ni_eqIc) <|
  ni_row (ni_iload ni_dL_law_2970) ni_muLd <|
  ni_row (ni_okP (ni_if_ne ni_dL_law_2972 (by decide))) (ni_muP ni_eqIf) <|
  ni_row (ni_okP (ni_goto ni_dL_law_2987 (by decide))) (ni_muP ni_eqGo) <|
  ni_row0
def ni_pr85_46 (xs : List Int32) : List (Nat × ni_S) := [(2990, ni_sLd 3 1 2991),
  (2991, ni_sLd 3 0 2992),
  (2992, ni_sLd 0 5 2994),
  (2994, ni_sP (ni_gPush (.int 1) 2995)),
  (2995, ni_sP (ni_gI (fun x y => x + y) 2996)),
  (2996, ni_sSld xs 2997),
  (2997, ni_sLd 3 3 2998),
  (2998, ni_sC 84 3 3001),
  (3001, ni_sSt 0 6 3003),
  (3003, ni_sLd 3 2 3004),
  (3004, ni_sLd 3 0 3005),
  (3005, ni_sLd 0 5 3007),
  (3007, ni_sP (ni_gPush (.int 1) 3008)),
  (3008, ni_sP (ni_gI (fun x y => x + y) 3009)),
  (3009, ni_sSld xs 3010),
  (3010, ni_sV 138 1 18 3013),
  (3013, ni_sSt 0 7 3015),
  (3015, ni_sLd 3 2 3016),
  (3016, ni_sV 167 0 18 3019),
  (3019, ni_sLd 0 6 3021),
  (3021, ni_sP (ni_gIc (fun x y => decide (x = y)) 3026 3024)),
  (3026, ni_sLd 0 6 3028),
  (3028, ni_sP (ni_gIf (fun x => decide (¬ x = 0)) 3043 3031)),
  (3043, ni_sP (ni_gGo 3317))]
theorem ni_pk85_46 : ∀ r ∈ ni_pr85_46 xs, ni_Ok xs ⟨"SwitchyardLaw", "law", "([I)Z"⟩ cL_law 9 (some .boolean) [] r.1 r.2 ∧ ni_MU r.2 := ni_row (ni_aloadn ni_dL_law_2990 rfl) ni_muLd <|
  ni_row (ni_aloadn ni_dL_law_2991 rfl) ni_muLd <|
  ni_row (ni_iload ni_dL_law_2992) ni_muLd <|
  ni_row (ni_okP (ni_iconst ni_dL_law_2994 (by decide +kernel))) (ni_muP (ni_eqPush fun _ => rfl)) <|
  ni_row (ni_okP (ni_iadd ni_dL_law_2995)) (ni_muP ni_eqI) <|
  ni_row (ni_sld ni_dL_law_2996) ni_muSld <|
  ni_row (ni_aloadn ni_dL_law_2997 rfl) ni_muLd <|
  ni_row (ni_statX (y := 84) ni_dL_law_2998 ni_w1290 ni_w1291 ni_w60 ni_w1292 ⟨by decide +kernel, by decide +kernel, by decide +kernel⟩ (by decide) (by decide)) ni_muC <|
  ni_row (ni_istore ni_dL_law_3001 (by decide)) ni_muSt <|
  ni_row (ni_aloadn ni_dL_law_3003 rfl) ni_muLd <|
  ni_row (ni_aloadn ni_dL_law_3004 rfl) ni_muLd <|
  ni_row (ni_iload ni_dL_law_3005) ni_muLd <|
  ni_row (ni_okP (ni_iconst ni_dL_law_3007 (by decide +kernel))) (ni_muP (ni_eqPush fun _ => rfl)) <|
  ni_row (ni_okP (ni_iadd ni_dL_law_3008)) (ni_muP ni_eqI) <|
  ni_row (ni_sld ni_dL_law_3009) ni_muSld <|
  ni_row (ni_virt (y := 138) (T := TX19) ni_dL_law_3010 (by decide) rfl rfl ni_w2289 ni_w2290 ni_w2291 ni_w71 ni_w2292 ⟨by decide +kernel, by decide +kernel, by decide +kernel⟩ (by decide) rfl) (ni_muV (by decide)) <|
  ni_row (ni_istore ni_dL_law_3013 (by decide)) ni_muSt <|
  ni_row (ni_aloadn ni_dL_law_3015 rfl) ni_muLd <|
  ni_row (ni_virt (y := 167) (T := TX19) ni_dL_law_3016 (by decide) rfl rfl ni_w1576 ni_w1577 ni_w1578 ni_w71 ni_w1579 ⟨by decide +kernel, by decide +kernel, by decide +kernel⟩ (by decide) rfl) (ni_muV (by decide)) <|
  ni_row (ni_iload ni_dL_law_3019) ni_muLd <|
  ni_row (ni_okP (ni_ic_eq ni_dL_law_3021 (by decide))) (ni_muP ni_eqIc) <|
  ni_row (ni_iload ni_dL_law_3026) ni_muLd <|
  ni_row (ni_okP (ni_if_ne ni_dL_law_3028 (by decide))) (ni_muP ni_eqIf) <|
  ni_row (ni_okP (ni_goto ni_dL_law_3043 (by decide))) (ni_muP ni_eqGo) <|
  ni_row0
def ni_pr85_47 (xs : List Int32) : List (Nat × ni_S) := [(3046, ni_sLd 3 1 3047),
  (3047, ni_sLd 3 0 3048),
  (3048, ni_sLd 0 5 3050),
  (3050, ni_sP (ni_gPush (.int 1) 3051)),
  (3051, ni_sP (ni_gI (fun x y => x + y) 3052)),
  (3052, ni_sSld xs 3053),
  (3053, ni_sLd 3 4 3055),
  (3055, ni_sC 88 3 3058),
  (3058, ni_sSt 0 6 3060),
  (3060, ni_sLd 3 2 3061),
  (3061, ni_sLd 3 0 3062),
  (3062, ni_sLd 0 5 3064),
  (3064, ni_sP (ni_gPush (.int 1) 3065)),
  (3065, ni_sP (ni_gI (fun x y => x + y) 3066)),
  (3066, ni_sSld xs 3067),
  (3067, ni_sV 143 1 18 3070),
  (3070, ni_sSt 2 7 3072),
  (3072, ni_sLd 3 2 3073),
  (3073, ni_sV 167 0 18 3076),
  (3076, ni_sLd 0 6 3078),
  (3078, ni_sP (ni_gIc (fun x y => decide (x = y)) 3083 3081)),
  (3083, ni_sLd 0 6 3085),
  (3085, ni_sP (ni_gIf (fun x => decide (¬ x = 0)) 3120 3088)),
  (3120, ni_sP (ni_gGo 3317))]
theorem ni_pk85_47 : ∀ r ∈ ni_pr85_47 xs, ni_Ok xs ⟨"SwitchyardLaw", "law", "([I)Z"⟩ cL_law 9 (some .boolean) [] r.1 r.2 ∧ ni_MU r.2 := ni_row (ni_aloadn ni_dL_law_3046 rfl) ni_muLd <|
  ni_row (ni_aloadn ni_dL_law_3047 rfl) ni_muLd <|
  ni_row (ni_iload ni_dL_law_3048) ni_muLd <|
  ni_row (ni_okP (ni_iconst ni_dL_law_3050 (by decide +kernel))) (ni_muP (ni_eqPush fun _ => rfl)) <|
  ni_row (ni_okP (ni_iadd ni_dL_law_3051)) (ni_muP ni_eqI) <|
  ni_row (ni_sld ni_dL_law_3052) ni_muSld <|
  ni_row (ni_aload ni_dL_law_3053) ni_muLd <|
  ni_row (ni_statX (y := 88) ni_dL_law_3055 ni_w1297 ni_w1298 ni_w60 ni_w1299 ⟨by decide +kernel, by decide +kernel, by decide +kernel⟩ (by decide) (by decide)) ni_muC <|
  ni_row (ni_istore ni_dL_law_3058 (by decide)) ni_muSt <|
  ni_row (ni_aloadn ni_dL_law_3060 rfl) ni_muLd <|
  ni_row (ni_aloadn ni_dL_law_3061 rfl) ni_muLd <|
  ni_row (ni_iload ni_dL_law_3062) ni_muLd <|
  ni_row (ni_okP (ni_iconst ni_dL_law_3064 (by decide +kernel))) (ni_muP (ni_eqPush fun _ => rfl)) <|
  ni_row (ni_okP (ni_iadd ni_dL_law_3065)) (ni_muP ni_eqI) <|
  ni_row (ni_sld ni_dL_law_3066) ni_muSld <|
  ni_row (ni_virt (y := 143) (T := TX19) ni_dL_law_3067 (by decide) rfl rfl ni_w2293 ni_w2294 ni_w2295 ni_w71 ni_w2296 ⟨by decide +kernel, by decide +kernel, by decide +kernel⟩ (by decide) rfl) (ni_muV (by decide)) <|
  ni_row (ni_dstore ni_dL_law_3070 (by decide)) ni_muSt <|
  ni_row (ni_aloadn ni_dL_law_3072 rfl) ni_muLd <|
  ni_row (ni_virt (y := 167) (T := TX19) ni_dL_law_3073 (by decide) rfl rfl ni_w1576 ni_w1577 ni_w1578 ni_w71 ni_w1579 ⟨by decide +kernel, by decide +kernel, by decide +kernel⟩ (by decide) rfl) (ni_muV (by decide)) <|
  ni_row (ni_iload ni_dL_law_3076) ni_muLd <|
  ni_row (ni_okP (ni_ic_eq ni_dL_law_3078 (by decide))) (ni_muP ni_eqIc) <|
  ni_row (ni_iload ni_dL_law_3083) ni_muLd <|
  ni_row (ni_okP (ni_if_ne ni_dL_law_3085 (by decide))) (ni_muP ni_eqIf) <|
  ni_row (ni_okP (ni_goto ni_dL_law_3120 (by decide))) (ni_muP ni_eqGo) <|
  ni_row0
def ni_pr85_48 (xs : List Int32) : List (Nat × ni_S) := [(3123, ni_sLd 3 1 3124),
  (3124, ni_sLd 3 0 3125),
  (3125, ni_sLd 0 5 3127),
  (3127, ni_sP (ni_gPush (.int 1) 3128)),
  (3128, ni_sP (ni_gI (fun x y => x + y) 3129)),
  (3129, ni_sSld xs 3130),
  (3130, ni_sLd 3 3 3131),
  (3131, ni_sC 92 3 3134),
  (3134, ni_sSt 0 6 3136),
  (3136, ni_sLd 3 2 3137),
  (3137, ni_sLd 3 0 3138),
  (3138, ni_sLd 0 5 3140),
  (3140, ni_sP (ni_gPush (.int 1) 3141)),
  (3141, ni_sP (ni_gI (fun x y => x + y) 3142)),
  (3142, ni_sSld xs 3143),
  (3143, ni_sV 148 1 18 3146),
  (3146, ni_sSt 0 7 3148),
  (3148, ni_sLd 3 2 3149),
  (3149, ni_sV 167 0 18 3152),
  (3152, ni_sLd 0 6 3154),
  (3154, ni_sP (ni_gIc (fun x y => decide (x = y)) 3159 3157)),
  (3159, ni_sLd 0 6 3161),
  (3161, ni_sP (ni_gIf (fun x => decide (¬ x = 0)) 3176 3164)),
  (3176, ni_sP (ni_gGo 3317))]
theorem ni_pk85_48 : ∀ r ∈ ni_pr85_48 xs, ni_Ok xs ⟨"SwitchyardLaw", "law", "([I)Z"⟩ cL_law 9 (some .boolean) [] r.1 r.2 ∧ ni_MU r.2 := ni_row (ni_aloadn ni_dL_law_3123 rfl) ni_muLd <|
  ni_row (ni_aloadn ni_dL_law_3124 rfl) ni_muLd <|
  ni_row (ni_iload ni_dL_law_3125) ni_muLd <|
  ni_row (ni_okP (ni_iconst ni_dL_law_3127 (by decide +kernel))) (ni_muP (ni_eqPush fun _ => rfl)) <|
  ni_row (ni_okP (ni_iadd ni_dL_law_3128)) (ni_muP ni_eqI) <|
  ni_row (ni_sld ni_dL_law_3129) ni_muSld <|
  ni_row (ni_aloadn ni_dL_law_3130 rfl) ni_muLd <|
  ni_row (ni_statX (y := 92) ni_dL_law_3131 ni_w1304 ni_w1305 ni_w60 ni_w1306 ⟨by decide +kernel, by decide +kernel, by decide +kernel⟩ (by decide) (by decide)) ni_muC <|
  ni_row (ni_istore ni_dL_law_3134 (by decide)) ni_muSt <|
  ni_row (ni_aloadn ni_dL_law_3136 rfl) ni_muLd <|
  ni_row (ni_aloadn ni_dL_law_3137 rfl) ni_muLd <|
  ni_row (ni_iload ni_dL_law_3138) ni_muLd <|
  ni_row (ni_okP (ni_iconst ni_dL_law_3140 (by decide +kernel))) (ni_muP (ni_eqPush fun _ => rfl)) <|
  ni_row (ni_okP (ni_iadd ni_dL_law_3141)) (ni_muP ni_eqI) <|
  ni_row (ni_sld ni_dL_law_3142) ni_muSld <|
  ni_row (ni_virt (y := 148) (T := TX19) ni_dL_law_3143 (by decide) rfl rfl ni_w2297 ni_w2298 ni_w2299 ni_w71 ni_w2300 ⟨by decide +kernel, by decide +kernel, by decide +kernel⟩ (by decide) rfl) (ni_muV (by decide)) <|
  ni_row (ni_istore ni_dL_law_3146 (by decide)) ni_muSt <|
  ni_row (ni_aloadn ni_dL_law_3148 rfl) ni_muLd <|
  ni_row (ni_virt (y := 167) (T := TX19) ni_dL_law_3149 (by decide) rfl rfl ni_w1576 ni_w1577 ni_w1578 ni_w71 ni_w1579 ⟨by decide +kernel, by decide +kernel, by decide +kernel⟩ (by decide) rfl) (ni_muV (by decide)) <|
  ni_row (ni_iload ni_dL_law_3152) ni_muLd <|
  ni_row (ni_okP (ni_ic_eq ni_dL_law_3154 (by decide))) (ni_muP ni_eqIc) <|
  ni_row (ni_iload ni_dL_law_3159) ni_muLd <|
  ni_row (ni_okP (ni_if_ne ni_dL_law_3161 (by decide))) (ni_muP ni_eqIf) <|
  ni_row (ni_okP (ni_goto ni_dL_law_3176 (by decide))) (ni_muP ni_eqGo) <|
  ni_row0
def ni_pr85_49 (xs : List Int32) : List (Nat × ni_S) := [(3179, ni_sLd 3 1 3180),
  (3180, ni_sLd 3 0 3181),
  (3181, ni_sLd 0 5 3183),
  (3183, ni_sP (ni_gPush (.int 1) 3184)),
  (3184, ni_sP (ni_gI (fun x y => x + y) 3185)),
  (3185, ni_sSld xs 3186),
  (3186, ni_sLd 3 0 3187),
  (3187, ni_sLd 0 5 3189),
  (3189, ni_sP (ni_gPush (.int 2) 3190)),
  (3190, ni_sP (ni_gI (fun x y => x + y) 3191)),
  (3191, ni_sSld xs 3192),
  (3192, ni_sLd 3 3 3193),
  (3193, ni_sC 75 4 3196),
  (3196, ni_sSt 0 6 3198),
  (3198, ni_sLd 3 2 3199),
  (3199, ni_sLd 3 0 3200),
  (3200, ni_sLd 0 5 3202),
  (3202, ni_sP (ni_gPush (.int 1) 3203)),
  (3203, ni_sP (ni_gI (fun x y => x + y) 3204)),
  (3204, ni_sSld xs 3205),
  (3205, ni_sLd 3 0 3206),
  (3206, ni_sLd 0 5 3208),
  (3208, ni_sP (ni_gPush (.int 2) 3209)),
  (3209, ni_sP (ni_gI (fun x y => x + y) 3210)),
  (3210, ni_sSld xs 3211),
  (3211, ni_sV 120 2 18 3214),
  (3214, ni_sSt 0 7 3216),
  (3216, ni_sLd 3 2 3217),
  (3217, ni_sV 167 0 18 3220),
  (3220, ni_sLd 0 6 3222),
  (3222, ni_sP (ni_gIc (fun x y => decide (x = y)) 3227 3225)),
  (3227, ni_sLd 0 6 3229),
  (3229, ni_sP (ni_gIf (fun x => decide (¬ x = 0)) 3244 3232)),
  (3244, ni_sP (ni_gGo 3317))]
theorem ni_pk85_49 : ∀ r ∈ ni_pr85_49 xs, ni_Ok xs ⟨"SwitchyardLaw", "law", "([I)Z"⟩ cL_law 9 (some .boolean) [] r.1 r.2 ∧ ni_MU r.2 := ni_row (ni_aloadn ni_dL_law_3179 rfl) ni_muLd <|
  ni_row (ni_aloadn ni_dL_law_3180 rfl) ni_muLd <|
  ni_row (ni_iload ni_dL_law_3181) ni_muLd <|
  ni_row (ni_okP (ni_iconst ni_dL_law_3183 (by decide +kernel))) (ni_muP (ni_eqPush fun _ => rfl)) <|
  ni_row (ni_okP (ni_iadd ni_dL_law_3184)) (ni_muP ni_eqI) <|
  ni_row (ni_sld ni_dL_law_3185) ni_muSld <|
  ni_row (ni_aloadn ni_dL_law_3186 rfl) ni_muLd <|
  ni_row (ni_iload ni_dL_law_3187) ni_muLd <|
  ni_row (ni_okP (ni_iconst ni_dL_law_3189 (by decide +kernel))) (ni_muP (ni_eqPush fun _ => rfl)) <|
  ni_row (ni_okP (ni_iadd ni_dL_law_3190)) (ni_muP ni_eqI) <|
  ni_row (ni_sld ni_dL_law_3191) ni_muSld <|
  ni_row (ni_aloadn ni_dL_law_3192 rfl) ni_muLd <|
  ni_row (ni_statX (y := 75) ni_dL_law_3193 ni_w1311 ni_w1312 ni_w60 ni_w1313 ⟨by decide +kernel, by decide +kernel, by decide +kernel⟩ (by decide) (by decide)) ni_muC <|
  ni_row (ni_istore ni_dL_law_3196 (by decide)) ni_muSt <|
  ni_row (ni_aloadn ni_dL_law_3198 rfl) ni_muLd <|
  ni_row (ni_aloadn ni_dL_law_3199 rfl) ni_muLd <|
  ni_row (ni_iload ni_dL_law_3200) ni_muLd <|
  ni_row (ni_okP (ni_iconst ni_dL_law_3202 (by decide +kernel))) (ni_muP (ni_eqPush fun _ => rfl)) <|
  ni_row (ni_okP (ni_iadd ni_dL_law_3203)) (ni_muP ni_eqI) <|
  ni_row (ni_sld ni_dL_law_3204) ni_muSld <|
  ni_row (ni_aloadn ni_dL_law_3205 rfl) ni_muLd <|
  ni_row (ni_iload ni_dL_law_3206) ni_muLd <|
  ni_row (ni_okP (ni_iconst ni_dL_law_3208 (by decide +kernel))) (ni_muP (ni_eqPush fun _ => rfl)) <|
  ni_row (ni_okP (ni_iadd ni_dL_law_3209)) (ni_muP ni_eqI) <|
  ni_row (ni_sld ni_dL_law_3210) ni_muSld <|
  ni_row (ni_virt (y := 120) (T := TX19) ni_dL_law_3211 (by decide) rfl rfl ni_w2301 ni_w2302 ni_w2303 ni_w71 ni_w2304 ⟨by decide +kernel, by decide +kernel, by decide +kernel⟩ (by decide) rfl) (ni_muV (by decide)) <|
  ni_row (ni_istore ni_dL_law_3214 (by decide)) ni_muSt <|
  ni_row (ni_aloadn ni_dL_law_3216 rfl) ni_muLd <|
  ni_row (ni_virt (y := 167) (T := TX19) ni_dL_law_3217 (by decide) rfl rfl ni_w1576 ni_w1577 ni_w1578 ni_w71 ni_w1579 ⟨by decide +kernel, by decide +kernel, by decide +kernel⟩ (by decide) rfl) (ni_muV (by decide)) <|
  ni_row (ni_iload ni_dL_law_3220) ni_muLd <|
  ni_row (ni_okP (ni_ic_eq ni_dL_law_3222 (by decide))) (ni_muP ni_eqIc) <|
  ni_row (ni_iload ni_dL_law_3227) ni_muLd <|
  ni_row (ni_okP (ni_if_ne ni_dL_law_3229 (by decide))) (ni_muP ni_eqIf) <|
  ni_row (ni_okP (ni_goto ni_dL_law_3244 (by decide))) (ni_muP ni_eqGo) <|
  ni_row0
def ni_pr85_50 (xs : List Int32) : List (Nat × ni_S) := [(3247, ni_sLd 3 1 3248),
  (3248, ni_sLd 3 0 3249),
  (3249, ni_sLd 0 5 3251),
  (3251, ni_sP (ni_gPush (.int 1) 3252)),
  (3252, ni_sP (ni_gI (fun x y => x + y) 3253)),
  (3253, ni_sSld xs 3254),
  (3254, ni_sLd 3 3 3255),
  (3255, ni_sC 101 3 3258),
  (3258, ni_sSt 0 6 3260),
  (3260, ni_sLd 3 2 3261),
  (3261, ni_sLd 3 0 3262),
  (3262, ni_sLd 0 5 3264),
  (3264, ni_sP (ni_gPush (.int 1) 3265)),
  (3265, ni_sP (ni_gI (fun x y => x + y) 3266)),
  (3266, ni_sSld xs 3267),
  (3267, ni_sV 160 1 18 3270),
  (3270, ni_sSt 0 7 3272),
  (3272, ni_sLd 3 2 3273),
  (3273, ni_sV 167 0 18 3276),
  (3276, ni_sLd 0 6 3278),
  (3278, ni_sP (ni_gIc (fun x y => decide (x = y)) 3283 3281)),
  (3283, ni_sLd 0 6 3285),
  (3285, ni_sP (ni_gIf (fun x => decide (¬ x = 0)) 3300 3288)),
  (3288, ni_sLd 3 3 3289),
  (3289, ni_sP (ni_gPush (.int 0) 3290)),
  (3290, ni_sAld .long 1 3291),
  (3291, ni_sLd 0 7 3293),
  (3293, ni_sP (ni_gU (fun x => .long x.toInt64) 3294)),
  (3294, ni_sP (ni_gJ (fun x y => .int (lg_cmp x y)) 3295)),
  (3295, ni_sP (ni_gIf (fun x => decide (x = 0)) 3300 3298)),
  (3300, ni_sP (ni_gGo 3317))]
theorem ni_pk85_50 : ∀ r ∈ ni_pr85_50 xs, ni_Ok xs ⟨"SwitchyardLaw", "law", "([I)Z"⟩ cL_law 9 (some .boolean) [] r.1 r.2 ∧ ni_MU r.2 := ni_row (ni_aloadn ni_dL_law_3247 rfl) ni_muLd <|
  ni_row (ni_aloadn ni_dL_law_3248 rfl) ni_muLd <|
  ni_row (ni_iload ni_dL_law_3249) ni_muLd <|
  ni_row (ni_okP (ni_iconst ni_dL_law_3251 (by decide +kernel))) (ni_muP (ni_eqPush fun _ => rfl)) <|
  ni_row (ni_okP (ni_iadd ni_dL_law_3252)) (ni_muP ni_eqI) <|
  ni_row (ni_sld ni_dL_law_3253) ni_muSld <|
  ni_row (ni_aloadn ni_dL_law_3254 rfl) ni_muLd <|
  ni_row (ni_statX (y := 101) ni_dL_law_3255 ni_w1358 ni_w1359 ni_w60 ni_w1360 ⟨by decide +kernel, by decide +kernel, by decide +kernel⟩ (by decide) (by decide)) ni_muC <|
  ni_row (ni_istore ni_dL_law_3258 (by decide)) ni_muSt <|
  ni_row (ni_aloadn ni_dL_law_3260 rfl) ni_muLd <|
  ni_row (ni_aloadn ni_dL_law_3261 rfl) ni_muLd <|
  ni_row (ni_iload ni_dL_law_3262) ni_muLd <|
  ni_row (ni_okP (ni_iconst ni_dL_law_3264 (by decide +kernel))) (ni_muP (ni_eqPush fun _ => rfl)) <|
  ni_row (ni_okP (ni_iadd ni_dL_law_3265)) (ni_muP ni_eqI) <|
  ni_row (ni_sld ni_dL_law_3266) ni_muSld <|
  ni_row (ni_virt (y := 160) (T := TX19) ni_dL_law_3267 (by decide) rfl rfl ni_w2354 ni_w2355 ni_w2356 ni_w71 ni_w2357 ⟨by decide +kernel, by decide +kernel, by decide +kernel⟩ (by decide) rfl) (ni_muV (by decide)) <|
  ni_row (ni_istore ni_dL_law_3270 (by decide)) ni_muSt <|
  ni_row (ni_aloadn ni_dL_law_3272 rfl) ni_muLd <|
  ni_row (ni_virt (y := 167) (T := TX19) ni_dL_law_3273 (by decide) rfl rfl ni_w1576 ni_w1577 ni_w1578 ni_w71 ni_w1579 ⟨by decide +kernel, by decide +kernel, by decide +kernel⟩ (by decide) rfl) (ni_muV (by decide)) <|
  ni_row (ni_iload ni_dL_law_3276) ni_muLd <|
  ni_row (ni_okP (ni_ic_eq ni_dL_law_3278 (by decide))) (ni_muP ni_eqIc) <|
  ni_row (ni_iload ni_dL_law_3283) ni_muLd <|
  ni_row (ni_okP (ni_if_ne ni_dL_law_3285 (by decide))) (ni_muP ni_eqIf) <|
  ni_row (ni_aloadn ni_dL_law_3288 rfl) ni_muLd <|
  ni_row (ni_okP (ni_iconst ni_dL_law_3289 (by decide +kernel))) (ni_muP (ni_eqPush fun _ => rfl)) <|
  ni_row (ni_lald ni_dL_law_3290) ni_muAld <|
  ni_row (ni_iload ni_dL_law_3291) ni_muLd <|
  ni_row (ni_okP (ni_i2l ni_dL_law_3293)) (ni_muP (ni_eqU fun _ _ => rfl)) <|
  ni_row (ni_okP (ni_lcmp ni_dL_law_3294)) (ni_muP (ni_eqJ fun _ _ _ => rfl)) <|
  ni_row (ni_okP (ni_if_eq ni_dL_law_3295 (by decide))) (ni_muP ni_eqIf) <|
  ni_row (ni_okP (ni_goto ni_dL_law_3300 (by decide))) (ni_muP ni_eqGo) <|
  ni_row0
def ni_pr85_51 (xs : List Int32) : List (Nat × ni_S) := [(3303, ni_sLd 3 1 3304),
  (3304, ni_sV 14 0 10 3307),
  (3307, ni_sLd 3 2 3308),
  (3308, ni_sV 121 0 18 3311),
  (3311, ni_sP (ni_gJ (fun x y => .int (lg_cmp x y)) 3312)),
  (3312, ni_sP (ni_gIf (fun x => decide (x = 0)) 3317 3315))]
theorem ni_pk85_51 : ∀ r ∈ ni_pr85_51 xs, ni_Ok xs ⟨"SwitchyardLaw", "law", "([I)Z"⟩ cL_law 9 (some .boolean) [] r.1 r.2 ∧ ni_MU r.2 := ni_row (ni_aloadn ni_dL_law_3303 rfl) ni_muLd <|
  ni_row (ni_virt (y := 14) (T := TX11) ni_dL_law_3304 (by decide) rfl rfl ni_w519 ni_w520 ni_w521 ni_w61 ni_w522 ⟨by decide +kernel, by decide +kernel, by decide +kernel⟩ (by decide) rfl) (ni_muV (by decide)) <|
  ni_row (ni_aloadn ni_dL_law_3307 rfl) ni_muLd <|
  ni_row (ni_virt (y := 121) (T := TX19) ni_dL_law_3308 (by decide) rfl rfl ni_w2358 ni_w2359 ni_w2360 ni_w71 ni_w2361 ⟨by decide +kernel, by decide +kernel, by decide +kernel⟩ (by decide) rfl) (ni_muV (by decide)) <|
  ni_row (ni_okP (ni_lcmp ni_dL_law_3311)) (ni_muP (ni_eqJ fun _ _ _ => rfl)) <|
  ni_row (ni_okP (ni_if_eq ni_dL_law_3312 (by decide))) (ni_muP ni_eqIf) <|
  ni_row0
def ni_pr85_52 (xs : List Int32) : List (Nat × ni_S) := [(3317, ni_sInc 5 (6) 3320),
  (3320, ni_sP (ni_gGo 28)),
  (3323, ni_sP (ni_gPush (.int 1) 3324)),
  (3324, ni_sR (some .boolean))]
theorem ni_pk85_52 : ∀ r ∈ ni_pr85_52 xs, ni_Ok xs ⟨"SwitchyardLaw", "law", "([I)Z"⟩ cL_law 9 (some .boolean) [] r.1 r.2 ∧ ni_MU r.2 := ni_row (ni_iinc (n := 6) ni_dL_law_3317 (by decide)) ni_muInc <|
  ni_row (ni_okP (ni_goto ni_dL_law_3320 (by decide))) (ni_muP ni_eqGo) <|
  ni_row (ni_okP (ni_iconst ni_dL_law_3323 (by decide +kernel))) (ni_muP (ni_eqPush fun _ => rfl)) <|
  ni_row (ni_ret ni_dL_law_3324) ni_muR <|
  ni_row0
def ni_pr85 (xs : List Int32) : List (Nat × ni_S) := ni_pr85_0 xs ++ (ni_pr85_1 xs ++ (ni_pr85_2 xs ++ (ni_pr85_3 xs ++ (ni_pr85_4 xs ++ (ni_pr85_5 xs ++ (ni_pr85_6 xs ++ (ni_pr85_7 xs ++ (ni_pr85_8 xs ++ (ni_pr85_9 xs ++ (ni_pr85_10 xs ++ (ni_pr85_11 xs ++ (ni_pr85_12 xs ++ (ni_pr85_13 xs ++ (ni_pr85_14 xs ++ (ni_pr85_15 xs ++ (ni_pr85_16 xs ++ (ni_pr85_17 xs ++ (ni_pr85_18 xs ++ (ni_pr85_19 xs ++ (ni_pr85_20 xs ++ (ni_pr85_21 xs ++ (ni_pr85_22 xs ++ (ni_pr85_23 xs ++ (ni_pr85_24 xs ++ (ni_pr85_25 xs ++ (ni_pr85_26 xs ++ (ni_pr85_27 xs ++ (ni_pr85_28 xs ++ (ni_pr85_29 xs ++ (ni_pr85_30 xs ++ (ni_pr85_31 xs ++ (ni_pr85_32 xs ++ (ni_pr85_33 xs ++ (ni_pr85_34 xs ++ (ni_pr85_35 xs ++ (ni_pr85_36 xs ++ (ni_pr85_37 xs ++ (ni_pr85_38 xs ++ (ni_pr85_39 xs ++ (ni_pr85_40 xs ++ (ni_pr85_41 xs ++ (ni_pr85_42 xs ++ (ni_pr85_43 xs ++ (ni_pr85_44 xs ++ (ni_pr85_45 xs ++ (ni_pr85_46 xs ++ (ni_pr85_47 xs ++ (ni_pr85_48 xs ++ (ni_pr85_49 xs ++ (ni_pr85_50 xs ++ (ni_pr85_51 xs ++ (ni_pr85_52 xs))))))))))))))))))))))))))))))))))))))))))))))))))))
theorem ni_pk85 : ∀ r ∈ ni_pr85 xs, ni_Ok xs ⟨"SwitchyardLaw", "law", "([I)Z"⟩ cL_law 9 (some .boolean) [] r.1 r.2 ∧ ni_MU r.2 := List.forall_mem_append.mpr ⟨ni_pk85_0, List.forall_mem_append.mpr ⟨ni_pk85_1, List.forall_mem_append.mpr ⟨ni_pk85_2, List.forall_mem_append.mpr ⟨ni_pk85_3, List.forall_mem_append.mpr ⟨ni_pk85_4, List.forall_mem_append.mpr ⟨ni_pk85_5, List.forall_mem_append.mpr ⟨ni_pk85_6, List.forall_mem_append.mpr ⟨ni_pk85_7, List.forall_mem_append.mpr ⟨ni_pk85_8, List.forall_mem_append.mpr ⟨ni_pk85_9, List.forall_mem_append.mpr ⟨ni_pk85_10, List.forall_mem_append.mpr ⟨ni_pk85_11, List.forall_mem_append.mpr ⟨ni_pk85_12, List.forall_mem_append.mpr ⟨ni_pk85_13, List.forall_mem_append.mpr ⟨ni_pk85_14, List.forall_mem_append.mpr ⟨ni_pk85_15, List.forall_mem_append.mpr ⟨ni_pk85_16, List.forall_mem_append.mpr ⟨ni_pk85_17, List.forall_mem_append.mpr ⟨ni_pk85_18, List.forall_mem_append.mpr ⟨ni_pk85_19, List.forall_mem_append.mpr ⟨ni_pk85_20, List.forall_mem_append.mpr ⟨ni_pk85_21, List.forall_mem_append.mpr ⟨ni_pk85_22, List.forall_mem_append.mpr ⟨ni_pk85_23, List.forall_mem_append.mpr ⟨ni_pk85_24, List.forall_mem_append.mpr ⟨ni_pk85_25, List.forall_mem_append.mpr ⟨ni_pk85_26, List.forall_mem_append.mpr ⟨ni_pk85_27, List.forall_mem_append.mpr ⟨ni_pk85_28, List.forall_mem_append.mpr ⟨ni_pk85_29, List.forall_mem_append.mpr ⟨ni_pk85_30, List.forall_mem_append.mpr ⟨ni_pk85_31, List.forall_mem_append.mpr ⟨ni_pk85_32, List.forall_mem_append.mpr ⟨ni_pk85_33, List.forall_mem_append.mpr ⟨ni_pk85_34, List.forall_mem_append.mpr ⟨ni_pk85_35, List.forall_mem_append.mpr ⟨ni_pk85_36, List.forall_mem_append.mpr ⟨ni_pk85_37, List.forall_mem_append.mpr ⟨ni_pk85_38, List.forall_mem_append.mpr ⟨ni_pk85_39, List.forall_mem_append.mpr ⟨ni_pk85_40, List.forall_mem_append.mpr ⟨ni_pk85_41, List.forall_mem_append.mpr ⟨ni_pk85_42, List.forall_mem_append.mpr ⟨ni_pk85_43, List.forall_mem_append.mpr ⟨ni_pk85_44, List.forall_mem_append.mpr ⟨ni_pk85_45, List.forall_mem_append.mpr ⟨ni_pk85_46, List.forall_mem_append.mpr ⟨ni_pk85_47, List.forall_mem_append.mpr ⟨ni_pk85_48, List.forall_mem_append.mpr ⟨ni_pk85_49, List.forall_mem_append.mpr ⟨ni_pk85_50, List.forall_mem_append.mpr ⟨ni_pk85_51, ni_pk85_52⟩⟩⟩⟩⟩⟩⟩⟩⟩⟩⟩⟩⟩⟩⟩⟩⟩⟩⟩⟩⟩⟩⟩⟩⟩⟩⟩⟩⟩⟩⟩⟩⟩⟩⟩⟩⟩⟩⟩⟩⟩⟩⟩⟩⟩⟩⟩⟩⟩⟩⟩⟩
end NIP
