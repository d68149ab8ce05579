section NIP
variable {xs : List Int32}
def ni_pr174_0 : List (Nat × ni_S) := [(0, ni_sNew 14 [.int 0, .int 0, .int 0, .null, .null, .null, .null, .null, .null, .null, .int 0, .null, .null, .null, .int 0, .null, .null, .null, .null, .null, .null, .null, .null, .null] 3),
  (3, ni_sP (ni_gDup 4)),
  (4, ni_sI 173 0 7),
  (7, ni_sSt 3 1 8),
  (8, ni_sLd 3 1 9),
  (9, ni_sLd 3 0 10),
  (10, ni_sGet 14 0 13),
  (13, ni_sPut 14 0 (.int) 16),
  (16, ni_sLd 3 1 17),
  (17, ni_sLd 3 0 18),
  (18, ni_sGet 14 1 21),
  (21, ni_sPut 14 1 (.int) 24),
  (24, ni_sLd 3 1 25),
  (25, ni_sLd 3 0 26),
  (26, ni_sGet 14 2 29),
  (29, ni_sPut 14 2 (.int) 32),
  (32, ni_sP (ni_gPush (.int 0) 33)),
  (33, ni_sSt 0 2 34),
  (34, ni_sLd 0 2 35),
  (35, ni_sLd 3 0 36),
  (36, ni_sGet 14 2 39),
  (39, ni_sP (ni_gIc (fun x y => decide (y ≤ x)) 162 42)),
  (162, ni_sLd 3 1 163),
  (163, ni_sLd 3 0 164),
  (164, ni_sGet 14 10 167),
  (167, ni_sPut 14 10 (.int) 170),
  (170, ni_sLd 3 1 171),
  (171, ni_sLd 3 0 172),
  (172, ni_sGet 14 14 175),
  (175, ni_sPut 14 14 (.int) 178),
  (178, ni_sP (ni_gPush (.int 0) 179)),
  (179, ni_sSt 0 2 180),
  (180, ni_sLd 0 2 181),
  (181, ni_sP (ni_gPush (.int 24) 183)),
  (183, ni_sP (ni_gIc (fun x y => decide (y ≤ x)) 276 186)),
  (186, ni_sLd 3 1 187),
  (187, ni_sGet 14 11 190),
  (190, ni_sLd 0 2 191),
  (191, ni_sLd 3 0 192),
  (192, ni_sGet 14 11 195),
  (195, ni_sLd 0 2 196),
  (196, ni_sAld .int 0 197),
  (197, ni_sAst .int 0 198),
  (198, ni_sLd 3 1 199),
  (199, ni_sGet 14 12 202),
  (202, ni_sLd 0 2 203),
  (203, ni_sLd 3 0 204),
  (204, ni_sGet 14 12 207),
  (207, ni_sLd 0 2 208),
  (208, ni_sAld .int 0 209),
  (209, ni_sAst .int 0 210),
  (210, ni_sLd 3 1 211),
  (211, ni_sGet 14 13 214),
  (214, ni_sLd 0 2 215),
  (215, ni_sLd 3 0 216),
  (216, ni_sGet 14 13 219),
  (219, ni_sLd 0 2 220),
  (220, ni_sAld .int 0 221),
  (221, ni_sAst .int 0 222),
  (222, ni_sLd 3 1 223),
  (223, ni_sGet 14 15 226),
  (226, ni_sLd 0 2 227),
  (227, ni_sLd 3 0 228),
  (228, ni_sGet 14 15 231),
  (231, ni_sLd 0 2 232),
  (232, ni_sAld .int 0 233),
  (233, ni_sAst .int 0 234),
  (234, ni_sLd 3 1 235),
  (235, ni_sGet 14 16 238),
  (238, ni_sLd 0 2 239),
  (239, ni_sLd 3 0 240),
  (240, ni_sGet 14 16 243),
  (243, ni_sLd 0 2 244),
  (244, ni_sAld .int 0 245),
  (245, ni_sAst .int 0 246),
  (246, ni_sLd 3 1 247),
  (247, ni_sGet 14 17 250),
  (250, ni_sLd 0 2 251),
  (251, ni_sLd 3 0 252),
  (252, ni_sGet 14 17 255),
  (255, ni_sLd 0 2 256),
  (256, ni_sAld .int 0 257),
  (257, ni_sAst .int 0 258),
  (258, ni_sLd 3 1 259),
  (259, ni_sGet 14 18 262),
  (262, ni_sLd 0 2 263),
  (263, ni_sLd 3 0 264),
  (264, ni_sGet 14 18 267),
  (267, ni_sLd 0 2 268),
  (268, ni_sAld .int 0 269),
  (269, ni_sAst .int 0 270),
  (270, ni_sInc 2 (1) 273),
  (273, ni_sP (ni_gGo 180)),
  (276, ni_sP (ni_gPush (.int 0) 277)),
  (277, ni_sSt 0 2 278),
  (278, ni_sLd 0 2 279),
  (279, ni_sLd 3 0 280),
  (280, ni_sGet 14 19 283),
  (283, ni_sV 187 0 0 286),
  (286, ni_sP (ni_gIc (fun x y => decide (y ≤ x)) 317 289))]
theorem ni_pk174_0 : ∀ r ∈ ni_pr174_0, ni_Ok xs yX15_copy cX15_copy 3 (some (.object "SwitchyardModel$Net")) [] r.1 r.2 ∧ ni_MU r.2 := ni_row (ni_new (T := TX15) (ty0 := tyX15) ni_dX15_copy_0 (by decide) rfl ni_uX15 tyX15_ok rfl (by decide +kernel) ni_w2309 ni_w1372 ni_w72) (ni_muNew fun _ => rfl) <|
  ni_row (ni_okP (ni_dup ni_dX15_copy_3)) (ni_muP ni_eqDup) <|
  ni_row (ni_init (y := 173) ni_dX15_copy_4 rfl rfl ni_w2310 ni_w1374 ni_w72 ni_w1375 ⟨by decide +kernel, by decide +kernel, by decide +kernel⟩ (by decide) rfl) ni_muI <|
  ni_row (ni_astoren ni_dX15_copy_7 rfl (by decide)) ni_muSt <|
  ni_row (ni_aloadn ni_dX15_copy_8 rfl) ni_muLd <|
  ni_row (ni_aloadn ni_dX15_copy_9 rfl) ni_muLd <|
  ni_row (ni_get (T := TX15) ni_dX15_copy_10 (by decide) rfl (by decide) ni_uX15 ni_w1473) ni_muGet <|
  ni_row (ni_putA (T := TX15) (ty0 := tyX15) (b := false) (Or.inl rfl) rfl ni_dX15_copy_13 (by decide) rfl (by decide) ni_uX15 tyX15_ok nmX15 ni_w1473) ni_muPut <|
  ni_row (ni_aloadn ni_dX15_copy_16 rfl) ni_muLd <|
  ni_row (ni_aloadn ni_dX15_copy_17 rfl) ni_muLd <|
  ni_row (ni_get (T := TX15) ni_dX15_copy_18 (by decide) rfl (by decide) ni_uX15 ni_w1475) ni_muGet <|
  ni_row (ni_putA (T := TX15) (ty0 := tyX15) (b := false) (Or.inl rfl) rfl ni_dX15_copy_21 (by decide) rfl (by decide) ni_uX15 tyX15_ok nmX15 ni_w1475) ni_muPut <|
  ni_row (ni_aloadn ni_dX15_copy_24 rfl) ni_muLd <|
  ni_row (ni_aloadn ni_dX15_copy_25 rfl) ni_muLd <|
  ni_row (ni_get (T := TX15) ni_dX15_copy_26 (by decide) rfl (by decide) ni_uX15 ni_w1477) ni_muGet <|
  ni_row (ni_putA (T := TX15) (ty0 := tyX15) (b := false) (Or.inl rfl) rfl ni_dX15_copy_29 (by decide) rfl (by decide) ni_uX15 tyX15_ok nmX15 ni_w1477) ni_muPut <|
  ni_row (ni_okP (ni_iconst ni_dX15_copy_32 (by decide +kernel))) (ni_muP (ni_eqPush fun _ => rfl)) <|
  ni_row (ni_istoren ni_dX15_copy_33 rfl (by decide)) ni_muSt <|
  ni_row (ni_iloadn ni_dX15_copy_34 rfl) ni_muLd <|
  ni_row (ni_aloadn ni_dX15_copy_35 rfl) ni_muLd <|
  ni_row (ni_get (T := TX15) ni_dX15_copy_36 (by decide) rfl (by decide) ni_uX15 ni_w1477) ni_muGet <|
  ni_row (ni_okP (ni_ic_ge ni_dX15_copy_39 (by decide))) (ni_muP ni_eqIc) <|
  ni_row (ni_aloadn ni_dX15_copy_162 rfl) ni_muLd <|
  ni_row (ni_aloadn ni_dX15_copy_163 rfl) ni_muLd <|
  ni_row (ni_get (T := TX15) ni_dX15_copy_164 (by decide) rfl (by decide) ni_uX15 ni_w1493) ni_muGet <|
  ni_row (ni_putA (T := TX15) (ty0 := tyX15) (b := false) (Or.inl rfl) rfl ni_dX15_copy_167 (by decide) rfl (by decide) ni_uX15 tyX15_ok nmX15 ni_w1493) ni_muPut <|
  ni_row (ni_aloadn ni_dX15_copy_170 rfl) ni_muLd <|
  ni_row (ni_aloadn ni_dX15_copy_171 rfl) ni_muLd <|
  ni_row (ni_get (T := TX15) ni_dX15_copy_172 (by decide) rfl (by decide) ni_uX15 ni_w1501) ni_muGet <|
  ni_row (ni_putA (T := TX15) (ty0 := tyX15) (b := false) (Or.inl rfl) rfl ni_dX15_copy_175 (by decide) rfl (by decide) ni_uX15 tyX15_ok nmX15 ni_w1501) ni_muPut <|
  ni_row (ni_okP (ni_iconst ni_dX15_copy_178 (by decide +kernel))) (ni_muP (ni_eqPush fun _ => rfl)) <|
  ni_row (ni_istoren ni_dX15_copy_179 rfl (by decide)) ni_muSt <|
  ni_row (ni_iloadn ni_dX15_copy_180 rfl) ni_muLd <|
  ni_row (ni_okP (ni_bipush ni_dX15_copy_181 (by decide +kernel))) (ni_muP (ni_eqPush fun _ => rfl)) <|
  ni_row (ni_okP (ni_ic_ge ni_dX15_copy_183 (by decide))) (ni_muP ni_eqIc) <|
  ni_row (ni_aloadn ni_dX15_copy_186 rfl) ni_muLd <|
  ni_row (ni_get (T := TX15) ni_dX15_copy_187 (by decide) rfl (by decide) ni_uX15 ni_w1495) ni_muGet <|
  ni_row (ni_iloadn ni_dX15_copy_190 rfl) ni_muLd <|
  ni_row (ni_aloadn ni_dX15_copy_191 rfl) ni_muLd <|
  ni_row (ni_get (T := TX15) ni_dX15_copy_192 (by decide) rfl (by decide) ni_uX15 ni_w1495) ni_muGet <|
  ni_row (ni_iloadn ni_dX15_copy_195 rfl) ni_muLd <|
  ni_row (ni_iald ni_dX15_copy_196) ni_muAld <|
  ni_row (ni_iast ni_dX15_copy_197) ni_muAst <|
  ni_row (ni_aloadn ni_dX15_copy_198 rfl) ni_muLd <|
  ni_row (ni_get (T := TX15) ni_dX15_copy_199 (by decide) rfl (by decide) ni_uX15 ni_w1497) ni_muGet <|
  ni_row (ni_iloadn ni_dX15_copy_202 rfl) ni_muLd <|
  ni_row (ni_aloadn ni_dX15_copy_203 rfl) ni_muLd <|
  ni_row (ni_get (T := TX15) ni_dX15_copy_204 (by decide) rfl (by decide) ni_uX15 ni_w1497) ni_muGet <|
  ni_row (ni_iloadn ni_dX15_copy_207 rfl) ni_muLd <|
  ni_row (ni_iald ni_dX15_copy_208) ni_muAld <|
  ni_row (ni_iast ni_dX15_copy_209) ni_muAst <|
  ni_row (ni_aloadn ni_dX15_copy_210 rfl) ni_muLd <|
  ni_row (ni_get (T := TX15) ni_dX15_copy_211 (by decide) rfl (by decide) ni_uX15 ni_w1499) ni_muGet <|
  ni_row (ni_iloadn ni_dX15_copy_214 rfl) ni_muLd <|
  ni_row (ni_aloadn ni_dX15_copy_215 rfl) ni_muLd <|
  ni_row (ni_get (T := TX15) ni_dX15_copy_216 (by decide) rfl (by decide) ni_uX15 ni_w1499) ni_muGet <|
  ni_row (ni_iloadn ni_dX15_copy_219 rfl) ni_muLd <|
  ni_row (ni_iald ni_dX15_copy_220) ni_muAld <|
  ni_row (ni_iast ni_dX15_copy_221) ni_muAst <|
  ni_row (ni_aloadn ni_dX15_copy_222 rfl) ni_muLd <|
  ni_row (ni_get (T := TX15) ni_dX15_copy_223 (by decide) rfl (by decide) ni_uX15 ni_w1503) ni_muGet <|
  ni_row (ni_iloadn ni_dX15_copy_226 rfl) ni_muLd <|
  ni_row (ni_aloadn ni_dX15_copy_227 rfl) ni_muLd <|
  ni_row (ni_get (T := TX15) ni_dX15_copy_228 (by decide) rfl (by decide) ni_uX15 ni_w1503) ni_muGet <|
  ni_row (ni_iloadn ni_dX15_copy_231 rfl) ni_muLd <|
  ni_row (ni_iald ni_dX15_copy_232) ni_muAld <|
  ni_row (ni_iast ni_dX15_copy_233) ni_muAst <|
  ni_row (ni_aloadn ni_dX15_copy_234 rfl) ni_muLd <|
  ni_row (ni_get (T := TX15) ni_dX15_copy_235 (by decide) rfl (by decide) ni_uX15 ni_w1505) ni_muGet <|
  ni_row (ni_iloadn ni_dX15_copy_238 rfl) ni_muLd <|
  ni_row (ni_aloadn ni_dX15_copy_239 rfl) ni_muLd <|
  ni_row (ni_get (T := TX15) ni_dX15_copy_240 (by decide) rfl (by decide) ni_uX15 ni_w1505) ni_muGet <|
  ni_row (ni_iloadn ni_dX15_copy_243 rfl) ni_muLd <|
  ni_row (ni_iald ni_dX15_copy_244) ni_muAld <|
  ni_row (ni_iast ni_dX15_copy_245) ni_muAst <|
  ni_row (ni_aloadn ni_dX15_copy_246 rfl) ni_muLd <|
  ni_row (ni_get (T := TX15) ni_dX15_copy_247 (by decide) rfl (by decide) ni_uX15 ni_w1507) ni_muGet <|
  ni_row (ni_iloadn ni_dX15_copy_250 rfl) ni_muLd <|
  ni_row (ni_aloadn ni_dX15_copy_251 rfl) ni_muLd <|
  ni_row (ni_get (T := TX15) ni_dX15_copy_252 (by decide) rfl (by decide) ni_uX15 ni_w1507) ni_muGet <|
  ni_row (ni_iloadn ni_dX15_copy_255 rfl) ni_muLd <|
  ni_row (ni_iald ni_dX15_copy_256) ni_muAld <|
  ni_row (ni_iast ni_dX15_copy_257) ni_muAst <|
  ni_row (ni_aloadn ni_dX15_copy_258 rfl) ni_muLd <|
  ni_row (ni_get (T := TX15) ni_dX15_copy_259 (by decide) rfl (by decide) ni_uX15 ni_w1509) ni_muGet <|
  ni_row (ni_iloadn ni_dX15_copy_262 rfl) ni_muLd <|
  ni_row (ni_aloadn ni_dX15_copy_263 rfl) ni_muLd <|
  ni_row (ni_get (T := TX15) ni_dX15_copy_264 (by decide) rfl (by decide) ni_uX15 ni_w1509) ni_muGet <|
  ni_row (ni_iloadn ni_dX15_copy_267 rfl) ni_muLd <|
  ni_row (ni_iald ni_dX15_copy_268) ni_muAld <|
  ni_row (ni_iast ni_dX15_copy_269) ni_muAst <|
  ni_row (ni_iinc (n := 1) ni_dX15_copy_270 (by decide)) ni_muInc <|
  ni_row (ni_okP (ni_goto ni_dX15_copy_273 (by decide))) (ni_muP ni_eqGo) <|
  ni_row (ni_okP (ni_iconst ni_dX15_copy_276 (by decide +kernel))) (ni_muP (ni_eqPush fun _ => rfl)) <|
  ni_row (ni_istoren ni_dX15_copy_277 rfl (by decide)) ni_muSt <|
  ni_row (ni_iloadn ni_dX15_copy_278 rfl) ni_muLd <|
  ni_row (ni_aloadn ni_dX15_copy_279 rfl) ni_muLd <|
  ni_row (ni_get (T := TX15) ni_dX15_copy_280 (by decide) rfl (by decide) ni_uX15 ni_w1511) ni_muGet <|
  ni_row (ni_virt (y := 187) (T := TJx4a65c) ni_dX15_copy_283 (by decide) rfl rfl ni_w1769 ni_w1770 ni_w1771 ni_w75 ni_w1772 ⟨by decide +kernel, by decide +kernel, by decide +kernel⟩ (by decide) rfl) (ni_muV (by decide)) <|
  ni_row (ni_okP (ni_ic_ge ni_dX15_copy_286 (by decide))) (ni_muP ni_eqIc) <|
  ni_row0
def ni_pr174_1 : List (Nat × ni_S) := [(317, ni_sP (ni_gPush (.int 0) 318)),
  (318, ni_sSt 0 2 319),
  (319, ni_sLd 0 2 320),
  (320, ni_sP (ni_gPush (.int 64) 322)),
  (322, ni_sP (ni_gIc (fun x y => decide (y ≤ x)) 367 325)),
  (325, ni_sLd 3 1 326),
  (326, ni_sGet 14 20 329),
  (329, ni_sLd 0 2 330),
  (330, ni_sLd 3 0 331),
  (331, ni_sGet 14 20 334),
  (334, ni_sLd 0 2 335),
  (335, ni_sQld 336),
  (336, ni_sQst 337),
  (337, ni_sLd 3 1 338),
  (338, ni_sGet 14 21 341),
  (341, ni_sLd 0 2 342),
  (342, ni_sLd 3 0 343),
  (343, ni_sGet 14 21 346),
  (346, ni_sLd 0 2 347),
  (347, ni_sAld .int 0 348),
  (348, ni_sAst .int 0 349),
  (349, ni_sLd 3 1 350),
  (350, ni_sGet 14 22 353),
  (353, ni_sLd 0 2 354),
  (354, ni_sLd 3 0 355),
  (355, ni_sGet 14 22 358),
  (358, ni_sLd 0 2 359),
  (359, ni_sQlA 360),
  (360, ni_sQsA 361),
  (361, ni_sInc 2 (1) 364),
  (364, ni_sP (ni_gGo 319)),
  (367, ni_sP (ni_gPush (.int 0) 368)),
  (368, ni_sSt 0 2 369),
  (369, ni_sLd 0 2 370),
  (370, ni_sP (ni_gPush (.int 8) 372)),
  (372, ni_sP (ni_gIc (fun x y => decide (y ≤ x)) 407 375)),
  (375, ni_sLd 3 1 376),
  (376, ni_sGet 14 23 379),
  (379, ni_sLd 0 2 380),
  (380, ni_sV 184 1 0 383),
  (383, ni_sCast "java/util/ArrayList" 386),
  (386, ni_sLd 3 0 387),
  (387, ni_sGet 14 23 390),
  (390, ni_sLd 0 2 391),
  (391, ni_sV 184 1 0 394),
  (394, ni_sCast "java/util/Collection" 397),
  (397, ni_sV 182 1 0 400),
  (400, ni_sP (ni_gPop 401)),
  (401, ni_sInc 2 (1) 404),
  (404, ni_sP (ni_gGo 369)),
  (407, ni_sLd 3 1 408),
  (408, ni_sR (some (.object "SwitchyardModel$Net")))]
theorem ni_pk174_1 : ∀ r ∈ ni_pr174_1, ni_Ok xs yX15_copy cX15_copy 3 (some (.object "SwitchyardModel$Net")) [] r.1 r.2 ∧ ni_MU r.2 := ni_row (ni_okP (ni_iconst ni_dX15_copy_317 (by decide +kernel))) (ni_muP (ni_eqPush fun _ => rfl)) <|
  ni_row (ni_istoren ni_dX15_copy_318 rfl (by decide)) ni_muSt <|
  ni_row (ni_iloadn ni_dX15_copy_319 rfl) ni_muLd <|
  ni_row (ni_okP (ni_bipush ni_dX15_copy_320 (by decide +kernel))) (ni_muP (ni_eqPush fun _ => rfl)) <|
  ni_row (ni_okP (ni_ic_ge ni_dX15_copy_322 (by decide))) (ni_muP ni_eqIc) <|
  ni_row (ni_aloadn ni_dX15_copy_325 rfl) ni_muLd <|
  ni_row (ni_get (T := TX15) ni_dX15_copy_326 (by decide) rfl (by decide) ni_uX15 ni_w1513) ni_muGet <|
  ni_row (ni_iloadn ni_dX15_copy_329 rfl) ni_muLd <|
  ni_row (ni_aloadn ni_dX15_copy_330 rfl) ni_muLd <|
  ni_row (ni_get (T := TX15) ni_dX15_copy_331 (by decide) rfl (by decide) ni_uX15 ni_w1513) ni_muGet <|
  ni_row (ni_iloadn ni_dX15_copy_334 rfl) ni_muLd <|
  ni_row (ni_aald ni_dX15_copy_335) ni_muQld <|
  ni_row (ni_aast ni_dX15_copy_336) ni_muQst <|
  ni_row (ni_aloadn ni_dX15_copy_337 rfl) ni_muLd <|
  ni_row (ni_get (T := TX15) ni_dX15_copy_338 (by decide) rfl (by decide) ni_uX15 ni_w1514) ni_muGet <|
  ni_row (ni_iloadn ni_dX15_copy_341 rfl) ni_muLd <|
  ni_row (ni_aloadn ni_dX15_copy_342 rfl) ni_muLd <|
  ni_row (ni_get (T := TX15) ni_dX15_copy_343 (by decide) rfl (by decide) ni_uX15 ni_w1514) ni_muGet <|
  ni_row (ni_iloadn ni_dX15_copy_346 rfl) ni_muLd <|
  ni_row (ni_iald ni_dX15_copy_347) ni_muAld <|
  ni_row (ni_iast ni_dX15_copy_348) ni_muAst <|
  ni_row (ni_aloadn ni_dX15_copy_349 rfl) ni_muLd <|
  ni_row (ni_get (T := TX15) ni_dX15_copy_350 (by decide) rfl (by decide) ni_uX15 ni_w1516) ni_muGet <|
  ni_row (ni_iloadn ni_dX15_copy_353 rfl) ni_muLd <|
  ni_row (ni_aloadn ni_dX15_copy_354 rfl) ni_muLd <|
  ni_row (ni_get (T := TX15) ni_dX15_copy_355 (by decide) rfl (by decide) ni_uX15 ni_w1516) ni_muGet <|
  ni_row (ni_iloadn ni_dX15_copy_358 rfl) ni_muLd <|
  ni_row (ni_aaldA ni_dX15_copy_359) ni_muQlA <|
  ni_row (ni_aastA ni_dX15_copy_360) ni_muQsA <|
  ni_row (ni_iinc (n := 1) ni_dX15_copy_361 (by decide)) ni_muInc <|
  ni_row (ni_okP (ni_goto ni_dX15_copy_364 (by decide))) (ni_muP ni_eqGo) <|
  ni_row (ni_okP (ni_iconst ni_dX15_copy_367 (by decide +kernel))) (ni_muP (ni_eqPush fun _ => rfl)) <|
  ni_row (ni_istoren ni_dX15_copy_368 rfl (by decide)) ni_muSt <|
  ni_row (ni_iloadn ni_dX15_copy_369 rfl) ni_muLd <|
  ni_row (ni_okP (ni_bipush ni_dX15_copy_370 (by decide +kernel))) (ni_muP (ni_eqPush fun _ => rfl)) <|
  ni_row (ni_okP (ni_ic_ge ni_dX15_copy_372 (by decide))) (ni_muP ni_eqIc) <|
  ni_row (ni_aloadn ni_dX15_copy_375 rfl) ni_muLd <|
  ni_row (ni_get (T := TX15) ni_dX15_copy_376 (by decide) rfl (by decide) ni_uX15 ni_w1518) ni_muGet <|
  ni_row (ni_iloadn ni_dX15_copy_379 rfl) ni_muLd <|
  ni_row (ni_virt (y := 184) (T := TJx4a65c) ni_dX15_copy_380 (by decide) rfl rfl ni_w1773 ni_w1774 ni_w1775 ni_w75 ni_w1776 ⟨by decide +kernel, by decide +kernel, by decide +kernel⟩ (by decide) rfl) (ni_muV (by decide)) <|
  ni_row (ni_cast ni_dX15_copy_383 ni_w1379) ni_muCast <|
  ni_row (ni_aloadn ni_dX15_copy_386 rfl) ni_muLd <|
  ni_row (ni_get (T := TX15) ni_dX15_copy_387 (by decide) rfl (by decide) ni_uX15 ni_w1518) ni_muGet <|
  ni_row (ni_iloadn ni_dX15_copy_390 rfl) ni_muLd <|
  ni_row (ni_virt (y := 184) (T := TJx4a65c) ni_dX15_copy_391 (by decide) rfl rfl ni_w1773 ni_w1774 ni_w1775 ni_w75 ni_w1776 ⟨by decide +kernel, by decide +kernel, by decide +kernel⟩ (by decide) rfl) (ni_muV (by decide)) <|
  ni_row (ni_cast ni_dX15_copy_394 ni_w2352) ni_muCast <|
  ni_row (ni_virt (y := 182) (T := TJx4a65c) ni_dX15_copy_397 (by decide) rfl rfl ni_w2353 ni_w2328 ni_w2329 ni_w75 ni_w2330 ⟨by decide +kernel, by decide +kernel, by decide +kernel⟩ (by decide) rfl) (ni_muV (by decide)) <|
  ni_row (ni_okP (ni_pop ni_dX15_copy_400)) (ni_muP ni_eqPop) <|
  ni_row (ni_iinc (n := 1) ni_dX15_copy_401 (by decide)) ni_muInc <|
  ni_row (ni_okP (ni_goto ni_dX15_copy_404 (by decide))) (ni_muP ni_eqGo) <|
  ni_row (ni_aloadn ni_dX15_copy_407 rfl) ni_muLd <|
  ni_row (ni_ret ni_dX15_copy_408) ni_muR <|
  ni_row0
def ni_pr174 : List (Nat × ni_S) := ni_pr174_0 ++ (ni_pr174_1)
theorem ni_pk174 : ∀ r ∈ ni_pr174, ni_Ok xs yX15_copy cX15_copy 3 (some (.object "SwitchyardModel$Net")) [] r.1 r.2 ∧ ni_MU r.2 := List.forall_mem_append.mpr ⟨ni_pk174_0, ni_pk174_1⟩
def ni_pr175 : List (Nat × ni_S) := [(0, ni_sP (ni_gPush (.int 0) 1)),
  (1, ni_sSt 0 1 2),
  (2, ni_sP (ni_gPush (.int 0) 3)),
  (3, ni_sSt 0 2 4),
  (4, ni_sLd 0 2 5),
  (5, ni_sP (ni_gPush (.int 2) 6)),
  (6, ni_sLd 3 0 7),
  (7, ni_sGet 14 2 10),
  (10, ni_sP (ni_gI (fun x y => x * y) 11)),
  (11, ni_sP (ni_gIc (fun x y => decide (y ≤ x)) 35 14)),
  (35, ni_sLd 0 1 36),
  (36, ni_sR (some .int))]
theorem ni_pk175 : ∀ r ∈ ni_pr175, ni_Ok xs yX15_letters cX15_letters 3 (some .int) [] r.1 r.2 ∧ ni_MU r.2 := ni_row (ni_okP (ni_iconst ni_dX15_letters_0 (by decide +kernel))) (ni_muP (ni_eqPush fun _ => rfl)) <|
  ni_row (ni_istoren ni_dX15_letters_1 rfl (by decide)) ni_muSt <|
  ni_row (ni_okP (ni_iconst ni_dX15_letters_2 (by decide +kernel))) (ni_muP (ni_eqPush fun _ => rfl)) <|
  ni_row (ni_istoren ni_dX15_letters_3 rfl (by decide)) ni_muSt <|
  ni_row (ni_iloadn ni_dX15_letters_4 rfl) ni_muLd <|
  ni_row (ni_okP (ni_iconst ni_dX15_letters_5 (by decide +kernel))) (ni_muP (ni_eqPush fun _ => rfl)) <|
  ni_row (ni_aloadn ni_dX15_letters_6 rfl) ni_muLd <|
  ni_row (ni_get (T := TX15) ni_dX15_letters_7 (by decide) rfl (by decide) ni_uX15 ni_w1477) ni_muGet <|
  ni_row (ni_okP (ni_imul ni_dX15_letters_10)) (ni_muP ni_eqI) <|
  ni_row (ni_okP (ni_ic_ge ni_dX15_letters_11 (by decide))) (ni_muP ni_eqIc) <|
  ni_row (ni_iloadn ni_dX15_letters_35 rfl) ni_muLd <|
  ni_row (ni_ret ni_dX15_letters_36) ni_muR <|
  ni_row0
def ni_pr176 : List (Nat × ni_S) := [(0, ni_sP (ni_gPush (.int 0) 1)),
  (1, ni_sSt 0 1 2),
  (2, ni_sLd 0 1 3),
  (3, ni_sP (ni_gPush (.int 2) 4)),
  (4, ni_sLd 3 0 5),
  (5, ni_sGet 14 2 8),
  (8, ni_sP (ni_gI (fun x y => x * y) 9)),
  (9, ni_sP (ni_gIc (fun x y => decide (y ≤ x)) 101 12)),
  (101, ni_sP (ni_gPush (.int 0) 102)),
  (102, ni_sSt 0 1 103),
  (103, ni_sLd 0 1 104),
  (104, ni_sP (ni_gPush (.int 2) 105)),
  (105, ni_sLd 3 0 106),
  (106, ni_sGet 14 2 109),
  (109, ni_sP (ni_gI (fun x y => x * y) 110)),
  (110, ni_sP (ni_gIc (fun x y => decide (y ≤ x)) 196 113)),
  (196, ni_sP (ni_gPush (.int 0) 197)),
  (197, ni_sSt 0 1 198),
  (198, ni_sLd 0 1 199),
  (199, ni_sLd 3 0 200),
  (200, ni_sGet 14 19 203),
  (203, ni_sV 187 0 0 206),
  (206, ni_sP (ni_gIc (fun x y => decide (y ≤ x)) 220 209)),
  (220, ni_sP (ni_gPush (.int 0) 221)),
  (221, ni_sSt 0 1 222),
  (222, ni_sLd 0 1 223),
  (223, ni_sLd 3 0 224),
  (224, ni_sGet 14 1 227),
  (227, ni_sP (ni_gIc (fun x y => decide (y ≤ x)) 241 230)),
  (241, ni_sP (ni_gPush (.int 0) 242)),
  (242, ni_sSt 0 1 243),
  (243, ni_sLd 0 1 244),
  (244, ni_sP (ni_gPush (.int 2) 245)),
  (245, ni_sLd 3 0 246),
  (246, ni_sGet 14 2 249),
  (249, ni_sP (ni_gI (fun x y => x * y) 250)),
  (250, ni_sP (ni_gIc (fun x y => decide (y ≤ x)) 264 253)),
  (264, ni_sLd 3 0 265),
  (265, ni_sP (ni_gDup 266)),
  (266, ni_sGet 14 0 269),
  (269, ni_sP (ni_gPush (.int 1) 270)),
  (270, ni_sP (ni_gI (fun x y => x + y) 271)),
  (271, ni_sPut 14 0 (.int) 274),
  (274, ni_sR (none))]
theorem ni_pk176 : ∀ r ∈ ni_pr176, ni_Ok xs yX15_tick cX15_tick 4 (none) [] r.1 r.2 ∧ ni_MU r.2 := ni_row (ni_okP (ni_iconst ni_dX15_tick_0 (by decide +kernel))) (ni_muP (ni_eqPush fun _ => rfl)) <|
  ni_row (ni_istoren ni_dX15_tick_1 rfl (by decide)) ni_muSt <|
  ni_row (ni_iloadn ni_dX15_tick_2 rfl) ni_muLd <|
  ni_row (ni_okP (ni_iconst ni_dX15_tick_3 (by decide +kernel))) (ni_muP (ni_eqPush fun _ => rfl)) <|
  ni_row (ni_aloadn ni_dX15_tick_4 rfl) ni_muLd <|
  ni_row (ni_get (T := TX15) ni_dX15_tick_5 (by decide) rfl (by decide) ni_uX15 ni_w1477) ni_muGet <|
  ni_row (ni_okP (ni_imul ni_dX15_tick_8)) (ni_muP ni_eqI) <|
  ni_row (ni_okP (ni_ic_ge ni_dX15_tick_9 (by decide))) (ni_muP ni_eqIc) <|
  ni_row (ni_okP (ni_iconst ni_dX15_tick_101 (by decide +kernel))) (ni_muP (ni_eqPush fun _ => rfl)) <|
  ni_row (ni_istoren ni_dX15_tick_102 rfl (by decide)) ni_muSt <|
  ni_row (ni_iloadn ni_dX15_tick_103 rfl) ni_muLd <|
  ni_row (ni_okP (ni_iconst ni_dX15_tick_104 (by decide +kernel))) (ni_muP (ni_eqPush fun _ => rfl)) <|
  ni_row (ni_aloadn ni_dX15_tick_105 rfl) ni_muLd <|
  ni_row (ni_get (T := TX15) ni_dX15_tick_106 (by decide) rfl (by decide) ni_uX15 ni_w1477) ni_muGet <|
  ni_row (ni_okP (ni_imul ni_dX15_tick_109)) (ni_muP ni_eqI) <|
  ni_row (ni_okP (ni_ic_ge ni_dX15_tick_110 (by decide))) (ni_muP ni_eqIc) <|
  ni_row (ni_okP (ni_iconst ni_dX15_tick_196 (by decide +kernel))) (ni_muP (ni_eqPush fun _ => rfl)) <|
  ni_row (ni_istoren ni_dX15_tick_197 rfl (by decide)) ni_muSt <|
  ni_row (ni_iloadn ni_dX15_tick_198 rfl) ni_muLd <|
  ni_row (ni_aloadn ni_dX15_tick_199 rfl) ni_muLd <|
  ni_row (ni_get (T := TX15) ni_dX15_tick_200 (by decide) rfl (by decide) ni_uX15 ni_w1511) ni_muGet <|
  ni_row (ni_virt (y := 187) (T := TJx4a65c) ni_dX15_tick_203 (by decide) rfl rfl ni_w1769 ni_w1770 ni_w1771 ni_w75 ni_w1772 ⟨by decide +kernel, by decide +kernel, by decide +kernel⟩ (by decide) rfl) (ni_muV (by decide)) <|
  ni_row (ni_okP (ni_ic_ge ni_dX15_tick_206 (by decide))) (ni_muP ni_eqIc) <|
  ni_row (ni_okP (ni_iconst ni_dX15_tick_220 (by decide +kernel))) (ni_muP (ni_eqPush fun _ => rfl)) <|
  ni_row (ni_istoren ni_dX15_tick_221 rfl (by decide)) ni_muSt <|
  ni_row (ni_iloadn ni_dX15_tick_222 rfl) ni_muLd <|
  ni_row (ni_aloadn ni_dX15_tick_223 rfl) ni_muLd <|
  ni_row (ni_get (T := TX15) ni_dX15_tick_224 (by decide) rfl (by decide) ni_uX15 ni_w1475) ni_muGet <|
  ni_row (ni_okP (ni_ic_ge ni_dX15_tick_227 (by decide))) (ni_muP ni_eqIc) <|
  ni_row (ni_okP (ni_iconst ni_dX15_tick_241 (by decide +kernel))) (ni_muP (ni_eqPush fun _ => rfl)) <|
  ni_row (ni_istoren ni_dX15_tick_242 rfl (by decide)) ni_muSt <|
  ni_row (ni_iloadn ni_dX15_tick_243 rfl) ni_muLd <|
  ni_row (ni_okP (ni_iconst ni_dX15_tick_244 (by decide +kernel))) (ni_muP (ni_eqPush fun _ => rfl)) <|
  ni_row (ni_aloadn ni_dX15_tick_245 rfl) ni_muLd <|
  ni_row (ni_get (T := TX15) ni_dX15_tick_246 (by decide) rfl (by decide) ni_uX15 ni_w1477) ni_muGet <|
  ni_row (ni_okP (ni_imul ni_dX15_tick_249)) (ni_muP ni_eqI) <|
  ni_row (ni_okP (ni_ic_ge ni_dX15_tick_250 (by decide))) (ni_muP ni_eqIc) <|
  ni_row (ni_aloadn ni_dX15_tick_264 rfl) ni_muLd <|
  ni_row (ni_okP (ni_dup ni_dX15_tick_265)) (ni_muP ni_eqDup) <|
  ni_row (ni_get (T := TX15) ni_dX15_tick_266 (by decide) rfl (by decide) ni_uX15 ni_w1473) ni_muGet <|
  ni_row (ni_okP (ni_iconst ni_dX15_tick_269 (by decide +kernel))) (ni_muP (ni_eqPush fun _ => rfl)) <|
  ni_row (ni_okP (ni_iadd ni_dX15_tick_270)) (ni_muP ni_eqI) <|
  ni_row (ni_putA (T := TX15) (ty0 := tyX15) (b := false) (Or.inl rfl) rfl ni_dX15_tick_271 (by decide) rfl (by decide) ni_uX15 tyX15_ok nmX15 ni_w1473) ni_muPut <|
  ni_row (ni_ret ni_dX15_tick_274) ni_muR <|
  ni_row0
def ni_pr177 : List (Nat × ni_S) := [(0, ni_sLd 3 0 1),
  (1, ni_sP (ni_gObj 4)),
  (4, ni_sR (none))]
theorem ni_pk177 : ∀ r ∈ ni_pr177, ni_Ok xs yJxa1e45_init_da8c8 cJxa1e45_init_da8c8 1 (none) [] r.1 r.2 ∧ ni_MU r.2 := ni_row (ni_aloadn ni_dJxa1e45_init_da8c8_0 rfl) ni_muLd <|
  ni_row (ni_okP (ni_objInit ni_dJxa1e45_init_da8c8_1 ni_w1390 ni_w103 ni_w104)) (ni_muP ni_eqObj) <|
  ni_row (ni_ret ni_dJxa1e45_init_da8c8_4) ni_muR <|
  ni_row0
def ni_pr178 : List (Nat × ni_S) := [(0, ni_sLd 3 0 1),
  (1, ni_sI 177 0 4),
  (4, ni_sLd 3 0 5),
  (5, ni_sP (ni_gPush (.int 0) 6)),
  (6, ni_sPut 0 0 (.int) 9),
  (9, ni_sR (none))]
theorem ni_pk178 : ∀ r ∈ ni_pr178, ni_Ok xs yJxc12de_init_da8c8 cJxc12de_init_da8c8 1 (none) [] r.1 r.2 ∧ ni_MU r.2 := ni_row (ni_aloadn ni_dJxc12de_init_da8c8_0 rfl) ni_muLd <|
  ni_row (ni_init (y := 177) ni_dJxc12de_init_da8c8_1 rfl rfl ni_w1387 ni_w1388 ni_w73 ni_w1389 ⟨by decide +kernel, by decide +kernel, by decide +kernel⟩ (by decide) rfl) ni_muI <|
  ni_row (ni_aloadn ni_dJxc12de_init_da8c8_4 rfl) ni_muLd <|
  ni_row (ni_okP (ni_iconst ni_dJxc12de_init_da8c8_5 (by decide +kernel))) (ni_muP (ni_eqPush fun _ => rfl)) <|
  ni_row (ni_putA (T := TJx4a65c) (ty0 := tyJx4a65c) (b := false) (Or.inl rfl) rfl ni_dJxc12de_init_da8c8_6 (by decide) rfl (by decide) ni_uJx4a65c tyJx4a65c_ok nmJx4a65c ni_w1395) ni_muPut <|
  ni_row (ni_ret ni_dJxc12de_init_da8c8_9) ni_muR <|
  ni_row0
def ni_pr179 : List (Nat × ni_S) := [(0, ni_sLd 3 0 1),
  (1, ni_sI 178 0 4),
  (4, ni_sLd 3 0 5),
  (5, ni_sGs 8),
  (8, ni_sPut 0 1 (.array (.object "java/lang/Object")) 11),
  (11, ni_sR (none))]
theorem ni_pk179 : ∀ r ∈ ni_pr179, ni_Ok xs yJx4a65c_init_da8c8 cJx4a65c_init_da8c8 1 (none) [] r.1 r.2 ∧ ni_MU r.2 := ni_row (ni_aloadn ni_dJx4a65c_init_da8c8_0 rfl) ni_muLd <|
  ni_row (ni_init (y := 178) ni_dJx4a65c_init_da8c8_1 rfl rfl ni_w1384 ni_w1385 ni_w74 ni_w1386 ⟨by decide +kernel, by decide +kernel, by decide +kernel⟩ (by decide) rfl) ni_muI <|
  ni_row (ni_aloadn ni_dJx4a65c_init_da8c8_4 rfl) ni_muLd <|
  ni_row (ni_gets ni_dJx4a65c_init_da8c8_5 ni_w1391) ni_muGs <|
  ni_row (ni_putA (T := TJx4a65c) (ty0 := tyJx4a65c) (b := false) (Or.inl rfl) rfl ni_dJx4a65c_init_da8c8_8 (by decide) rfl (by decide) ni_uJx4a65c tyJx4a65c_ok nmJx4a65c ni_w1393) ni_muPut <|
  ni_row (ni_ret ni_dJx4a65c_init_da8c8_11) ni_muR <|
  ni_row0
def ni_pr180 : List (Nat × ni_S) := [(0, ni_sLd 3 0 1),
  (1, ni_sP (ni_gDup 2)),
  (2, ni_sGet 0 0 5),
  (5, ni_sP (ni_gPush (.int 1) 6)),
  (6, ni_sP (ni_gI (fun x y => x + y) 7)),
  (7, ni_sPut 0 0 (.int) 10),
  (10, ni_sLd 3 0 11),
  (11, ni_sLd 3 1 12),
  (12, ni_sLd 3 0 13),
  (13, ni_sGet 0 1 16),
  (16, ni_sLd 3 0 17),
  (17, ni_sGet 0 2 20),
  (20, ni_sV 181 3 0 23),
  (23, ni_sP (ni_gPush (.int 1) 24)),
  (24, ni_sR (some .boolean))]
theorem ni_pk180 : ∀ r ∈ ni_pr180, ni_Ok xs yJx4a65c_add_9ea2d cJx4a65c_add_9ea2d 2 (some .boolean) [] r.1 r.2 ∧ ni_MU r.2 := ni_row (ni_aloadn ni_dJx4a65c_add_9ea2d_0 rfl) ni_muLd <|
  ni_row (ni_okP (ni_dup ni_dJx4a65c_add_9ea2d_1)) (ni_muP ni_eqDup) <|
  ni_row (ni_getS (k := 0) (ref := "java/util/ArrayList") (T := TJx4a65c) ni_dJx4a65c_add_9ea2d_2 (by decide) rfl (by decide) ni_uJx4a65c ni_w1396 ni_w1397) ni_muGet <|
  ni_row (ni_okP (ni_iconst ni_dJx4a65c_add_9ea2d_5 (by decide +kernel))) (ni_muP (ni_eqPush fun _ => rfl)) <|
  ni_row (ni_okP (ni_iadd ni_dJx4a65c_add_9ea2d_6)) (ni_muP ni_eqI) <|
  ni_row (ni_putS (k := 0) (ref := "java/util/ArrayList") (T := TJx4a65c) (ty0 := tyJx4a65c) rfl ni_dJx4a65c_add_9ea2d_7 (by decide) rfl (by decide) ni_uJx4a65c tyJx4a65c_ok nmJx4a65c ni_w1396 ni_w1397) ni_muPut <|
  ni_row (ni_aloadn ni_dJx4a65c_add_9ea2d_10 rfl) ni_muLd <|
  ni_row (ni_aloadn ni_dJx4a65c_add_9ea2d_11 rfl) ni_muLd <|
  ni_row (ni_aloadn ni_dJx4a65c_add_9ea2d_12 rfl) ni_muLd <|
  ni_row (ni_get (T := TJx4a65c) ni_dJx4a65c_add_9ea2d_13 (by decide) rfl (by decide) ni_uJx4a65c ni_w1393) ni_muGet <|
  ni_row (ni_aloadn ni_dJx4a65c_add_9ea2d_16 rfl) ni_muLd <|
  ni_row (ni_get (T := TJx4a65c) ni_dJx4a65c_add_9ea2d_17 (by decide) rfl (by decide) ni_uJx4a65c ni_w1394) ni_muGet <|
  ni_row (ni_virt (y := 181) (T := TJx4a65c) ni_dJx4a65c_add_9ea2d_20 (by decide) rfl rfl ni_w1414 ni_w1416 ni_w27 ni_w75 ni_w1417 ⟨by decide +kernel, by decide +kernel, by decide +kernel⟩ (by decide) rfl) (ni_muV (by decide)) <|
  ni_row (ni_okP (ni_iconst ni_dJx4a65c_add_9ea2d_23 (by decide +kernel))) (ni_muP (ni_eqPush fun _ => rfl)) <|
  ni_row (ni_ret ni_dJx4a65c_add_9ea2d_24) ni_muR <|
  ni_row0
def ni_pr181 : List (Nat × ni_S) := [(0, ni_sLd 0 3 1),
  (1, ni_sLd 3 2 2),
  (2, ni_sLnX 3),
  (3, ni_sP (ni_gIc (fun x y => decide (¬ x = y)) 11 6)),
  (6, ni_sLd 3 0 7),
  (7, ni_sV 185 0 0 10),
  (10, ni_sSt 3 2 11),
  (11, ni_sLd 3 2 12),
  (12, ni_sLd 0 3 13),
  (13, ni_sLd 3 1 14),
  (14, ni_sQsO 15),
  (15, ni_sLd 3 0 16),
  (16, ni_sLd 0 3 17),
  (17, ni_sP (ni_gPush (.int 1) 18)),
  (18, ni_sP (ni_gI (fun x y => x + y) 19)),
  (19, ni_sPut 0 2 (.int) 22),
  (22, ni_sR (none))]
theorem ni_pk181 : ∀ r ∈ ni_pr181, ni_Ok xs yJx4a65c_add_72be8 cJx4a65c_add_72be8 4 (none) [] r.1 r.2 ∧ ni_MU r.2 := ni_row (ni_iloadn ni_dJx4a65c_add_72be8_0 rfl) ni_muLd <|
  ni_row (ni_aloadn ni_dJx4a65c_add_72be8_1 rfl) ni_muLd <|
  ni_row (ni_lenX ni_dJx4a65c_add_72be8_2) ni_muLnX <|
  ni_row (ni_okP (ni_ic_ne ni_dJx4a65c_add_72be8_3 (by decide))) (ni_muP ni_eqIc) <|
  ni_row (ni_aloadn ni_dJx4a65c_add_72be8_6 rfl) ni_muLd <|
  ni_row (ni_virt (y := 185) (T := TJx4a65c) ni_dJx4a65c_add_72be8_7 (by decide) rfl rfl ni_w1418 ni_w1420 ni_w28 ni_w75 ni_w1421 ⟨by decide +kernel, by decide +kernel, by decide +kernel⟩ (by decide) rfl) (ni_muV (by decide)) <|
  ni_row (ni_astoren ni_dJx4a65c_add_72be8_10 rfl (by decide)) ni_muSt <|
  ni_row (ni_aloadn ni_dJx4a65c_add_72be8_11 rfl) ni_muLd <|
  ni_row (ni_iloadn ni_dJx4a65c_add_72be8_12 rfl) ni_muLd <|
  ni_row (ni_aloadn ni_dJx4a65c_add_72be8_13 rfl) ni_muLd <|
  ni_row (ni_aastO ni_dJx4a65c_add_72be8_14) ni_muQsO <|
  ni_row (ni_aloadn ni_dJx4a65c_add_72be8_15 rfl) ni_muLd <|
  ni_row (ni_iloadn ni_dJx4a65c_add_72be8_16 rfl) ni_muLd <|
  ni_row (ni_okP (ni_iconst ni_dJx4a65c_add_72be8_17 (by decide +kernel))) (ni_muP (ni_eqPush fun _ => rfl)) <|
  ni_row (ni_okP (ni_iadd ni_dJx4a65c_add_72be8_18)) (ni_muP ni_eqI) <|
  ni_row (ni_putA (T := TJx4a65c) (ty0 := tyJx4a65c) (b := false) (Or.inl rfl) rfl ni_dJx4a65c_add_72be8_19 (by decide) rfl (by decide) ni_uJx4a65c tyJx4a65c_ok nmJx4a65c ni_w1394) ni_muPut <|
  ni_row (ni_ret ni_dJx4a65c_add_72be8_22) ni_muR <|
  ni_row0
def ni_pr182 : List (Nat × ni_S) := [(0, ni_sLd 3 1 1),
  (1, ni_sF 188 0 6),
  (6, ni_sSt 3 2 7),
  (7, ni_sLd 3 0 8),
  (8, ni_sP (ni_gDup 9)),
  (9, ni_sGet 0 0 12),
  (12, ni_sP (ni_gPush (.int 1) 13)),
  (13, ni_sP (ni_gI (fun x y => x + y) 14)),
  (14, ni_sPut 0 0 (.int) 17),
  (17, ni_sLd 3 2 18),
  (18, ni_sLnX 19),
  (19, ni_sSt 0 3 20),
  (20, ni_sLd 0 3 21),
  (21, ni_sP (ni_gIf (fun x => decide (¬ x = 0)) 26 24)),
  (24, ni_sP (ni_gPush (.int 0) 25)),
  (25, ni_sR (some .boolean))]
theorem ni_pk182 : ∀ r ∈ ni_pr182, ni_Ok xs yJx4a65c_addAll_f0b43 cJx4a65c_addAll_f0b43 6 (some .boolean) [] r.1 r.2 ∧ ni_MU r.2 := ni_row (ni_aloadn ni_dJx4a65c_addAll_f0b43_0 rfl) ni_muLd <|
  ni_row (ni_intf (y := 188) ni_dJx4a65c_addAll_f0b43_1 (by decide) rfl (by decide +kernel) ni_w2332 ni_w2338 ni_w2336 ni_w75 ni_w2340 (by decide) rfl) (ni_muF (by decide)) <|
  ni_row (ni_astoren ni_dJx4a65c_addAll_f0b43_6 rfl (by decide)) ni_muSt <|
  ni_row (ni_aloadn ni_dJx4a65c_addAll_f0b43_7 rfl) ni_muLd <|
  ni_row (ni_okP (ni_dup ni_dJx4a65c_addAll_f0b43_8)) (ni_muP ni_eqDup) <|
  ni_row (ni_getS (k := 0) (ref := "java/util/ArrayList") (T := TJx4a65c) ni_dJx4a65c_addAll_f0b43_9 (by decide) rfl (by decide) ni_uJx4a65c ni_w1396 ni_w1397) ni_muGet <|
  ni_row (ni_okP (ni_iconst ni_dJx4a65c_addAll_f0b43_12 (by decide +kernel))) (ni_muP (ni_eqPush fun _ => rfl)) <|
  ni_row (ni_okP (ni_iadd ni_dJx4a65c_addAll_f0b43_13)) (ni_muP ni_eqI) <|
  ni_row (ni_putS (k := 0) (ref := "java/util/ArrayList") (T := TJx4a65c) (ty0 := tyJx4a65c) rfl ni_dJx4a65c_addAll_f0b43_14 (by decide) rfl (by decide) ni_uJx4a65c tyJx4a65c_ok nmJx4a65c ni_w1396 ni_w1397) ni_muPut <|
  ni_row (ni_aloadn ni_dJx4a65c_addAll_f0b43_17 rfl) ni_muLd <|
  ni_row (ni_lenX ni_dJx4a65c_addAll_f0b43_18) ni_muLnX <|
  ni_row (ni_istoren ni_dJx4a65c_addAll_f0b43_19 rfl (by decide)) ni_muSt <|
  ni_row (ni_iloadn ni_dJx4a65c_addAll_f0b43_20 rfl) ni_muLd <|
  ni_row (ni_okP (ni_if_ne ni_dJx4a65c_addAll_f0b43_21 (by decide))) (ni_muP ni_eqIf) <|
  ni_row (ni_okP (ni_iconst ni_dJx4a65c_addAll_f0b43_24 (by decide +kernel))) (ni_muP (ni_eqPush fun _ => rfl)) <|
  ni_row (ni_ret ni_dJx4a65c_addAll_f0b43_25) ni_muR <|
  ni_row0
def ni_pr183 : List (Nat × ni_S) := [(0, ni_sLd 3 0 1),
  (1, ni_sGet 0 1 4),
  (4, ni_sLd 0 1 5),
  (5, ni_sQld 6),
  (6, ni_sR (some (.object "java/lang/Object")))]
theorem ni_pk183 : ∀ r ∈ ni_pr183, ni_Ok xs yJx4a65c_elementData_915e3 cJx4a65c_elementData_915e3 2 (some (.object "java/lang/Object")) [] r.1 r.2 ∧ ni_MU r.2 := ni_row (ni_aloadn ni_dJx4a65c_elementData_915e3_0 rfl) ni_muLd <|
  ni_row (ni_get (T := TJx4a65c) ni_dJx4a65c_elementData_915e3_1 (by decide) rfl (by decide) ni_uJx4a65c ni_w1393) ni_muGet <|
  ni_row (ni_iloadn ni_dJx4a65c_elementData_915e3_4 rfl) ni_muLd <|
  ni_row (ni_aald ni_dJx4a65c_elementData_915e3_5) ni_muQld <|
  ni_row (ni_ret ni_dJx4a65c_elementData_915e3_6) ni_muR <|
  ni_row0
def ni_pr184 : List (Nat × ni_S) := [(0, ni_sLd 0 1 1),
  (1, ni_sLd 3 0 2),
  (2, ni_sGet 0 2 5),
  (5, ni_sC 191 2 8),
  (8, ni_sP (ni_gPop 9)),
  (9, ni_sLd 3 0 10),
  (10, ni_sLd 0 1 11),
  (11, ni_sV 183 1 0 14),
  (14, ni_sR (some (.object "java/lang/Object")))]
theorem ni_pk184 : ∀ r ∈ ni_pr184, ni_Ok xs yJx4a65c_get_915e3 cJx4a65c_get_915e3 2 (some (.object "java/lang/Object")) [] r.1 r.2 ∧ ni_MU r.2 := ni_row (ni_iloadn ni_dJx4a65c_get_915e3_0 rfl) ni_muLd <|
  ni_row (ni_aloadn ni_dJx4a65c_get_915e3_1 rfl) ni_muLd <|
  ni_row (ni_get (T := TJx4a65c) ni_dJx4a65c_get_915e3_2 (by decide) rfl (by decide) ni_uJx4a65c ni_w1394) ni_muGet <|
  ni_row (ni_stat (y := 191) ni_dJx4a65c_get_915e3_5 ni_w1777 ni_w1778 ni_w90 ni_w1779 ⟨by decide +kernel, by decide +kernel, by decide +kernel⟩ (by decide) rfl) ni_muC <|
  ni_row (ni_okP (ni_pop ni_dJx4a65c_get_915e3_8)) (ni_muP ni_eqPop) <|
  ni_row (ni_aloadn ni_dJx4a65c_get_915e3_9 rfl) ni_muLd <|
  ni_row (ni_iloadn ni_dJx4a65c_get_915e3_10 rfl) ni_muLd <|
  ni_row (ni_virt (y := 183) (T := TJx4a65c) ni_dJx4a65c_get_915e3_11 (by decide) rfl rfl ni_w1783 ni_w1784 ni_w1785 ni_w75 ni_w1786 ⟨by decide +kernel, by decide +kernel, by decide +kernel⟩ (by decide) rfl) (ni_muV (by decide)) <|
  ni_row (ni_ret ni_dJx4a65c_get_915e3_14) ni_muR <|
  ni_row0
def ni_pr185 : List (Nat × ni_S) := [(0, ni_sLd 3 0 1),
  (1, ni_sLd 3 0 2),
  (2, ni_sGet 0 2 5),
  (5, ni_sP (ni_gPush (.int 1) 6)),
  (6, ni_sP (ni_gI (fun x y => x + y) 7)),
  (7, ni_sV 186 1 0 10),
  (10, ni_sR (some (.array (.object "java/lang/Object"))))]
theorem ni_pk185 : ∀ r ∈ ni_pr185, ni_Ok xs yJx4a65c_grow_d5877 cJx4a65c_grow_d5877 1 (some (.array (.object "java/lang/Object"))) [] r.1 r.2 ∧ ni_MU r.2 := ni_row (ni_aloadn ni_dJx4a65c_grow_d5877_0 rfl) ni_muLd <|
  ni_row (ni_aloadn ni_dJx4a65c_grow_d5877_1 rfl) ni_muLd <|
  ni_row (ni_get (T := TJx4a65c) ni_dJx4a65c_grow_d5877_2 (by decide) rfl (by decide) ni_uJx4a65c ni_w1394) ni_muGet <|
  ni_row (ni_okP (ni_iconst ni_dJx4a65c_grow_d5877_5 (by decide +kernel))) (ni_muP (ni_eqPush fun _ => rfl)) <|
  ni_row (ni_okP (ni_iadd ni_dJx4a65c_grow_d5877_6)) (ni_muP ni_eqI) <|
  ni_row (ni_virt (y := 186) (T := TJx4a65c) ni_dJx4a65c_grow_d5877_7 (by decide) rfl rfl ni_w1422 ni_w1424 ni_w29 ni_w75 ni_w1425 ⟨by decide +kernel, by decide +kernel, by decide +kernel⟩ (by decide) rfl) (ni_muV (by decide)) <|
  ni_row (ni_ret ni_dJx4a65c_grow_d5877_10) ni_muR <|
  ni_row0
def ni_pr186 : List (Nat × ni_S) := [(0, ni_sLd 3 0 1),
  (1, ni_sGet 0 1 4),
  (4, ni_sLnX 5),
  (5, ni_sSt 0 2 6),
  (6, ni_sLd 0 2 7),
  (7, ni_sP (ni_gIf (fun x => decide (0 < x)) 20 10)),
  (10, ni_sLd 3 0 11),
  (11, ni_sGet 0 1 14),
  (14, ni_sGs 17),
  (17, ni_sP (ni_gAc 45)),
  (45, ni_sLd 3 0 46),
  (46, ni_sP (ni_gPush (.int 10) 48)),
  (48, ni_sLd 0 1 49),
  (49, ni_sP (ni_gIM (fun x y => if x < y then y else x) 52)),
  (52, ni_sANew 10 55),
  (55, ni_sP (ni_gDupx 56)),
  (56, ni_sPut 0 1 (.array (.object "java/lang/Object")) 59),
  (59, ni_sR (some (.array (.object "java/lang/Object"))))]
theorem ni_pk186 : ∀ r ∈ ni_pr186, ni_Ok xs yJx4a65c_grow_92f84 cJx4a65c_grow_92f84 4 (some (.array (.object "java/lang/Object"))) [] r.1 r.2 ∧ ni_MU r.2 := ni_row (ni_aloadn ni_dJx4a65c_grow_92f84_0 rfl) ni_muLd <|
  ni_row (ni_get (T := TJx4a65c) ni_dJx4a65c_grow_92f84_1 (by decide) rfl (by decide) ni_uJx4a65c ni_w1393) ni_muGet <|
  ni_row (ni_lenX ni_dJx4a65c_grow_92f84_4) ni_muLnX <|
  ni_row (ni_istoren ni_dJx4a65c_grow_92f84_5 rfl (by decide)) ni_muSt <|
  ni_row (ni_iloadn ni_dJx4a65c_grow_92f84_6 rfl) ni_muLd <|
  ni_row (ni_okP (ni_if_gt ni_dJx4a65c_grow_92f84_7 (by decide))) (ni_muP ni_eqIf) <|
  ni_row (ni_aloadn ni_dJx4a65c_grow_92f84_10 rfl) ni_muLd <|
  ni_row (ni_get (T := TJx4a65c) ni_dJx4a65c_grow_92f84_11 (by decide) rfl (by decide) ni_uJx4a65c ni_w1393) ni_muGet <|
  ni_row (ni_gets ni_dJx4a65c_grow_92f84_14 ni_w1391) ni_muGs <|
  ni_row (ni_okP (ni_acEq ni_dJx4a65c_grow_92f84_17 (by decide))) (ni_muP ni_eqAc) <|
  ni_row (ni_aloadn ni_dJx4a65c_grow_92f84_45 rfl) ni_muLd <|
  ni_row (ni_okP (ni_bipush ni_dJx4a65c_grow_92f84_46 (by decide +kernel))) (ni_muP (ni_eqPush fun _ => rfl)) <|
  ni_row (ni_iloadn ni_dJx4a65c_grow_92f84_48 rfl) ni_muLd <|
  ni_row (ni_okP (ni_max ni_dJx4a65c_grow_92f84_49 ni_w1471 ni_w574 ni_w77 ni_w575)) (ni_muP ni_eqIM) <|
  ni_row (ni_anew ni_dJx4a65c_grow_92f84_52 rfl ni_w1472 (by decide)) ni_muANew <|
  ni_row (ni_okP (ni_dupx ni_dJx4a65c_grow_92f84_55)) (ni_muP ni_eqDupx) <|
  ni_row (ni_putA (T := TJx4a65c) (ty0 := tyJx4a65c) (b := false) (Or.inl rfl) rfl ni_dJx4a65c_grow_92f84_56 (by decide) rfl (by decide) ni_uJx4a65c tyJx4a65c_ok nmJx4a65c ni_w1393) ni_muPut <|
  ni_row (ni_ret ni_dJx4a65c_grow_92f84_59) ni_muR <|
  ni_row0
def ni_pr187 : List (Nat × ni_S) := [(0, ni_sLd 3 0 1),
  (1, ni_sGet 0 2 4),
  (4, ni_sR (some .int))]
theorem ni_pk187 : ∀ r ∈ ni_pr187, ni_Ok xs yJx4a65c_size_8abf5 cJx4a65c_size_8abf5 1 (some .int) [] r.1 r.2 ∧ ni_MU r.2 := ni_row (ni_aloadn ni_dJx4a65c_size_8abf5_0 rfl) ni_muLd <|
  ni_row (ni_get (T := TJx4a65c) ni_dJx4a65c_size_8abf5_1 (by decide) rfl (by decide) ni_uJx4a65c ni_w1394) ni_muGet <|
  ni_row (ni_ret ni_dJx4a65c_size_8abf5_4) ni_muR <|
  ni_row0
def ni_pr188 : List (Nat × ni_S) := [(0, ni_sLd 3 0 1),
  (1, ni_sGet 0 1 4),
  (4, ni_sLd 3 0 5),
  (5, ni_sGet 0 2 8),
  (8, ni_sC 189 2 11),
  (11, ni_sR (some (.array (.object "java/lang/Object"))))]
theorem ni_pk188 : ∀ r ∈ ni_pr188, ni_Ok xs yJx4a65c_toArray_d5877 cJx4a65c_toArray_d5877 1 (some (.array (.object "java/lang/Object"))) [] r.1 r.2 ∧ ni_MU r.2 := ni_row (ni_aloadn ni_dJx4a65c_toArray_d5877_0 rfl) ni_muLd <|
  ni_row (ni_get (T := TJx4a65c) ni_dJx4a65c_toArray_d5877_1 (by decide) rfl (by decide) ni_uJx4a65c ni_w1393) ni_muGet <|
  ni_row (ni_aloadn ni_dJx4a65c_toArray_d5877_4 rfl) ni_muLd <|
  ni_row (ni_get (T := TJx4a65c) ni_dJx4a65c_toArray_d5877_5 (by decide) rfl (by decide) ni_uJx4a65c ni_w1394) ni_muGet <|
  ni_row (ni_stat (y := 189) ni_dJx4a65c_toArray_d5877_8 ni_w1434 ni_w1435 ni_w78 ni_w1436 ⟨by decide +kernel, by decide +kernel, by decide +kernel⟩ (by decide) rfl) ni_muC <|
  ni_row (ni_ret ni_dJx4a65c_toArray_d5877_11) ni_muR <|
  ni_row0
def ni_pr189 : List (Nat × ni_S) := [(0, ni_sLd 3 0 1),
  (1, ni_sLd 0 1 2),
  (2, ni_sLd 3 0 3),
  (3, ni_sGc 6),
  (6, ni_sC 190 3 9),
  (9, ni_sR (some (.array (.object "java/lang/Object"))))]
theorem ni_pk189 : ∀ r ∈ ni_pr189, ni_Ok xs yJ7_copyOf_1904c cJ7_copyOf_1904c 2 (some (.array (.object "java/lang/Object"))) [] r.1 r.2 ∧ ni_MU r.2 := ni_row (ni_aloadn ni_dJ7_copyOf_1904c_0 rfl) ni_muLd <|
  ni_row (ni_iloadn ni_dJ7_copyOf_1904c_1 rfl) ni_muLd <|
  ni_row (ni_aloadn ni_dJ7_copyOf_1904c_2 rfl) ni_muLd <|
  ni_row (ni_getClass ni_dJ7_copyOf_1904c_3 ni_w1437 ni_w1439 ni_w1462 ni_w1438 ni_w2395) ni_muGc <|
  ni_row (ni_stat (y := 190) ni_dJ7_copyOf_1904c_6 ni_w1463 ni_w1464 ni_w78 ni_w1465 ⟨by decide +kernel, by decide +kernel, by decide +kernel⟩ (by decide) rfl) ni_muC <|
  ni_row (ni_ret ni_dJ7_copyOf_1904c_9) ni_muR <|
  ni_row0
def ni_pr190 : List (Nat × ni_S) := [(0, ni_sLd 3 2 1),
  (1, ni_sMi 3),
  (3, ni_sP (ni_gAc 6)),
  (6, ni_sLd 0 1 7),
  (7, ni_sANew 10 10),
  (10, ni_sP (ni_gGo 24)),
  (24, ni_sSt 3 3 25),
  (25, ni_sLd 3 0 26),
  (26, ni_sP (ni_gPush (.int 0) 27)),
  (27, ni_sLd 3 3 28),
  (28, ni_sP (ni_gPush (.int 0) 29)),
  (29, ni_sLd 3 0 30),
  (30, ni_sLnX 31),
  (31, ni_sLd 0 1 32),
  (32, ni_sP (ni_gIM (fun x y => if y < x then y else x) 35)),
  (35, ni_sC0 38),
  (38, ni_sLd 3 3 39),
  (39, ni_sR (some (.array (.object "java/lang/Object"))))]
theorem ni_pk190 : ∀ r ∈ ni_pr190, ni_Ok xs yJ7_copyOf_6403c cJ7_copyOf_6403c 4 (some (.array (.object "java/lang/Object"))) [] r.1 r.2 ∧ ni_MU r.2 := ni_row (ni_aloadn ni_dJ7_copyOf_6403c_0 rfl) ni_muLd <|
  ni_row (ni_ldcMi ni_dJ7_copyOf_6403c_1 ni_w1466) ni_muMi <|
  ni_row (ni_okP (ni_acNe (t := 13) ni_dJ7_copyOf_6403c_3 (by decide))) (ni_muP ni_eqAc) <|
  ni_row (ni_iloadn ni_dJ7_copyOf_6403c_6 rfl) ni_muLd <|
  ni_row (ni_anew ni_dJ7_copyOf_6403c_7 rfl ni_w1468 (by decide)) ni_muANew <|
  ni_row (ni_okP (ni_goto ni_dJ7_copyOf_6403c_10 (by decide))) (ni_muP ni_eqGo) <|
  ni_row (ni_astoren ni_dJ7_copyOf_6403c_24 rfl (by decide)) ni_muSt <|
  ni_row (ni_aloadn ni_dJ7_copyOf_6403c_25 rfl) ni_muLd <|
  ni_row (ni_okP (ni_iconst ni_dJ7_copyOf_6403c_26 (by decide +kernel))) (ni_muP (ni_eqPush fun _ => rfl)) <|
  ni_row (ni_aloadn ni_dJ7_copyOf_6403c_27 rfl) ni_muLd <|
  ni_row (ni_okP (ni_iconst ni_dJ7_copyOf_6403c_28 (by decide +kernel))) (ni_muP (ni_eqPush fun _ => rfl)) <|
  ni_row (ni_aloadn ni_dJ7_copyOf_6403c_29 rfl) ni_muLd <|
  ni_row (ni_lenX ni_dJ7_copyOf_6403c_30) ni_muLnX <|
  ni_row (ni_iloadn ni_dJ7_copyOf_6403c_31 rfl) ni_muLd <|
  ni_row (ni_okP (ni_min ni_dJ7_copyOf_6403c_32 ni_w1469 ni_w564 ni_w77 ni_w565)) (ni_muP ni_eqIM) <|
  ni_row (ni_copy0 ni_dJ7_copyOf_6403c_35 ni_w1470 ni_w1328 ni_w1327 ni_w79) ni_muC0 <|
  ni_row (ni_aloadn ni_dJ7_copyOf_6403c_38 rfl) ni_muLd <|
  ni_row (ni_ret ni_dJ7_copyOf_6403c_39) ni_muR <|
  ni_row0
def ni_pr191 : List (Nat × ni_S) := [(0, ni_sLd 0 0 1),
  (1, ni_sLd 0 1 2),
  (2, ni_sP (ni_gPush .null 3)),
  (3, ni_sC 192 3 6),
  (6, ni_sR (some .int))]
theorem ni_pk191 : ∀ r ∈ ni_pr191, ni_Ok xs yJ15_checkIndex_7cf53 cJ15_checkIndex_7cf53 2 (some .int) [] r.1 r.2 ∧ ni_MU r.2 := ni_row (ni_iloadn ni_dJ15_checkIndex_7cf53_0 rfl) ni_muLd <|
  ni_row (ni_iloadn ni_dJ15_checkIndex_7cf53_1 rfl) ni_muLd <|
  ni_row (ni_okP (ni_null ni_dJ15_checkIndex_7cf53_2)) (ni_muP (ni_eqPush fun _ => rfl)) <|
  ni_row (ni_stat (y := 192) ni_dJ15_checkIndex_7cf53_3 ni_w1780 ni_w1781 ni_w91 ni_w1782 ⟨by decide +kernel, by decide +kernel, by decide +kernel⟩ (by decide) rfl) ni_muC <|
  ni_row (ni_ret ni_dJ15_checkIndex_7cf53_6) ni_muR <|
  ni_row0
def ni_pr192 : List (Nat × ni_S) := [(0, ni_sLd 0 0 1),
  (1, ni_sP (ni_gIf (fun x => decide (x < 0)) 9 4)),
  (4, ni_sLd 0 0 5),
  (5, ni_sLd 0 1 6),
  (6, ni_sP (ni_gIc (fun x y => decide (x < y)) 16 9)),
  (16, ni_sLd 0 0 17),
  (17, ni_sR (some .int))]
theorem ni_pk192 : ∀ r ∈ ni_pr192, ni_Ok xs yJ3_checkIndex_8e157 cJ3_checkIndex_8e157 3 (some .int) [] r.1 r.2 ∧ ni_MU r.2 := ni_row (ni_iloadn ni_dJ3_checkIndex_8e157_0 rfl) ni_muLd <|
  ni_row (ni_okP (ni_if_lt ni_dJ3_checkIndex_8e157_1 (by decide))) (ni_muP ni_eqIf) <|
  ni_row (ni_iloadn ni_dJ3_checkIndex_8e157_4 rfl) ni_muLd <|
  ni_row (ni_iloadn ni_dJ3_checkIndex_8e157_5 rfl) ni_muLd <|
  ni_row (ni_okP (ni_ic_lt ni_dJ3_checkIndex_8e157_6 (by decide))) (ni_muP ni_eqIc) <|
  ni_row (ni_iloadn ni_dJ3_checkIndex_8e157_16 rfl) ni_muLd <|
  ni_row (ni_ret ni_dJ3_checkIndex_8e157_17) ni_muR <|
  ni_row0
end NIP
