/-! THE CASES: over the small heap, whatever the script says -/
section NCS
set_option maxRecDepth 100000
def ni_P2 : List ni_C := (ni_P0.set 1 (5, [.int 0, .int 1, .int 0, .int 0, .ref 3, .ref 4, .ref 5, .ref 6, .ref 7])).set 15 (14, (ni_P0.getD 15 (0, [])).2.set 1 (.int 1))
theorem ni_k167 (xs : List Int32) : ni_clO ni_o7 (ni_exO ni_o7 (ni_prog xs) 100) 8 167 [.ref 14] (ni_P1, 1) = some (.inl (some (.int 1)), (ni_P1, 1)) := rfl
theorem ni_rA1 (xs : List Int32) : ni_clO ni_o7 (ni_exO ni_o7 (ni_prog xs) 300) 8 71 [.ref 0, .ref 108] (ni_P0, 0) = some (.inl (some (.int 0)), (ni_P0.set 1 (5, [.int 0, .int 1, .int 0, .int 0, .ref 3, .ref 4, .ref 5, .ref 6, .ref 7]), 0)) := rfl
theorem ni_rA2 (xs : List Int32) : ni_clO ni_o7 (ni_exO ni_o7 (ni_prog xs) 300) 8 115 [.ref 14] (ni_P0.set 1 (5, [.int 0, .int 1, .int 0, .int 0, .ref 3, .ref 4, .ref 5, .ref 6, .ref 7]), 0) = some (.inl (some (.int 0)), (ni_P2, 0)) := rfl
theorem ni_rA3 (xs : List Int32) : ni_clO ni_o7 (ni_exO ni_o7 (ni_prog xs) 300) 8 167 [.ref 14] (ni_P2, 0) = some (.inl (some (.int 0)), (ni_P2, 0)) := rfl
theorem ni_ca0 (a b c d e f : Int32) : ni_G [a, b, c, d, e, f] 9 85 260 ni_ls0 [] (ni_P0, 0) (.inl (some (.int 1)), (ni_P2, 0)) := by
  refine ni_xLd (ni_ro [a, b, c, d, e, f] (260, ni_sLd 3 1 261) (ni_me85_2 [a, b, c, d, e, f] _ (List.mem_of_getElem? (i := 0) rfl))) rfl rfl ?_
  refine ni_xLd (ni_ro [a, b, c, d, e, f] (261, ni_sLd 3 3 262) (ni_me85_2 [a, b, c, d, e, f] _ (List.mem_of_getElem? (i := 1) rfl))) rfl rfl ?_
  refine ni_xC (ni_ro [a, b, c, d, e, f] (262, ni_sC 71 2 265) (ni_me85_2 [a, b, c, d, e, f] _ (List.mem_of_getElem? (i := 2) rfl))) (Nat.le_of_ble_eq_true rfl) rfl rfl (Nat.le_of_ble_eq_true rfl) (ni_ofO (ni_rA1 [a, b, c, d, e, f])) ?_
  refine ni_xSt (ni_ro [a, b, c, d, e, f] (265, ni_sSt 0 6 267) (ni_me85_2 [a, b, c, d, e, f] _ (List.mem_of_getElem? (i := 3) rfl))) rfl rfl ?_
  refine ni_xLd (ni_ro [a, b, c, d, e, f] (267, ni_sLd 3 2 268) (ni_me85_2 [a, b, c, d, e, f] _ (List.mem_of_getElem? (i := 4) rfl))) rfl rfl ?_
  refine ni_xV (ni_ro [a, b, c, d, e, f] (268, ni_sV 115 0 18 271) (ni_me85_2 [a, b, c, d, e, f] _ (List.mem_of_getElem? (i := 5) rfl))) rfl rfl rfl (Nat.le_of_ble_eq_true rfl) (ni_ofO (ni_rA2 [a, b, c, d, e, f])) ?_
  refine ni_xSt (ni_ro [a, b, c, d, e, f] (271, ni_sSt 0 7 273) (ni_me85_2 [a, b, c, d, e, f] _ (List.mem_of_getElem? (i := 6) rfl))) rfl rfl ?_
  refine ni_xLd (ni_ro [a, b, c, d, e, f] (273, ni_sLd 3 2 274) (ni_me85_2 [a, b, c, d, e, f] _ (List.mem_of_getElem? (i := 7) rfl))) rfl rfl ?_
  refine ni_xV (ni_ro [a, b, c, d, e, f] (274, ni_sV 167 0 18 277) (ni_me85_2 [a, b, c, d, e, f] _ (List.mem_of_getElem? (i := 8) rfl))) rfl rfl rfl (Nat.le_of_ble_eq_true rfl) (ni_ofO (ni_rA3 [a, b, c, d, e, f])) ?_
  refine ni_xLd (ni_ro [a, b, c, d, e, f] (277, ni_sLd 0 6 279) (ni_me85_2 [a, b, c, d, e, f] _ (List.mem_of_getElem? (i := 9) rfl))) rfl rfl ?_
  refine ni_xIc true (ni_ro [a, b, c, d, e, f] (279, ni_sP (ni_gIc (fun x y => decide (x = y)) 284 282)) (ni_me85_2 [a, b, c, d, e, f] _ (List.mem_of_getElem? (i := 10) rfl))) rfl ?_
  refine ni_xLd (ni_ro [a, b, c, d, e, f] (284, ni_sLd 0 6 286) (ni_me85_2 [a, b, c, d, e, f] _ (List.mem_of_getElem? (i := 11) rfl))) rfl rfl ?_
  refine ni_xIf false (ni_ro [a, b, c, d, e, f] (286, ni_sP (ni_gIf (fun x => decide (¬ x = 0)) 301 289)) (ni_me85_2 [a, b, c, d, e, f] _ (List.mem_of_getElem? (i := 12) rfl))) rfl ?_
  refine ni_xLd (ni_ro [a, b, c, d, e, f] (289, ni_sLd 3 3 290) (ni_me85_2 [a, b, c, d, e, f] _ (List.mem_of_getElem? (i := 13) rfl))) rfl rfl ?_
  refine ni_xP (g := ni_gPush (.int 0) 291) (ni_ro [a, b, c, d, e, f] (290, ni_sP (ni_gPush (.int 0) 291)) (ni_me85_2 [a, b, c, d, e, f] _ (List.mem_of_getElem? (i := 14) rfl))) rfl ?_
  refine ni_xAld (ni_ro [a, b, c, d, e, f] (291, ni_sAld .long 1 292) (ni_me85_2 [a, b, c, d, e, f] _ (List.mem_of_getElem? (i := 15) rfl))) rfl ⟨by decide, rfl, by decide⟩ rfl rfl ?_
  refine ni_xLd (ni_ro [a, b, c, d, e, f] (292, ni_sLd 0 7 294) (ni_me85_2 [a, b, c, d, e, f] _ (List.mem_of_getElem? (i := 16) rfl))) rfl rfl ?_
  refine ni_xP (g := ni_gU (fun x => .long x.toInt64) 295) (ni_ro [a, b, c, d, e, f] (294, ni_sP (ni_gU (fun x => .long x.toInt64) 295)) (ni_me85_2 [a, b, c, d, e, f] _ (List.mem_of_getElem? (i := 17) rfl))) rfl ?_
  refine ni_xP (g := ni_gJ (fun x y => .int (lg_cmp x y)) 296) (ni_ro [a, b, c, d, e, f] (295, ni_sP (ni_gJ (fun x y => .int (lg_cmp x y)) 296)) (ni_me85_2 [a, b, c, d, e, f] _ (List.mem_of_getElem? (i := 18) rfl))) rfl ?_
  refine ni_xIf true (ni_ro [a, b, c, d, e, f] (296, ni_sP (ni_gIf (fun x => decide (x = 0)) 301 299)) (ni_me85_2 [a, b, c, d, e, f] _ (List.mem_of_getElem? (i := 19) rfl))) rfl ?_
  refine ni_xP (g := ni_gGo 3317) (ni_ro [a, b, c, d, e, f] (301, ni_sP (ni_gGo 3317)) (ni_me85_2 [a, b, c, d, e, f] _ (List.mem_of_getElem? (i := 20) rfl))) rfl ?_
  refine ni_xInc (ni_ro [a, b, c, d, e, f] (3317, ni_sInc 5 (6) 3320) (ni_me85_52 [a, b, c, d, e, f] _ (List.mem_of_getElem? (i := 0) rfl))) rfl rfl ?_
  refine ni_xP (g := ni_gGo 28) (ni_ro [a, b, c, d, e, f] (3320, ni_sP (ni_gGo 28)) (ni_me85_52 [a, b, c, d, e, f] _ (List.mem_of_getElem? (i := 1) rfl))) rfl ?_
  refine ni_xLd (ni_ro [a, b, c, d, e, f] (28, ni_sLd 0 5 30) (ni_me85_1 [a, b, c, d, e, f] _ (List.mem_of_getElem? (i := 0) rfl))) rfl rfl ?_
  refine ni_xLd (ni_ro [a, b, c, d, e, f] (30, ni_sLd 3 0 31) (ni_me85_1 [a, b, c, d, e, f] _ (List.mem_of_getElem? (i := 1) rfl))) rfl rfl ?_
  refine ni_xSln (ni_ro [a, b, c, d, e, f] (31, ni_sSln [a, b, c, d, e, f] 32) (ni_me85_1 [a, b, c, d, e, f] _ (List.mem_of_getElem? (i := 2) rfl))) rfl ?_
  refine ni_xP (g := ni_gPush (.int 6) 34) (ni_ro [a, b, c, d, e, f] (32, ni_sP (ni_gPush (.int 6) 34)) (ni_me85_1 [a, b, c, d, e, f] _ (List.mem_of_getElem? (i := 3) rfl))) rfl ?_
  refine ni_xP (g := ni_gI (fun x y => x - y) 35) (ni_ro [a, b, c, d, e, f] (34, ni_sP (ni_gI (fun x y => x - y) 35)) (ni_me85_1 [a, b, c, d, e, f] _ (List.mem_of_getElem? (i := 4) rfl))) rfl ?_
  refine ni_xIc true (ni_ro [a, b, c, d, e, f] (35, ni_sP (ni_gIc (fun x y => decide (y < x)) 3323 38)) (ni_me85_1 [a, b, c, d, e, f] _ (List.mem_of_getElem? (i := 5) rfl))) (show decide (Int32.ofNat 6 - 6 < 0 + 6) = true from by decide) ?_
  refine ni_xP (g := ni_gPush (.int 1) 3324) (ni_ro [a, b, c, d, e, f] (3323, ni_sP (ni_gPush (.int 1) 3324)) (ni_me85_52 [a, b, c, d, e, f] _ (List.mem_of_getElem? (i := 2) rfl))) rfl ?_
  exact ni_xR (ni_ro [a, b, c, d, e, f] (3324, ni_sR (some .boolean)) (ni_me85_52 [a, b, c, d, e, f] _ (List.mem_of_getElem? (i := 3) rfl))) rfl
theorem ni_ca1 (a b c d e f : Int32) : ni_G [a, b, c, d, e, f] 9 85 304 ni_ls0 [] (ni_P0, 0) (.inl (some (.int 1)), (ni_P1, 1)) := by
  refine ni_xLd (ni_ro [a, b, c, d, e, f] (304, ni_sLd 3 1 305) (ni_me85_3 [a, b, c, d, e, f] _ (List.mem_of_getElem? (i := 0) rfl))) rfl rfl ?_
  refine ni_xLd (ni_ro [a, b, c, d, e, f] (305, ni_sLd 3 0 306) (ni_me85_3 [a, b, c, d, e, f] _ (List.mem_of_getElem? (i := 1) rfl))) rfl rfl ?_
  refine ni_xLd (ni_ro [a, b, c, d, e, f] (306, ni_sLd 0 5 308) (ni_me85_3 [a, b, c, d, e, f] _ (List.mem_of_getElem? (i := 2) rfl))) rfl rfl ?_
  refine ni_xP (g := ni_gPush (.int 1) 309) (ni_ro [a, b, c, d, e, f] (308, ni_sP (ni_gPush (.int 1) 309)) (ni_me85_3 [a, b, c, d, e, f] _ (List.mem_of_getElem? (i := 3) rfl))) rfl ?_
  refine ni_xP (g := ni_gI (fun x y => x + y) 310) (ni_ro [a, b, c, d, e, f] (309, ni_sP (ni_gI (fun x y => x + y) 310)) (ni_me85_3 [a, b, c, d, e, f] _ (List.mem_of_getElem? (i := 4) rfl))) rfl ?_
  refine ni_xSld (ni_ro [a, b, c, d, e, f] (310, ni_sSld [a, b, c, d, e, f] 311) (ni_me85_3 [a, b, c, d, e, f] _ (List.mem_of_getElem? (i := 5) rfl))) ⟨by decide, rfl⟩ ?_
  refine ni_xLd (ni_ro [a, b, c, d, e, f] (311, ni_sLd 3 0 312) (ni_me85_3 [a, b, c, d, e, f] _ (List.mem_of_getElem? (i := 6) rfl))) rfl rfl ?_
  refine ni_xLd (ni_ro [a, b, c, d, e, f] (312, ni_sLd 0 5 314) (ni_me85_3 [a, b, c, d, e, f] _ (List.mem_of_getElem? (i := 7) rfl))) rfl rfl ?_
  refine ni_xP (g := ni_gPush (.int 2) 315) (ni_ro [a, b, c, d, e, f] (314, ni_sP (ni_gPush (.int 2) 315)) (ni_me85_3 [a, b, c, d, e, f] _ (List.mem_of_getElem? (i := 8) rfl))) rfl ?_
  refine ni_xP (g := ni_gI (fun x y => x + y) 316) (ni_ro [a, b, c, d, e, f] (315, ni_sP (ni_gI (fun x y => x + y) 316)) (ni_me85_3 [a, b, c, d, e, f] _ (List.mem_of_getElem? (i := 9) rfl))) rfl ?_
  refine ni_xSld (ni_ro [a, b, c, d, e, f] (316, ni_sSld [a, b, c, d, e, f] 317) (ni_me85_3 [a, b, c, d, e, f] _ (List.mem_of_getElem? (i := 10) rfl))) ⟨by decide, rfl⟩ ?_
  refine ni_xLd (ni_ro [a, b, c, d, e, f] (317, ni_sLd 3 0 318) (ni_me85_3 [a, b, c, d, e, f] _ (List.mem_of_getElem? (i := 11) rfl))) rfl rfl ?_
  refine ni_xLd (ni_ro [a, b, c, d, e, f] (318, ni_sLd 0 5 320) (ni_me85_3 [a, b, c, d, e, f] _ (List.mem_of_getElem? (i := 12) rfl))) rfl rfl ?_
  refine ni_xP (g := ni_gPush (.int 3) 321) (ni_ro [a, b, c, d, e, f] (320, ni_sP (ni_gPush (.int 3) 321)) (ni_me85_3 [a, b, c, d, e, f] _ (List.mem_of_getElem? (i := 13) rfl))) rfl ?_
  refine ni_xP (g := ni_gI (fun x y => x + y) 322) (ni_ro [a, b, c, d, e, f] (321, ni_sP (ni_gI (fun x y => x + y) 322)) (ni_me85_3 [a, b, c, d, e, f] _ (List.mem_of_getElem? (i := 14) rfl))) rfl ?_
  refine ni_xSld (ni_ro [a, b, c, d, e, f] (322, ni_sSld [a, b, c, d, e, f] 323) (ni_me85_3 [a, b, c, d, e, f] _ (List.mem_of_getElem? (i := 15) rfl))) ⟨by decide, rfl⟩ ?_
  refine ni_xLd (ni_ro [a, b, c, d, e, f] (323, ni_sLd 3 0 324) (ni_me85_3 [a, b, c, d, e, f] _ (List.mem_of_getElem? (i := 16) rfl))) rfl rfl ?_
  refine ni_xLd (ni_ro [a, b, c, d, e, f] (324, ni_sLd 0 5 326) (ni_me85_3 [a, b, c, d, e, f] _ (List.mem_of_getElem? (i := 17) rfl))) rfl rfl ?_
  refine ni_xP (g := ni_gPush (.int 4) 327) (ni_ro [a, b, c, d, e, f] (326, ni_sP (ni_gPush (.int 4) 327)) (ni_me85_3 [a, b, c, d, e, f] _ (List.mem_of_getElem? (i := 18) rfl))) rfl ?_
  refine ni_xP (g := ni_gI (fun x y => x + y) 328) (ni_ro [a, b, c, d, e, f] (327, ni_sP (ni_gI (fun x y => x + y) 328)) (ni_me85_3 [a, b, c, d, e, f] _ (List.mem_of_getElem? (i := 19) rfl))) rfl ?_
  refine ni_xSld (ni_ro [a, b, c, d, e, f] (328, ni_sSld [a, b, c, d, e, f] 329) (ni_me85_3 [a, b, c, d, e, f] _ (List.mem_of_getElem? (i := 20) rfl))) ⟨by decide, rfl⟩ ?_
  refine ni_xLd (ni_ro [a, b, c, d, e, f] (329, ni_sLd 3 0 330) (ni_me85_3 [a, b, c, d, e, f] _ (List.mem_of_getElem? (i := 21) rfl))) rfl rfl ?_
  refine ni_xLd (ni_ro [a, b, c, d, e, f] (330, ni_sLd 0 5 332) (ni_me85_3 [a, b, c, d, e, f] _ (List.mem_of_getElem? (i := 22) rfl))) rfl rfl ?_
  refine ni_xP (g := ni_gPush (.int 5) 333) (ni_ro [a, b, c, d, e, f] (332, ni_sP (ni_gPush (.int 5) 333)) (ni_me85_3 [a, b, c, d, e, f] _ (List.mem_of_getElem? (i := 23) rfl))) rfl ?_
  refine ni_xP (g := ni_gI (fun x y => x + y) 334) (ni_ro [a, b, c, d, e, f] (333, ni_sP (ni_gI (fun x y => x + y) 334)) (ni_me85_3 [a, b, c, d, e, f] _ (List.mem_of_getElem? (i := 24) rfl))) rfl ?_
  refine ni_xSld (ni_ro [a, b, c, d, e, f] (334, ni_sSld [a, b, c, d, e, f] 335) (ni_me85_3 [a, b, c, d, e, f] _ (List.mem_of_getElem? (i := 25) rfl))) ⟨by decide, rfl⟩ ?_
  refine ni_xLd (ni_ro [a, b, c, d, e, f] (335, ni_sLd 3 3 336) (ni_me85_3 [a, b, c, d, e, f] _ (List.mem_of_getElem? (i := 26) rfl))) rfl rfl ?_
  refine ni_xC (ni_ro [a, b, c, d, e, f] (336, ni_sC 69 7 339) (ni_me85_3 [a, b, c, d, e, f] _ (List.mem_of_getElem? (i := 27) rfl))) (Nat.le_of_ble_eq_true rfl) rfl rfl (Nat.le_of_ble_eq_true rfl) (ni_ofO (ni_kw69 [a, b, c, d, e, f] _ _ _ _ _)) ?_
  refine ni_xSt (ni_ro [a, b, c, d, e, f] (339, ni_sSt 0 6 341) (ni_me85_3 [a, b, c, d, e, f] _ (List.mem_of_getElem? (i := 28) rfl))) rfl rfl ?_
  refine ni_xLd (ni_ro [a, b, c, d, e, f] (341, ni_sLd 3 2 342) (ni_me85_3 [a, b, c, d, e, f] _ (List.mem_of_getElem? (i := 29) rfl))) rfl rfl ?_
  refine ni_xLd (ni_ro [a, b, c, d, e, f] (342, ni_sLd 3 0 343) (ni_me85_3 [a, b, c, d, e, f] _ (List.mem_of_getElem? (i := 30) rfl))) rfl rfl ?_
  refine ni_xLd (ni_ro [a, b, c, d, e, f] (343, ni_sLd 0 5 345) (ni_me85_3 [a, b, c, d, e, f] _ (List.mem_of_getElem? (i := 31) rfl))) rfl rfl ?_
  refine ni_xP (g := ni_gPush (.int 1) 346) (ni_ro [a, b, c, d, e, f] (345, ni_sP (ni_gPush (.int 1) 346)) (ni_me85_3 [a, b, c, d, e, f] _ (List.mem_of_getElem? (i := 32) rfl))) rfl ?_
  refine ni_xP (g := ni_gI (fun x y => x + y) 347) (ni_ro [a, b, c, d, e, f] (346, ni_sP (ni_gI (fun x y => x + y) 347)) (ni_me85_3 [a, b, c, d, e, f] _ (List.mem_of_getElem? (i := 33) rfl))) rfl ?_
  refine ni_xSld (ni_ro [a, b, c, d, e, f] (347, ni_sSld [a, b, c, d, e, f] 348) (ni_me85_3 [a, b, c, d, e, f] _ (List.mem_of_getElem? (i := 34) rfl))) ⟨by decide, rfl⟩ ?_
  refine ni_xLd (ni_ro [a, b, c, d, e, f] (348, ni_sLd 3 0 349) (ni_me85_3 [a, b, c, d, e, f] _ (List.mem_of_getElem? (i := 35) rfl))) rfl rfl ?_
  refine ni_xLd (ni_ro [a, b, c, d, e, f] (349, ni_sLd 0 5 351) (ni_me85_3 [a, b, c, d, e, f] _ (List.mem_of_getElem? (i := 36) rfl))) rfl rfl ?_
  refine ni_xP (g := ni_gPush (.int 2) 352) (ni_ro [a, b, c, d, e, f] (351, ni_sP (ni_gPush (.int 2) 352)) (ni_me85_3 [a, b, c, d, e, f] _ (List.mem_of_getElem? (i := 37) rfl))) rfl ?_
  refine ni_xP (g := ni_gI (fun x y => x + y) 353) (ni_ro [a, b, c, d, e, f] (352, ni_sP (ni_gI (fun x y => x + y) 353)) (ni_me85_3 [a, b, c, d, e, f] _ (List.mem_of_getElem? (i := 38) rfl))) rfl ?_
  refine ni_xSld (ni_ro [a, b, c, d, e, f] (353, ni_sSld [a, b, c, d, e, f] 354) (ni_me85_3 [a, b, c, d, e, f] _ (List.mem_of_getElem? (i := 39) rfl))) ⟨by decide, rfl⟩ ?_
  refine ni_xLd (ni_ro [a, b, c, d, e, f] (354, ni_sLd 3 0 355) (ni_me85_3 [a, b, c, d, e, f] _ (List.mem_of_getElem? (i := 40) rfl))) rfl rfl ?_
  refine ni_xLd (ni_ro [a, b, c, d, e, f] (355, ni_sLd 0 5 357) (ni_me85_3 [a, b, c, d, e, f] _ (List.mem_of_getElem? (i := 41) rfl))) rfl rfl ?_
  refine ni_xP (g := ni_gPush (.int 3) 358) (ni_ro [a, b, c, d, e, f] (357, ni_sP (ni_gPush (.int 3) 358)) (ni_me85_3 [a, b, c, d, e, f] _ (List.mem_of_getElem? (i := 42) rfl))) rfl ?_
  refine ni_xP (g := ni_gI (fun x y => x + y) 359) (ni_ro [a, b, c, d, e, f] (358, ni_sP (ni_gI (fun x y => x + y) 359)) (ni_me85_3 [a, b, c, d, e, f] _ (List.mem_of_getElem? (i := 43) rfl))) rfl ?_
  refine ni_xSld (ni_ro [a, b, c, d, e, f] (359, ni_sSld [a, b, c, d, e, f] 360) (ni_me85_3 [a, b, c, d, e, f] _ (List.mem_of_getElem? (i := 44) rfl))) ⟨by decide, rfl⟩ ?_
  refine ni_xLd (ni_ro [a, b, c, d, e, f] (360, ni_sLd 3 0 361) (ni_me85_3 [a, b, c, d, e, f] _ (List.mem_of_getElem? (i := 45) rfl))) rfl rfl ?_
  refine ni_xLd (ni_ro [a, b, c, d, e, f] (361, ni_sLd 0 5 363) (ni_me85_3 [a, b, c, d, e, f] _ (List.mem_of_getElem? (i := 46) rfl))) rfl rfl ?_
  refine ni_xP (g := ni_gPush (.int 4) 364) (ni_ro [a, b, c, d, e, f] (363, ni_sP (ni_gPush (.int 4) 364)) (ni_me85_3 [a, b, c, d, e, f] _ (List.mem_of_getElem? (i := 47) rfl))) rfl ?_
  refine ni_xP (g := ni_gI (fun x y => x + y) 365) (ni_ro [a, b, c, d, e, f] (364, ni_sP (ni_gI (fun x y => x + y) 365)) (ni_me85_3 [a, b, c, d, e, f] _ (List.mem_of_getElem? (i := 48) rfl))) rfl ?_
  refine ni_xSld (ni_ro [a, b, c, d, e, f] (365, ni_sSld [a, b, c, d, e, f] 366) (ni_me85_3 [a, b, c, d, e, f] _ (List.mem_of_getElem? (i := 49) rfl))) ⟨by decide, rfl⟩ ?_
  refine ni_xLd (ni_ro [a, b, c, d, e, f] (366, ni_sLd 3 0 367) (ni_me85_3 [a, b, c, d, e, f] _ (List.mem_of_getElem? (i := 50) rfl))) rfl rfl ?_
  refine ni_xLd (ni_ro [a, b, c, d, e, f] (367, ni_sLd 0 5 369) (ni_me85_3 [a, b, c, d, e, f] _ (List.mem_of_getElem? (i := 51) rfl))) rfl rfl ?_
  refine ni_xP (g := ni_gPush (.int 5) 370) (ni_ro [a, b, c, d, e, f] (369, ni_sP (ni_gPush (.int 5) 370)) (ni_me85_3 [a, b, c, d, e, f] _ (List.mem_of_getElem? (i := 52) rfl))) rfl ?_
  refine ni_xP (g := ni_gI (fun x y => x + y) 371) (ni_ro [a, b, c, d, e, f] (370, ni_sP (ni_gI (fun x y => x + y) 371)) (ni_me85_3 [a, b, c, d, e, f] _ (List.mem_of_getElem? (i := 53) rfl))) rfl ?_
  refine ni_xSld (ni_ro [a, b, c, d, e, f] (371, ni_sSld [a, b, c, d, e, f] 372) (ni_me85_3 [a, b, c, d, e, f] _ (List.mem_of_getElem? (i := 54) rfl))) ⟨by decide, rfl⟩ ?_
  refine ni_xV (ni_ro [a, b, c, d, e, f] (372, ni_sV 113 5 18 375) (ni_me85_3 [a, b, c, d, e, f] _ (List.mem_of_getElem? (i := 55) rfl))) rfl rfl rfl (Nat.le_of_ble_eq_true rfl) (ni_ofO (ni_km113 [a, b, c, d, e, f] _ _ _ _ _)) ?_
  refine ni_xSt (ni_ro [a, b, c, d, e, f] (375, ni_sSt 0 7 377) (ni_me85_3 [a, b, c, d, e, f] _ (List.mem_of_getElem? (i := 56) rfl))) rfl rfl ?_
  refine ni_xLd (ni_ro [a, b, c, d, e, f] (377, ni_sLd 3 2 378) (ni_me85_3 [a, b, c, d, e, f] _ (List.mem_of_getElem? (i := 57) rfl))) rfl rfl ?_
  refine ni_xV (ni_ro [a, b, c, d, e, f] (378, ni_sV 167 0 18 381) (ni_me85_3 [a, b, c, d, e, f] _ (List.mem_of_getElem? (i := 58) rfl))) rfl rfl rfl (Nat.le_of_ble_eq_true rfl) (ni_ofO (ni_k167 [a, b, c, d, e, f])) ?_
  refine ni_xLd (ni_ro [a, b, c, d, e, f] (381, ni_sLd 0 6 383) (ni_me85_3 [a, b, c, d, e, f] _ (List.mem_of_getElem? (i := 59) rfl))) rfl rfl ?_
  refine ni_xIc true (ni_ro [a, b, c, d, e, f] (383, ni_sP (ni_gIc (fun x y => decide (x = y)) 388 386)) (ni_me85_3 [a, b, c, d, e, f] _ (List.mem_of_getElem? (i := 60) rfl))) rfl ?_
  refine ni_xLd (ni_ro [a, b, c, d, e, f] (388, ni_sLd 0 6 390) (ni_me85_3 [a, b, c, d, e, f] _ (List.mem_of_getElem? (i := 61) rfl))) rfl rfl ?_
  refine ni_xIf true (ni_ro [a, b, c, d, e, f] (390, ni_sP (ni_gIf (fun x => decide (¬ x = 0)) 405 393)) (ni_me85_3 [a, b, c, d, e, f] _ (List.mem_of_getElem? (i := 62) rfl))) rfl ?_
  refine ni_xP (g := ni_gGo 3317) (ni_ro [a, b, c, d, e, f] (405, ni_sP (ni_gGo 3317)) (ni_me85_3 [a, b, c, d, e, f] _ (List.mem_of_getElem? (i := 63) rfl))) rfl ?_
  refine ni_xInc (ni_ro [a, b, c, d, e, f] (3317, ni_sInc 5 (6) 3320) (ni_me85_52 [a, b, c, d, e, f] _ (List.mem_of_getElem? (i := 0) rfl))) rfl rfl ?_
  refine ni_xP (g := ni_gGo 28) (ni_ro [a, b, c, d, e, f] (3320, ni_sP (ni_gGo 28)) (ni_me85_52 [a, b, c, d, e, f] _ (List.mem_of_getElem? (i := 1) rfl))) rfl ?_
  refine ni_xLd (ni_ro [a, b, c, d, e, f] (28, ni_sLd 0 5 30) (ni_me85_1 [a, b, c, d, e, f] _ (List.mem_of_getElem? (i := 0) rfl))) rfl rfl ?_
  refine ni_xLd (ni_ro [a, b, c, d, e, f] (30, ni_sLd 3 0 31) (ni_me85_1 [a, b, c, d, e, f] _ (List.mem_of_getElem? (i := 1) rfl))) rfl rfl ?_
  refine ni_xSln (ni_ro [a, b, c, d, e, f] (31, ni_sSln [a, b, c, d, e, f] 32) (ni_me85_1 [a, b, c, d, e, f] _ (List.mem_of_getElem? (i := 2) rfl))) rfl ?_
  refine ni_xP (g := ni_gPush (.int 6) 34) (ni_ro [a, b, c, d, e, f] (32, ni_sP (ni_gPush (.int 6) 34)) (ni_me85_1 [a, b, c, d, e, f] _ (List.mem_of_getElem? (i := 3) rfl))) rfl ?_
  refine ni_xP (g := ni_gI (fun x y => x - y) 35) (ni_ro [a, b, c, d, e, f] (34, ni_sP (ni_gI (fun x y => x - y) 35)) (ni_me85_1 [a, b, c, d, e, f] _ (List.mem_of_getElem? (i := 4) rfl))) rfl ?_
  refine ni_xIc true (ni_ro [a, b, c, d, e, f] (35, ni_sP (ni_gIc (fun x y => decide (y < x)) 3323 38)) (ni_me85_1 [a, b, c, d, e, f] _ (List.mem_of_getElem? (i := 5) rfl))) (show decide (Int32.ofNat 6 - 6 < 0 + 6) = true from by decide) ?_
  refine ni_xP (g := ni_gPush (.int 1) 3324) (ni_ro [a, b, c, d, e, f] (3323, ni_sP (ni_gPush (.int 1) 3324)) (ni_me85_52 [a, b, c, d, e, f] _ (List.mem_of_getElem? (i := 2) rfl))) rfl ?_
  exact ni_xR (ni_ro [a, b, c, d, e, f] (3324, ni_sR (some .boolean)) (ni_me85_52 [a, b, c, d, e, f] _ (List.mem_of_getElem? (i := 3) rfl))) rfl
theorem ni_ca2 (a b c d e f : Int32) : ni_G [a, b, c, d, e, f] 9 85 408 ni_ls0 [] (ni_P0, 0) (.inl (some (.int 1)), (ni_P1, 1)) := by
  refine ni_xLd (ni_ro [a, b, c, d, e, f] (408, ni_sLd 3 1 409) (ni_me85_4 [a, b, c, d, e, f] _ (List.mem_of_getElem? (i := 0) rfl))) rfl rfl ?_
  refine ni_xLd (ni_ro [a, b, c, d, e, f] (409, ni_sLd 3 0 410) (ni_me85_4 [a, b, c, d, e, f] _ (List.mem_of_getElem? (i := 1) rfl))) rfl rfl ?_
  refine ni_xLd (ni_ro [a, b, c, d, e, f] (410, ni_sLd 0 5 412) (ni_me85_4 [a, b, c, d, e, f] _ (List.mem_of_getElem? (i := 2) rfl))) rfl rfl ?_
  refine ni_xP (g := ni_gPush (.int 1) 413) (ni_ro [a, b, c, d, e, f] (412, ni_sP (ni_gPush (.int 1) 413)) (ni_me85_4 [a, b, c, d, e, f] _ (List.mem_of_getElem? (i := 3) rfl))) rfl ?_
  refine ni_xP (g := ni_gI (fun x y => x + y) 414) (ni_ro [a, b, c, d, e, f] (413, ni_sP (ni_gI (fun x y => x + y) 414)) (ni_me85_4 [a, b, c, d, e, f] _ (List.mem_of_getElem? (i := 4) rfl))) rfl ?_
  refine ni_xSld (ni_ro [a, b, c, d, e, f] (414, ni_sSld [a, b, c, d, e, f] 415) (ni_me85_4 [a, b, c, d, e, f] _ (List.mem_of_getElem? (i := 5) rfl))) ⟨by decide, rfl⟩ ?_
  refine ni_xLd (ni_ro [a, b, c, d, e, f] (415, ni_sLd 3 0 416) (ni_me85_4 [a, b, c, d, e, f] _ (List.mem_of_getElem? (i := 6) rfl))) rfl rfl ?_
  refine ni_xLd (ni_ro [a, b, c, d, e, f] (416, ni_sLd 0 5 418) (ni_me85_4 [a, b, c, d, e, f] _ (List.mem_of_getElem? (i := 7) rfl))) rfl rfl ?_
  refine ni_xP (g := ni_gPush (.int 2) 419) (ni_ro [a, b, c, d, e, f] (418, ni_sP (ni_gPush (.int 2) 419)) (ni_me85_4 [a, b, c, d, e, f] _ (List.mem_of_getElem? (i := 8) rfl))) rfl ?_
  refine ni_xP (g := ni_gI (fun x y => x + y) 420) (ni_ro [a, b, c, d, e, f] (419, ni_sP (ni_gI (fun x y => x + y) 420)) (ni_me85_4 [a, b, c, d, e, f] _ (List.mem_of_getElem? (i := 9) rfl))) rfl ?_
  refine ni_xSld (ni_ro [a, b, c, d, e, f] (420, ni_sSld [a, b, c, d, e, f] 421) (ni_me85_4 [a, b, c, d, e, f] _ (List.mem_of_getElem? (i := 10) rfl))) ⟨by decide, rfl⟩ ?_
  refine ni_xLd (ni_ro [a, b, c, d, e, f] (421, ni_sLd 3 3 422) (ni_me85_4 [a, b, c, d, e, f] _ (List.mem_of_getElem? (i := 11) rfl))) rfl rfl ?_
  refine ni_xC (ni_ro [a, b, c, d, e, f] (422, ni_sC 97 4 425) (ni_me85_4 [a, b, c, d, e, f] _ (List.mem_of_getElem? (i := 12) rfl))) (Nat.le_of_ble_eq_true rfl) rfl rfl (Nat.le_of_ble_eq_true rfl) (ni_ofO (ni_kw97 [a, b, c, d, e, f] _ _)) ?_
  refine ni_xSt (ni_ro [a, b, c, d, e, f] (425, ni_sSt 0 6 427) (ni_me85_4 [a, b, c, d, e, f] _ (List.mem_of_getElem? (i := 13) rfl))) rfl rfl ?_
  refine ni_xLd (ni_ro [a, b, c, d, e, f] (427, ni_sLd 3 2 428) (ni_me85_4 [a, b, c, d, e, f] _ (List.mem_of_getElem? (i := 14) rfl))) rfl rfl ?_
  refine ni_xLd (ni_ro [a, b, c, d, e, f] (428, ni_sLd 3 0 429) (ni_me85_4 [a, b, c, d, e, f] _ (List.mem_of_getElem? (i := 15) rfl))) rfl rfl ?_
  refine ni_xLd (ni_ro [a, b, c, d, e, f] (429, ni_sLd 0 5 431) (ni_me85_4 [a, b, c, d, e, f] _ (List.mem_of_getElem? (i := 16) rfl))) rfl rfl ?_
  refine ni_xP (g := ni_gPush (.int 1) 432) (ni_ro [a, b, c, d, e, f] (431, ni_sP (ni_gPush (.int 1) 432)) (ni_me85_4 [a, b, c, d, e, f] _ (List.mem_of_getElem? (i := 17) rfl))) rfl ?_
  refine ni_xP (g := ni_gI (fun x y => x + y) 433) (ni_ro [a, b, c, d, e, f] (432, ni_sP (ni_gI (fun x y => x + y) 433)) (ni_me85_4 [a, b, c, d, e, f] _ (List.mem_of_getElem? (i := 18) rfl))) rfl ?_
  refine ni_xSld (ni_ro [a, b, c, d, e, f] (433, ni_sSld [a, b, c, d, e, f] 434) (ni_me85_4 [a, b, c, d, e, f] _ (List.mem_of_getElem? (i := 19) rfl))) ⟨by decide, rfl⟩ ?_
  refine ni_xLd (ni_ro [a, b, c, d, e, f] (434, ni_sLd 3 0 435) (ni_me85_4 [a, b, c, d, e, f] _ (List.mem_of_getElem? (i := 20) rfl))) rfl rfl ?_
  refine ni_xLd (ni_ro [a, b, c, d, e, f] (435, ni_sLd 0 5 437) (ni_me85_4 [a, b, c, d, e, f] _ (List.mem_of_getElem? (i := 21) rfl))) rfl rfl ?_
  refine ni_xP (g := ni_gPush (.int 2) 438) (ni_ro [a, b, c, d, e, f] (437, ni_sP (ni_gPush (.int 2) 438)) (ni_me85_4 [a, b, c, d, e, f] _ (List.mem_of_getElem? (i := 22) rfl))) rfl ?_
  refine ni_xP (g := ni_gI (fun x y => x + y) 439) (ni_ro [a, b, c, d, e, f] (438, ni_sP (ni_gI (fun x y => x + y) 439)) (ni_me85_4 [a, b, c, d, e, f] _ (List.mem_of_getElem? (i := 23) rfl))) rfl ?_
  refine ni_xSld (ni_ro [a, b, c, d, e, f] (439, ni_sSld [a, b, c, d, e, f] 440) (ni_me85_4 [a, b, c, d, e, f] _ (List.mem_of_getElem? (i := 24) rfl))) ⟨by decide, rfl⟩ ?_
  refine ni_xV (ni_ro [a, b, c, d, e, f] (440, ni_sV 156 2 18 443) (ni_me85_4 [a, b, c, d, e, f] _ (List.mem_of_getElem? (i := 25) rfl))) rfl rfl rfl (Nat.le_of_ble_eq_true rfl) (ni_ofO (ni_km156 [a, b, c, d, e, f] _ _)) ?_
  refine ni_xSt (ni_ro [a, b, c, d, e, f] (443, ni_sSt 0 7 445) (ni_me85_4 [a, b, c, d, e, f] _ (List.mem_of_getElem? (i := 26) rfl))) rfl rfl ?_
  refine ni_xLd (ni_ro [a, b, c, d, e, f] (445, ni_sLd 3 2 446) (ni_me85_4 [a, b, c, d, e, f] _ (List.mem_of_getElem? (i := 27) rfl))) rfl rfl ?_
  refine ni_xV (ni_ro [a, b, c, d, e, f] (446, ni_sV 167 0 18 449) (ni_me85_4 [a, b, c, d, e, f] _ (List.mem_of_getElem? (i := 28) rfl))) rfl rfl rfl (Nat.le_of_ble_eq_true rfl) (ni_ofO (ni_k167 [a, b, c, d, e, f])) ?_
  refine ni_xLd (ni_ro [a, b, c, d, e, f] (449, ni_sLd 0 6 451) (ni_me85_4 [a, b, c, d, e, f] _ (List.mem_of_getElem? (i := 29) rfl))) rfl rfl ?_
  refine ni_xIc true (ni_ro [a, b, c, d, e, f] (451, ni_sP (ni_gIc (fun x y => decide (x = y)) 456 454)) (ni_me85_4 [a, b, c, d, e, f] _ (List.mem_of_getElem? (i := 30) rfl))) rfl ?_
  refine ni_xLd (ni_ro [a, b, c, d, e, f] (456, ni_sLd 0 6 458) (ni_me85_4 [a, b, c, d, e, f] _ (List.mem_of_getElem? (i := 31) rfl))) rfl rfl ?_
  refine ni_xIf true (ni_ro [a, b, c, d, e, f] (458, ni_sP (ni_gIf (fun x => decide (¬ x = 0)) 473 461)) (ni_me85_4 [a, b, c, d, e, f] _ (List.mem_of_getElem? (i := 32) rfl))) rfl ?_
  refine ni_xP (g := ni_gGo 3317) (ni_ro [a, b, c, d, e, f] (473, ni_sP (ni_gGo 3317)) (ni_me85_4 [a, b, c, d, e, f] _ (List.mem_of_getElem? (i := 33) rfl))) rfl ?_
  refine ni_xInc (ni_ro [a, b, c, d, e, f] (3317, ni_sInc 5 (6) 3320) (ni_me85_52 [a, b, c, d, e, f] _ (List.mem_of_getElem? (i := 0) rfl))) rfl rfl ?_
  refine ni_xP (g := ni_gGo 28) (ni_ro [a, b, c, d, e, f] (3320, ni_sP (ni_gGo 28)) (ni_me85_52 [a, b, c, d, e, f] _ (List.mem_of_getElem? (i := 1) rfl))) rfl ?_
  refine ni_xLd (ni_ro [a, b, c, d, e, f] (28, ni_sLd 0 5 30) (ni_me85_1 [a, b, c, d, e, f] _ (List.mem_of_getElem? (i := 0) rfl))) rfl rfl ?_
  refine ni_xLd (ni_ro [a, b, c, d, e, f] (30, ni_sLd 3 0 31) (ni_me85_1 [a, b, c, d, e, f] _ (List.mem_of_getElem? (i := 1) rfl))) rfl rfl ?_
  refine ni_xSln (ni_ro [a, b, c, d, e, f] (31, ni_sSln [a, b, c, d, e, f] 32) (ni_me85_1 [a, b, c, d, e, f] _ (List.mem_of_getElem? (i := 2) rfl))) rfl ?_
  refine ni_xP (g := ni_gPush (.int 6) 34) (ni_ro [a, b, c, d, e, f] (32, ni_sP (ni_gPush (.int 6) 34)) (ni_me85_1 [a, b, c, d, e, f] _ (List.mem_of_getElem? (i := 3) rfl))) rfl ?_
  refine ni_xP (g := ni_gI (fun x y => x - y) 35) (ni_ro [a, b, c, d, e, f] (34, ni_sP (ni_gI (fun x y => x - y) 35)) (ni_me85_1 [a, b, c, d, e, f] _ (List.mem_of_getElem? (i := 4) rfl))) rfl ?_
  refine ni_xIc true (ni_ro [a, b, c, d, e, f] (35, ni_sP (ni_gIc (fun x y => decide (y < x)) 3323 38)) (ni_me85_1 [a, b, c, d, e, f] _ (List.mem_of_getElem? (i := 5) rfl))) (show decide (Int32.ofNat 6 - 6 < 0 + 6) = true from by decide) ?_
  refine ni_xP (g := ni_gPush (.int 1) 3324) (ni_ro [a, b, c, d, e, f] (3323, ni_sP (ni_gPush (.int 1) 3324)) (ni_me85_52 [a, b, c, d, e, f] _ (List.mem_of_getElem? (i := 2) rfl))) rfl ?_
  exact ni_xR (ni_ro [a, b, c, d, e, f] (3324, ni_sR (some .boolean)) (ni_me85_52 [a, b, c, d, e, f] _ (List.mem_of_getElem? (i := 3) rfl))) rfl
theorem ni_ca3 (a b c d e f : Int32) : ni_G [a, b, c, d, e, f] 9 85 476 ni_ls0 [] (ni_P0, 0) (.inl (some (.int 1)), (ni_P1, 1)) := by
  by_cases hc : c = 0
  · skip
    refine ni_xLd (ni_ro [a, b, c, d, e, f] (476, ni_sLd 3 1 477) (ni_me85_5 [a, b, c, d, e, f] _ (List.mem_of_getElem? (i := 0) rfl))) rfl rfl ?_
    refine ni_xLd (ni_ro [a, b, c, d, e, f] (477, ni_sLd 3 0 478) (ni_me85_5 [a, b, c, d, e, f] _ (List.mem_of_getElem? (i := 1) rfl))) rfl rfl ?_
    refine ni_xLd (ni_ro [a, b, c, d, e, f] (478, ni_sLd 0 5 480) (ni_me85_5 [a, b, c, d, e, f] _ (List.mem_of_getElem? (i := 2) rfl))) rfl rfl ?_
    refine ni_xP (g := ni_gPush (.int 1) 481) (ni_ro [a, b, c, d, e, f] (480, ni_sP (ni_gPush (.int 1) 481)) (ni_me85_5 [a, b, c, d, e, f] _ (List.mem_of_getElem? (i := 3) rfl))) rfl ?_
    refine ni_xP (g := ni_gI (fun x y => x + y) 482) (ni_ro [a, b, c, d, e, f] (481, ni_sP (ni_gI (fun x y => x + y) 482)) (ni_me85_5 [a, b, c, d, e, f] _ (List.mem_of_getElem? (i := 4) rfl))) rfl ?_
    refine ni_xSld (ni_ro [a, b, c, d, e, f] (482, ni_sSld [a, b, c, d, e, f] 483) (ni_me85_5 [a, b, c, d, e, f] _ (List.mem_of_getElem? (i := 5) rfl))) ⟨by decide, rfl⟩ ?_
    refine ni_xLd (ni_ro [a, b, c, d, e, f] (483, ni_sLd 3 0 484) (ni_me85_5 [a, b, c, d, e, f] _ (List.mem_of_getElem? (i := 6) rfl))) rfl rfl ?_
    refine ni_xLd (ni_ro [a, b, c, d, e, f] (484, ni_sLd 0 5 486) (ni_me85_5 [a, b, c, d, e, f] _ (List.mem_of_getElem? (i := 7) rfl))) rfl rfl ?_
    refine ni_xP (g := ni_gPush (.int 2) 487) (ni_ro [a, b, c, d, e, f] (486, ni_sP (ni_gPush (.int 2) 487)) (ni_me85_5 [a, b, c, d, e, f] _ (List.mem_of_getElem? (i := 8) rfl))) rfl ?_
    refine ni_xP (g := ni_gI (fun x y => x + y) 488) (ni_ro [a, b, c, d, e, f] (487, ni_sP (ni_gI (fun x y => x + y) 488)) (ni_me85_5 [a, b, c, d, e, f] _ (List.mem_of_getElem? (i := 9) rfl))) rfl ?_
    refine ni_xSld (ni_ro [a, b, c, d, e, f] (488, ni_sSld [a, b, c, d, e, f] 489) (ni_me85_5 [a, b, c, d, e, f] _ (List.mem_of_getElem? (i := 10) rfl))) ⟨by decide, rfl⟩ ?_
    refine ni_xIf true (ni_ro [a, b, c, d, e, f] (489, ni_sP (ni_gIf (fun x => decide (x = 0)) 496 492)) (ni_me85_5 [a, b, c, d, e, f] _ (List.mem_of_getElem? (i := 11) rfl))) (decide_eq_true hc) ?_
    refine ni_xP (g := ni_gPush (.int 0) 497) (ni_ro [a, b, c, d, e, f] (496, ni_sP (ni_gPush (.int 0) 497)) (ni_me85_5 [a, b, c, d, e, f] _ (List.mem_of_getElem? (i := 14) rfl))) rfl ?_
    refine ni_xLd (ni_ro [a, b, c, d, e, f] (497, ni_sLd 3 3 498) (ni_me85_5 [a, b, c, d, e, f] _ (List.mem_of_getElem? (i := 15) rfl))) rfl rfl ?_
    refine ni_xC (ni_ro [a, b, c, d, e, f] (498, ni_sC 99 4 501) (ni_me85_5 [a, b, c, d, e, f] _ (List.mem_of_getElem? (i := 16) rfl))) (Nat.le_of_ble_eq_true rfl) rfl rfl (Nat.le_of_ble_eq_true rfl) (ni_ofO (ni_kw99 [a, b, c, d, e, f] _ _)) ?_
    refine ni_xSt (ni_ro [a, b, c, d, e, f] (501, ni_sSt 0 6 503) (ni_me85_5 [a, b, c, d, e, f] _ (List.mem_of_getElem? (i := 17) rfl))) rfl rfl ?_
    refine ni_xLd (ni_ro [a, b, c, d, e, f] (503, ni_sLd 3 2 504) (ni_me85_5 [a, b, c, d, e, f] _ (List.mem_of_getElem? (i := 18) rfl))) rfl rfl ?_
    refine ni_xLd (ni_ro [a, b, c, d, e, f] (504, ni_sLd 3 0 505) (ni_me85_5 [a, b, c, d, e, f] _ (List.mem_of_getElem? (i := 19) rfl))) rfl rfl ?_
    refine ni_xLd (ni_ro [a, b, c, d, e, f] (505, ni_sLd 0 5 507) (ni_me85_5 [a, b, c, d, e, f] _ (List.mem_of_getElem? (i := 20) rfl))) rfl rfl ?_
    refine ni_xP (g := ni_gPush (.int 1) 508) (ni_ro [a, b, c, d, e, f] (507, ni_sP (ni_gPush (.int 1) 508)) (ni_me85_5 [a, b, c, d, e, f] _ (List.mem_of_getElem? (i := 21) rfl))) rfl ?_
    refine ni_xP (g := ni_gI (fun x y => x + y) 509) (ni_ro [a, b, c, d, e, f] (508, ni_sP (ni_gI (fun x y => x + y) 509)) (ni_me85_5 [a, b, c, d, e, f] _ (List.mem_of_getElem? (i := 22) rfl))) rfl ?_
    refine ni_xSld (ni_ro [a, b, c, d, e, f] (509, ni_sSld [a, b, c, d, e, f] 510) (ni_me85_5 [a, b, c, d, e, f] _ (List.mem_of_getElem? (i := 23) rfl))) ⟨by decide, rfl⟩ ?_
    refine ni_xLd (ni_ro [a, b, c, d, e, f] (510, ni_sLd 3 0 511) (ni_me85_5 [a, b, c, d, e, f] _ (List.mem_of_getElem? (i := 24) rfl))) rfl rfl ?_
    refine ni_xLd (ni_ro [a, b, c, d, e, f] (511, ni_sLd 0 5 513) (ni_me85_5 [a, b, c, d, e, f] _ (List.mem_of_getElem? (i := 25) rfl))) rfl rfl ?_
    refine ni_xP (g := ni_gPush (.int 2) 514) (ni_ro [a, b, c, d, e, f] (513, ni_sP (ni_gPush (.int 2) 514)) (ni_me85_5 [a, b, c, d, e, f] _ (List.mem_of_getElem? (i := 26) rfl))) rfl ?_
    refine ni_xP (g := ni_gI (fun x y => x + y) 515) (ni_ro [a, b, c, d, e, f] (514, ni_sP (ni_gI (fun x y => x + y) 515)) (ni_me85_5 [a, b, c, d, e, f] _ (List.mem_of_getElem? (i := 27) rfl))) rfl ?_
    refine ni_xSld (ni_ro [a, b, c, d, e, f] (515, ni_sSld [a, b, c, d, e, f] 516) (ni_me85_5 [a, b, c, d, e, f] _ (List.mem_of_getElem? (i := 28) rfl))) ⟨by decide, rfl⟩ ?_
    refine ni_xIf true (ni_ro [a, b, c, d, e, f] (516, ni_sP (ni_gIf (fun x => decide (x = 0)) 523 519)) (ni_me85_5 [a, b, c, d, e, f] _ (List.mem_of_getElem? (i := 29) rfl))) (decide_eq_true hc) ?_
    refine ni_xP (g := ni_gPush (.int 0) 524) (ni_ro [a, b, c, d, e, f] (523, ni_sP (ni_gPush (.int 0) 524)) (ni_me85_5 [a, b, c, d, e, f] _ (List.mem_of_getElem? (i := 32) rfl))) rfl ?_
    refine ni_xV (ni_ro [a, b, c, d, e, f] (524, ni_sV 158 2 18 527) (ni_me85_5 [a, b, c, d, e, f] _ (List.mem_of_getElem? (i := 33) rfl))) rfl rfl rfl (Nat.le_of_ble_eq_true rfl) (ni_ofO (ni_km158 [a, b, c, d, e, f] _ _)) ?_
    refine ni_xSt (ni_ro [a, b, c, d, e, f] (527, ni_sSt 0 7 529) (ni_me85_5 [a, b, c, d, e, f] _ (List.mem_of_getElem? (i := 34) rfl))) rfl rfl ?_
    refine ni_xLd (ni_ro [a, b, c, d, e, f] (529, ni_sLd 3 2 530) (ni_me85_5 [a, b, c, d, e, f] _ (List.mem_of_getElem? (i := 35) rfl))) rfl rfl ?_
    refine ni_xV (ni_ro [a, b, c, d, e, f] (530, ni_sV 167 0 18 533) (ni_me85_5 [a, b, c, d, e, f] _ (List.mem_of_getElem? (i := 36) rfl))) rfl rfl rfl (Nat.le_of_ble_eq_true rfl) (ni_ofO (ni_k167 [a, b, c, d, e, f])) ?_
    refine ni_xLd (ni_ro [a, b, c, d, e, f] (533, ni_sLd 0 6 535) (ni_me85_5 [a, b, c, d, e, f] _ (List.mem_of_getElem? (i := 37) rfl))) rfl rfl ?_
    refine ni_xIc true (ni_ro [a, b, c, d, e, f] (535, ni_sP (ni_gIc (fun x y => decide (x = y)) 540 538)) (ni_me85_5 [a, b, c, d, e, f] _ (List.mem_of_getElem? (i := 38) rfl))) rfl ?_
    refine ni_xLd (ni_ro [a, b, c, d, e, f] (540, ni_sLd 0 6 542) (ni_me85_5 [a, b, c, d, e, f] _ (List.mem_of_getElem? (i := 39) rfl))) rfl rfl ?_
    refine ni_xIf true (ni_ro [a, b, c, d, e, f] (542, ni_sP (ni_gIf (fun x => decide (¬ x = 0)) 564 545)) (ni_me85_5 [a, b, c, d, e, f] _ (List.mem_of_getElem? (i := 40) rfl))) rfl ?_
    refine ni_xP (g := ni_gGo 3317) (ni_ro [a, b, c, d, e, f] (564, ni_sP (ni_gGo 3317)) (ni_me85_5 [a, b, c, d, e, f] _ (List.mem_of_getElem? (i := 41) rfl))) rfl ?_
    refine ni_xInc (ni_ro [a, b, c, d, e, f] (3317, ni_sInc 5 (6) 3320) (ni_me85_52 [a, b, c, d, e, f] _ (List.mem_of_getElem? (i := 0) rfl))) rfl rfl ?_
    refine ni_xP (g := ni_gGo 28) (ni_ro [a, b, c, d, e, f] (3320, ni_sP (ni_gGo 28)) (ni_me85_52 [a, b, c, d, e, f] _ (List.mem_of_getElem? (i := 1) rfl))) rfl ?_
    refine ni_xLd (ni_ro [a, b, c, d, e, f] (28, ni_sLd 0 5 30) (ni_me85_1 [a, b, c, d, e, f] _ (List.mem_of_getElem? (i := 0) rfl))) rfl rfl ?_
    refine ni_xLd (ni_ro [a, b, c, d, e, f] (30, ni_sLd 3 0 31) (ni_me85_1 [a, b, c, d, e, f] _ (List.mem_of_getElem? (i := 1) rfl))) rfl rfl ?_
    refine ni_xSln (ni_ro [a, b, c, d, e, f] (31, ni_sSln [a, b, c, d, e, f] 32) (ni_me85_1 [a, b, c, d, e, f] _ (List.mem_of_getElem? (i := 2) rfl))) rfl ?_
    refine ni_xP (g := ni_gPush (.int 6) 34) (ni_ro [a, b, c, d, e, f] (32, ni_sP (ni_gPush (.int 6) 34)) (ni_me85_1 [a, b, c, d, e, f] _ (List.mem_of_getElem? (i := 3) rfl))) rfl ?_
    refine ni_xP (g := ni_gI (fun x y => x - y) 35) (ni_ro [a, b, c, d, e, f] (34, ni_sP (ni_gI (fun x y => x - y) 35)) (ni_me85_1 [a, b, c, d, e, f] _ (List.mem_of_getElem? (i := 4) rfl))) rfl ?_
    refine ni_xIc true (ni_ro [a, b, c, d, e, f] (35, ni_sP (ni_gIc (fun x y => decide (y < x)) 3323 38)) (ni_me85_1 [a, b, c, d, e, f] _ (List.mem_of_getElem? (i := 5) rfl))) (show decide (Int32.ofNat 6 - 6 < 0 + 6) = true from by decide) ?_
    refine ni_xP (g := ni_gPush (.int 1) 3324) (ni_ro [a, b, c, d, e, f] (3323, ni_sP (ni_gPush (.int 1) 3324)) (ni_me85_52 [a, b, c, d, e, f] _ (List.mem_of_getElem? (i := 2) rfl))) rfl ?_
    exact ni_xR (ni_ro [a, b, c, d, e, f] (3324, ni_sR (some .boolean)) (ni_me85_52 [a, b, c, d, e, f] _ (List.mem_of_getElem? (i := 3) rfl))) rfl
  · skip
    refine ni_xLd (ni_ro [a, b, c, d, e, f] (476, ni_sLd 3 1 477) (ni_me85_5 [a, b, c, d, e, f] _ (List.mem_of_getElem? (i := 0) rfl))) rfl rfl ?_
    refine ni_xLd (ni_ro [a, b, c, d, e, f] (477, ni_sLd 3 0 478) (ni_me85_5 [a, b, c, d, e, f] _ (List.mem_of_getElem? (i := 1) rfl))) rfl rfl ?_
    refine ni_xLd (ni_ro [a, b, c, d, e, f] (478, ni_sLd 0 5 480) (ni_me85_5 [a, b, c, d, e, f] _ (List.mem_of_getElem? (i := 2) rfl))) rfl rfl ?_
    refine ni_xP (g := ni_gPush (.int 1) 481) (ni_ro [a, b, c, d, e, f] (480, ni_sP (ni_gPush (.int 1) 481)) (ni_me85_5 [a, b, c, d, e, f] _ (List.mem_of_getElem? (i := 3) rfl))) rfl ?_
    refine ni_xP (g := ni_gI (fun x y => x + y) 482) (ni_ro [a, b, c, d, e, f] (481, ni_sP (ni_gI (fun x y => x + y) 482)) (ni_me85_5 [a, b, c, d, e, f] _ (List.mem_of_getElem? (i := 4) rfl))) rfl ?_
    refine ni_xSld (ni_ro [a, b, c, d, e, f] (482, ni_sSld [a, b, c, d, e, f] 483) (ni_me85_5 [a, b, c, d, e, f] _ (List.mem_of_getElem? (i := 5) rfl))) ⟨by decide, rfl⟩ ?_
    refine ni_xLd (ni_ro [a, b, c, d, e, f] (483, ni_sLd 3 0 484) (ni_me85_5 [a, b, c, d, e, f] _ (List.mem_of_getElem? (i := 6) rfl))) rfl rfl ?_
    refine ni_xLd (ni_ro [a, b, c, d, e, f] (484, ni_sLd 0 5 486) (ni_me85_5 [a, b, c, d, e, f] _ (List.mem_of_getElem? (i := 7) rfl))) rfl rfl ?_
    refine ni_xP (g := ni_gPush (.int 2) 487) (ni_ro [a, b, c, d, e, f] (486, ni_sP (ni_gPush (.int 2) 487)) (ni_me85_5 [a, b, c, d, e, f] _ (List.mem_of_getElem? (i := 8) rfl))) rfl ?_
    refine ni_xP (g := ni_gI (fun x y => x + y) 488) (ni_ro [a, b, c, d, e, f] (487, ni_sP (ni_gI (fun x y => x + y) 488)) (ni_me85_5 [a, b, c, d, e, f] _ (List.mem_of_getElem? (i := 9) rfl))) rfl ?_
    refine ni_xSld (ni_ro [a, b, c, d, e, f] (488, ni_sSld [a, b, c, d, e, f] 489) (ni_me85_5 [a, b, c, d, e, f] _ (List.mem_of_getElem? (i := 10) rfl))) ⟨by decide, rfl⟩ ?_
    refine ni_xIf false (ni_ro [a, b, c, d, e, f] (489, ni_sP (ni_gIf (fun x => decide (x = 0)) 496 492)) (ni_me85_5 [a, b, c, d, e, f] _ (List.mem_of_getElem? (i := 11) rfl))) (decide_eq_false hc) ?_
    refine ni_xP (g := ni_gPush (.int 1) 493) (ni_ro [a, b, c, d, e, f] (492, ni_sP (ni_gPush (.int 1) 493)) (ni_me85_5 [a, b, c, d, e, f] _ (List.mem_of_getElem? (i := 12) rfl))) rfl ?_
    refine ni_xP (g := ni_gGo 497) (ni_ro [a, b, c, d, e, f] (493, ni_sP (ni_gGo 497)) (ni_me85_5 [a, b, c, d, e, f] _ (List.mem_of_getElem? (i := 13) rfl))) rfl ?_
    refine ni_xLd (ni_ro [a, b, c, d, e, f] (497, ni_sLd 3 3 498) (ni_me85_5 [a, b, c, d, e, f] _ (List.mem_of_getElem? (i := 15) rfl))) rfl rfl ?_
    refine ni_xC (ni_ro [a, b, c, d, e, f] (498, ni_sC 99 4 501) (ni_me85_5 [a, b, c, d, e, f] _ (List.mem_of_getElem? (i := 16) rfl))) (Nat.le_of_ble_eq_true rfl) rfl rfl (Nat.le_of_ble_eq_true rfl) (ni_ofO (ni_kw99 [a, b, c, d, e, f] _ _)) ?_
    refine ni_xSt (ni_ro [a, b, c, d, e, f] (501, ni_sSt 0 6 503) (ni_me85_5 [a, b, c, d, e, f] _ (List.mem_of_getElem? (i := 17) rfl))) rfl rfl ?_
    refine ni_xLd (ni_ro [a, b, c, d, e, f] (503, ni_sLd 3 2 504) (ni_me85_5 [a, b, c, d, e, f] _ (List.mem_of_getElem? (i := 18) rfl))) rfl rfl ?_
    refine ni_xLd (ni_ro [a, b, c, d, e, f] (504, ni_sLd 3 0 505) (ni_me85_5 [a, b, c, d, e, f] _ (List.mem_of_getElem? (i := 19) rfl))) rfl rfl ?_
    refine ni_xLd (ni_ro [a, b, c, d, e, f] (505, ni_sLd 0 5 507) (ni_me85_5 [a, b, c, d, e, f] _ (List.mem_of_getElem? (i := 20) rfl))) rfl rfl ?_
    refine ni_xP (g := ni_gPush (.int 1) 508) (ni_ro [a, b, c, d, e, f] (507, ni_sP (ni_gPush (.int 1) 508)) (ni_me85_5 [a, b, c, d, e, f] _ (List.mem_of_getElem? (i := 21) rfl))) rfl ?_
    refine ni_xP (g := ni_gI (fun x y => x + y) 509) (ni_ro [a, b, c, d, e, f] (508, ni_sP (ni_gI (fun x y => x + y) 509)) (ni_me85_5 [a, b, c, d, e, f] _ (List.mem_of_getElem? (i := 22) rfl))) rfl ?_
    refine ni_xSld (ni_ro [a, b, c, d, e, f] (509, ni_sSld [a, b, c, d, e, f] 510) (ni_me85_5 [a, b, c, d, e, f] _ (List.mem_of_getElem? (i := 23) rfl))) ⟨by decide, rfl⟩ ?_
    refine ni_xLd (ni_ro [a, b, c, d, e, f] (510, ni_sLd 3 0 511) (ni_me85_5 [a, b, c, d, e, f] _ (List.mem_of_getElem? (i := 24) rfl))) rfl rfl ?_
    refine ni_xLd (ni_ro [a, b, c, d, e, f] (511, ni_sLd 0 5 513) (ni_me85_5 [a, b, c, d, e, f] _ (List.mem_of_getElem? (i := 25) rfl))) rfl rfl ?_
    refine ni_xP (g := ni_gPush (.int 2) 514) (ni_ro [a, b, c, d, e, f] (513, ni_sP (ni_gPush (.int 2) 514)) (ni_me85_5 [a, b, c, d, e, f] _ (List.mem_of_getElem? (i := 26) rfl))) rfl ?_
    refine ni_xP (g := ni_gI (fun x y => x + y) 515) (ni_ro [a, b, c, d, e, f] (514, ni_sP (ni_gI (fun x y => x + y) 515)) (ni_me85_5 [a, b, c, d, e, f] _ (List.mem_of_getElem? (i := 27) rfl))) rfl ?_
    refine ni_xSld (ni_ro [a, b, c, d, e, f] (515, ni_sSld [a, b, c, d, e, f] 516) (ni_me85_5 [a, b, c, d, e, f] _ (List.mem_of_getElem? (i := 28) rfl))) ⟨by decide, rfl⟩ ?_
    refine ni_xIf false (ni_ro [a, b, c, d, e, f] (516, ni_sP (ni_gIf (fun x => decide (x = 0)) 523 519)) (ni_me85_5 [a, b, c, d, e, f] _ (List.mem_of_getElem? (i := 29) rfl))) (decide_eq_false hc) ?_
    refine ni_xP (g := ni_gPush (.int 1) 520) (ni_ro [a, b, c, d, e, f] (519, ni_sP (ni_gPush (.int 1) 520)) (ni_me85_5 [a, b, c, d, e, f] _ (List.mem_of_getElem? (i := 30) rfl))) rfl ?_
    refine ni_xP (g := ni_gGo 524) (ni_ro [a, b, c, d, e, f] (520, ni_sP (ni_gGo 524)) (ni_me85_5 [a, b, c, d, e, f] _ (List.mem_of_getElem? (i := 31) rfl))) rfl ?_
    refine ni_xV (ni_ro [a, b, c, d, e, f] (524, ni_sV 158 2 18 527) (ni_me85_5 [a, b, c, d, e, f] _ (List.mem_of_getElem? (i := 33) rfl))) rfl rfl rfl (Nat.le_of_ble_eq_true rfl) (ni_ofO (ni_km158 [a, b, c, d, e, f] _ _)) ?_
    refine ni_xSt (ni_ro [a, b, c, d, e, f] (527, ni_sSt 0 7 529) (ni_me85_5 [a, b, c, d, e, f] _ (List.mem_of_getElem? (i := 34) rfl))) rfl rfl ?_
    refine ni_xLd (ni_ro [a, b, c, d, e, f] (529, ni_sLd 3 2 530) (ni_me85_5 [a, b, c, d, e, f] _ (List.mem_of_getElem? (i := 35) rfl))) rfl rfl ?_
    refine ni_xV (ni_ro [a, b, c, d, e, f] (530, ni_sV 167 0 18 533) (ni_me85_5 [a, b, c, d, e, f] _ (List.mem_of_getElem? (i := 36) rfl))) rfl rfl rfl (Nat.le_of_ble_eq_true rfl) (ni_ofO (ni_k167 [a, b, c, d, e, f])) ?_
    refine ni_xLd (ni_ro [a, b, c, d, e, f] (533, ni_sLd 0 6 535) (ni_me85_5 [a, b, c, d, e, f] _ (List.mem_of_getElem? (i := 37) rfl))) rfl rfl ?_
    refine ni_xIc true (ni_ro [a, b, c, d, e, f] (535, ni_sP (ni_gIc (fun x y => decide (x = y)) 540 538)) (ni_me85_5 [a, b, c, d, e, f] _ (List.mem_of_getElem? (i := 38) rfl))) rfl ?_
    refine ni_xLd (ni_ro [a, b, c, d, e, f] (540, ni_sLd 0 6 542) (ni_me85_5 [a, b, c, d, e, f] _ (List.mem_of_getElem? (i := 39) rfl))) rfl rfl ?_
    refine ni_xIf true (ni_ro [a, b, c, d, e, f] (542, ni_sP (ni_gIf (fun x => decide (¬ x = 0)) 564 545)) (ni_me85_5 [a, b, c, d, e, f] _ (List.mem_of_getElem? (i := 40) rfl))) rfl ?_
    refine ni_xP (g := ni_gGo 3317) (ni_ro [a, b, c, d, e, f] (564, ni_sP (ni_gGo 3317)) (ni_me85_5 [a, b, c, d, e, f] _ (List.mem_of_getElem? (i := 41) rfl))) rfl ?_
    refine ni_xInc (ni_ro [a, b, c, d, e, f] (3317, ni_sInc 5 (6) 3320) (ni_me85_52 [a, b, c, d, e, f] _ (List.mem_of_getElem? (i := 0) rfl))) rfl rfl ?_
    refine ni_xP (g := ni_gGo 28) (ni_ro [a, b, c, d, e, f] (3320, ni_sP (ni_gGo 28)) (ni_me85_52 [a, b, c, d, e, f] _ (List.mem_of_getElem? (i := 1) rfl))) rfl ?_
    refine ni_xLd (ni_ro [a, b, c, d, e, f] (28, ni_sLd 0 5 30) (ni_me85_1 [a, b, c, d, e, f] _ (List.mem_of_getElem? (i := 0) rfl))) rfl rfl ?_
    refine ni_xLd (ni_ro [a, b, c, d, e, f] (30, ni_sLd 3 0 31) (ni_me85_1 [a, b, c, d, e, f] _ (List.mem_of_getElem? (i := 1) rfl))) rfl rfl ?_
    refine ni_xSln (ni_ro [a, b, c, d, e, f] (31, ni_sSln [a, b, c, d, e, f] 32) (ni_me85_1 [a, b, c, d, e, f] _ (List.mem_of_getElem? (i := 2) rfl))) rfl ?_
    refine ni_xP (g := ni_gPush (.int 6) 34) (ni_ro [a, b, c, d, e, f] (32, ni_sP (ni_gPush (.int 6) 34)) (ni_me85_1 [a, b, c, d, e, f] _ (List.mem_of_getElem? (i := 3) rfl))) rfl ?_
    refine ni_xP (g := ni_gI (fun x y => x - y) 35) (ni_ro [a, b, c, d, e, f] (34, ni_sP (ni_gI (fun x y => x - y) 35)) (ni_me85_1 [a, b, c, d, e, f] _ (List.mem_of_getElem? (i := 4) rfl))) rfl ?_
    refine ni_xIc true (ni_ro [a, b, c, d, e, f] (35, ni_sP (ni_gIc (fun x y => decide (y < x)) 3323 38)) (ni_me85_1 [a, b, c, d, e, f] _ (List.mem_of_getElem? (i := 5) rfl))) (show decide (Int32.ofNat 6 - 6 < 0 + 6) = true from by decide) ?_
    refine ni_xP (g := ni_gPush (.int 1) 3324) (ni_ro [a, b, c, d, e, f] (3323, ni_sP (ni_gPush (.int 1) 3324)) (ni_me85_52 [a, b, c, d, e, f] _ (List.mem_of_getElem? (i := 2) rfl))) rfl ?_
    exact ni_xR (ni_ro [a, b, c, d, e, f] (3324, ni_sR (some .boolean)) (ni_me85_52 [a, b, c, d, e, f] _ (List.mem_of_getElem? (i := 3) rfl))) rfl
theorem ni_ca4 (a b c d e f : Int32) : ni_G [a, b, c, d, e, f] 9 85 567 ni_ls0 [] (ni_P0, 0) (.inl (some (.int 1)), (ni_P1, 1)) := by
  refine ni_xLd (ni_ro [a, b, c, d, e, f] (567, ni_sLd 3 1 568) (ni_me85_6 [a, b, c, d, e, f] _ (List.mem_of_getElem? (i := 0) rfl))) rfl rfl ?_
  refine ni_xLd (ni_ro [a, b, c, d, e, f] (568, ni_sLd 3 0 569) (ni_me85_6 [a, b, c, d, e, f] _ (List.mem_of_getElem? (i := 1) rfl))) rfl rfl ?_
  refine ni_xLd (ni_ro [a, b, c, d, e, f] (569, ni_sLd 0 5 571) (ni_me85_6 [a, b, c, d, e, f] _ (List.mem_of_getElem? (i := 2) rfl))) rfl rfl ?_
  refine ni_xP (g := ni_gPush (.int 1) 572) (ni_ro [a, b, c, d, e, f] (571, ni_sP (ni_gPush (.int 1) 572)) (ni_me85_6 [a, b, c, d, e, f] _ (List.mem_of_getElem? (i := 3) rfl))) rfl ?_
  refine ni_xP (g := ni_gI (fun x y => x + y) 573) (ni_ro [a, b, c, d, e, f] (572, ni_sP (ni_gI (fun x y => x + y) 573)) (ni_me85_6 [a, b, c, d, e, f] _ (List.mem_of_getElem? (i := 4) rfl))) rfl ?_
  refine ni_xSld (ni_ro [a, b, c, d, e, f] (573, ni_sSld [a, b, c, d, e, f] 574) (ni_me85_6 [a, b, c, d, e, f] _ (List.mem_of_getElem? (i := 5) rfl))) ⟨by decide, rfl⟩ ?_
  refine ni_xLd (ni_ro [a, b, c, d, e, f] (574, ni_sLd 3 0 575) (ni_me85_6 [a, b, c, d, e, f] _ (List.mem_of_getElem? (i := 6) rfl))) rfl rfl ?_
  refine ni_xLd (ni_ro [a, b, c, d, e, f] (575, ni_sLd 0 5 577) (ni_me85_6 [a, b, c, d, e, f] _ (List.mem_of_getElem? (i := 7) rfl))) rfl rfl ?_
  refine ni_xP (g := ni_gPush (.int 2) 578) (ni_ro [a, b, c, d, e, f] (577, ni_sP (ni_gPush (.int 2) 578)) (ni_me85_6 [a, b, c, d, e, f] _ (List.mem_of_getElem? (i := 8) rfl))) rfl ?_
  refine ni_xP (g := ni_gI (fun x y => x + y) 579) (ni_ro [a, b, c, d, e, f] (578, ni_sP (ni_gI (fun x y => x + y) 579)) (ni_me85_6 [a, b, c, d, e, f] _ (List.mem_of_getElem? (i := 9) rfl))) rfl ?_
  refine ni_xSld (ni_ro [a, b, c, d, e, f] (579, ni_sSld [a, b, c, d, e, f] 580) (ni_me85_6 [a, b, c, d, e, f] _ (List.mem_of_getElem? (i := 10) rfl))) ⟨by decide, rfl⟩ ?_
  refine ni_xLd (ni_ro [a, b, c, d, e, f] (580, ni_sLd 3 0 581) (ni_me85_6 [a, b, c, d, e, f] _ (List.mem_of_getElem? (i := 11) rfl))) rfl rfl ?_
  refine ni_xLd (ni_ro [a, b, c, d, e, f] (581, ni_sLd 0 5 583) (ni_me85_6 [a, b, c, d, e, f] _ (List.mem_of_getElem? (i := 12) rfl))) rfl rfl ?_
  refine ni_xP (g := ni_gPush (.int 3) 584) (ni_ro [a, b, c, d, e, f] (583, ni_sP (ni_gPush (.int 3) 584)) (ni_me85_6 [a, b, c, d, e, f] _ (List.mem_of_getElem? (i := 13) rfl))) rfl ?_
  refine ni_xP (g := ni_gI (fun x y => x + y) 585) (ni_ro [a, b, c, d, e, f] (584, ni_sP (ni_gI (fun x y => x + y) 585)) (ni_me85_6 [a, b, c, d, e, f] _ (List.mem_of_getElem? (i := 14) rfl))) rfl ?_
  refine ni_xSld (ni_ro [a, b, c, d, e, f] (585, ni_sSld [a, b, c, d, e, f] 586) (ni_me85_6 [a, b, c, d, e, f] _ (List.mem_of_getElem? (i := 15) rfl))) ⟨by decide, rfl⟩ ?_
  refine ni_xLd (ni_ro [a, b, c, d, e, f] (586, ni_sLd 3 3 587) (ni_me85_6 [a, b, c, d, e, f] _ (List.mem_of_getElem? (i := 16) rfl))) rfl rfl ?_
  refine ni_xC (ni_ro [a, b, c, d, e, f] (587, ni_sC 70 5 590) (ni_me85_6 [a, b, c, d, e, f] _ (List.mem_of_getElem? (i := 17) rfl))) (Nat.le_of_ble_eq_true rfl) rfl rfl (Nat.le_of_ble_eq_true rfl) (ni_ofO (ni_kw70 [a, b, c, d, e, f] _ _ _)) ?_
  refine ni_xSt (ni_ro [a, b, c, d, e, f] (590, ni_sSt 0 6 592) (ni_me85_6 [a, b, c, d, e, f] _ (List.mem_of_getElem? (i := 18) rfl))) rfl rfl ?_
  refine ni_xLd (ni_ro [a, b, c, d, e, f] (592, ni_sLd 3 2 593) (ni_me85_6 [a, b, c, d, e, f] _ (List.mem_of_getElem? (i := 19) rfl))) rfl rfl ?_
  refine ni_xLd (ni_ro [a, b, c, d, e, f] (593, ni_sLd 3 0 594) (ni_me85_6 [a, b, c, d, e, f] _ (List.mem_of_getElem? (i := 20) rfl))) rfl rfl ?_
  refine ni_xLd (ni_ro [a, b, c, d, e, f] (594, ni_sLd 0 5 596) (ni_me85_6 [a, b, c, d, e, f] _ (List.mem_of_getElem? (i := 21) rfl))) rfl rfl ?_
  refine ni_xP (g := ni_gPush (.int 1) 597) (ni_ro [a, b, c, d, e, f] (596, ni_sP (ni_gPush (.int 1) 597)) (ni_me85_6 [a, b, c, d, e, f] _ (List.mem_of_getElem? (i := 22) rfl))) rfl ?_
  refine ni_xP (g := ni_gI (fun x y => x + y) 598) (ni_ro [a, b, c, d, e, f] (597, ni_sP (ni_gI (fun x y => x + y) 598)) (ni_me85_6 [a, b, c, d, e, f] _ (List.mem_of_getElem? (i := 23) rfl))) rfl ?_
  refine ni_xSld (ni_ro [a, b, c, d, e, f] (598, ni_sSld [a, b, c, d, e, f] 599) (ni_me85_6 [a, b, c, d, e, f] _ (List.mem_of_getElem? (i := 24) rfl))) ⟨by decide, rfl⟩ ?_
  refine ni_xLd (ni_ro [a, b, c, d, e, f] (599, ni_sLd 3 0 600) (ni_me85_6 [a, b, c, d, e, f] _ (List.mem_of_getElem? (i := 25) rfl))) rfl rfl ?_
  refine ni_xLd (ni_ro [a, b, c, d, e, f] (600, ni_sLd 0 5 602) (ni_me85_6 [a, b, c, d, e, f] _ (List.mem_of_getElem? (i := 26) rfl))) rfl rfl ?_
  refine ni_xP (g := ni_gPush (.int 2) 603) (ni_ro [a, b, c, d, e, f] (602, ni_sP (ni_gPush (.int 2) 603)) (ni_me85_6 [a, b, c, d, e, f] _ (List.mem_of_getElem? (i := 27) rfl))) rfl ?_
  refine ni_xP (g := ni_gI (fun x y => x + y) 604) (ni_ro [a, b, c, d, e, f] (603, ni_sP (ni_gI (fun x y => x + y) 604)) (ni_me85_6 [a, b, c, d, e, f] _ (List.mem_of_getElem? (i := 28) rfl))) rfl ?_
  refine ni_xSld (ni_ro [a, b, c, d, e, f] (604, ni_sSld [a, b, c, d, e, f] 605) (ni_me85_6 [a, b, c, d, e, f] _ (List.mem_of_getElem? (i := 29) rfl))) ⟨by decide, rfl⟩ ?_
  refine ni_xLd (ni_ro [a, b, c, d, e, f] (605, ni_sLd 3 0 606) (ni_me85_6 [a, b, c, d, e, f] _ (List.mem_of_getElem? (i := 30) rfl))) rfl rfl ?_
  refine ni_xLd (ni_ro [a, b, c, d, e, f] (606, ni_sLd 0 5 608) (ni_me85_6 [a, b, c, d, e, f] _ (List.mem_of_getElem? (i := 31) rfl))) rfl rfl ?_
  refine ni_xP (g := ni_gPush (.int 3) 609) (ni_ro [a, b, c, d, e, f] (608, ni_sP (ni_gPush (.int 3) 609)) (ni_me85_6 [a, b, c, d, e, f] _ (List.mem_of_getElem? (i := 32) rfl))) rfl ?_
  refine ni_xP (g := ni_gI (fun x y => x + y) 610) (ni_ro [a, b, c, d, e, f] (609, ni_sP (ni_gI (fun x y => x + y) 610)) (ni_me85_6 [a, b, c, d, e, f] _ (List.mem_of_getElem? (i := 33) rfl))) rfl ?_
  refine ni_xSld (ni_ro [a, b, c, d, e, f] (610, ni_sSld [a, b, c, d, e, f] 611) (ni_me85_6 [a, b, c, d, e, f] _ (List.mem_of_getElem? (i := 34) rfl))) ⟨by decide, rfl⟩ ?_
  refine ni_xV (ni_ro [a, b, c, d, e, f] (611, ni_sV 114 3 18 614) (ni_me85_6 [a, b, c, d, e, f] _ (List.mem_of_getElem? (i := 35) rfl))) rfl rfl rfl (Nat.le_of_ble_eq_true rfl) (ni_ofO (ni_km114 [a, b, c, d, e, f] _ _ _)) ?_
  refine ni_xSt (ni_ro [a, b, c, d, e, f] (614, ni_sSt 0 7 616) (ni_me85_6 [a, b, c, d, e, f] _ (List.mem_of_getElem? (i := 36) rfl))) rfl rfl ?_
  refine ni_xLd (ni_ro [a, b, c, d, e, f] (616, ni_sLd 3 2 617) (ni_me85_6 [a, b, c, d, e, f] _ (List.mem_of_getElem? (i := 37) rfl))) rfl rfl ?_
  refine ni_xV (ni_ro [a, b, c, d, e, f] (617, ni_sV 167 0 18 620) (ni_me85_6 [a, b, c, d, e, f] _ (List.mem_of_getElem? (i := 38) rfl))) rfl rfl rfl (Nat.le_of_ble_eq_true rfl) (ni_ofO (ni_k167 [a, b, c, d, e, f])) ?_
  refine ni_xLd (ni_ro [a, b, c, d, e, f] (620, ni_sLd 0 6 622) (ni_me85_6 [a, b, c, d, e, f] _ (List.mem_of_getElem? (i := 39) rfl))) rfl rfl ?_
  refine ni_xIc true (ni_ro [a, b, c, d, e, f] (622, ni_sP (ni_gIc (fun x y => decide (x = y)) 627 625)) (ni_me85_6 [a, b, c, d, e, f] _ (List.mem_of_getElem? (i := 40) rfl))) rfl ?_
  refine ni_xLd (ni_ro [a, b, c, d, e, f] (627, ni_sLd 0 6 629) (ni_me85_6 [a, b, c, d, e, f] _ (List.mem_of_getElem? (i := 41) rfl))) rfl rfl ?_
  refine ni_xIf true (ni_ro [a, b, c, d, e, f] (629, ni_sP (ni_gIf (fun x => decide (¬ x = 0)) 644 632)) (ni_me85_6 [a, b, c, d, e, f] _ (List.mem_of_getElem? (i := 42) rfl))) rfl ?_
  refine ni_xP (g := ni_gGo 3317) (ni_ro [a, b, c, d, e, f] (644, ni_sP (ni_gGo 3317)) (ni_me85_6 [a, b, c, d, e, f] _ (List.mem_of_getElem? (i := 43) rfl))) rfl ?_
  refine ni_xInc (ni_ro [a, b, c, d, e, f] (3317, ni_sInc 5 (6) 3320) (ni_me85_52 [a, b, c, d, e, f] _ (List.mem_of_getElem? (i := 0) rfl))) rfl rfl ?_
  refine ni_xP (g := ni_gGo 28) (ni_ro [a, b, c, d, e, f] (3320, ni_sP (ni_gGo 28)) (ni_me85_52 [a, b, c, d, e, f] _ (List.mem_of_getElem? (i := 1) rfl))) rfl ?_
  refine ni_xLd (ni_ro [a, b, c, d, e, f] (28, ni_sLd 0 5 30) (ni_me85_1 [a, b, c, d, e, f] _ (List.mem_of_getElem? (i := 0) rfl))) rfl rfl ?_
  refine ni_xLd (ni_ro [a, b, c, d, e, f] (30, ni_sLd 3 0 31) (ni_me85_1 [a, b, c, d, e, f] _ (List.mem_of_getElem? (i := 1) rfl))) rfl rfl ?_
  refine ni_xSln (ni_ro [a, b, c, d, e, f] (31, ni_sSln [a, b, c, d, e, f] 32) (ni_me85_1 [a, b, c, d, e, f] _ (List.mem_of_getElem? (i := 2) rfl))) rfl ?_
  refine ni_xP (g := ni_gPush (.int 6) 34) (ni_ro [a, b, c, d, e, f] (32, ni_sP (ni_gPush (.int 6) 34)) (ni_me85_1 [a, b, c, d, e, f] _ (List.mem_of_getElem? (i := 3) rfl))) rfl ?_
  refine ni_xP (g := ni_gI (fun x y => x - y) 35) (ni_ro [a, b, c, d, e, f] (34, ni_sP (ni_gI (fun x y => x - y) 35)) (ni_me85_1 [a, b, c, d, e, f] _ (List.mem_of_getElem? (i := 4) rfl))) rfl ?_
  refine ni_xIc true (ni_ro [a, b, c, d, e, f] (35, ni_sP (ni_gIc (fun x y => decide (y < x)) 3323 38)) (ni_me85_1 [a, b, c, d, e, f] _ (List.mem_of_getElem? (i := 5) rfl))) (show decide (Int32.ofNat 6 - 6 < 0 + 6) = true from by decide) ?_
  refine ni_xP (g := ni_gPush (.int 1) 3324) (ni_ro [a, b, c, d, e, f] (3323, ni_sP (ni_gPush (.int 1) 3324)) (ni_me85_52 [a, b, c, d, e, f] _ (List.mem_of_getElem? (i := 2) rfl))) rfl ?_
  exact ni_xR (ni_ro [a, b, c, d, e, f] (3324, ni_sR (some .boolean)) (ni_me85_52 [a, b, c, d, e, f] _ (List.mem_of_getElem? (i := 3) rfl))) rfl
theorem ni_ca5 (a b c d e f : Int32) : ni_G [a, b, c, d, e, f] 9 85 647 ni_ls0 [] (ni_P0, 0) (.inl (some (.int 1)), (ni_P1, 1)) := by
  refine ni_xLd (ni_ro [a, b, c, d, e, f] (647, ni_sLd 3 1 648) (ni_me85_7 [a, b, c, d, e, f] _ (List.mem_of_getElem? (i := 0) rfl))) rfl rfl ?_
  refine ni_xLd (ni_ro [a, b, c, d, e, f] (648, ni_sLd 3 0 649) (ni_me85_7 [a, b, c, d, e, f] _ (List.mem_of_getElem? (i := 1) rfl))) rfl rfl ?_
  refine ni_xLd (ni_ro [a, b, c, d, e, f] (649, ni_sLd 0 5 651) (ni_me85_7 [a, b, c, d, e, f] _ (List.mem_of_getElem? (i := 2) rfl))) rfl rfl ?_
  refine ni_xP (g := ni_gPush (.int 1) 652) (ni_ro [a, b, c, d, e, f] (651, ni_sP (ni_gPush (.int 1) 652)) (ni_me85_7 [a, b, c, d, e, f] _ (List.mem_of_getElem? (i := 3) rfl))) rfl ?_
  refine ni_xP (g := ni_gI (fun x y => x + y) 653) (ni_ro [a, b, c, d, e, f] (652, ni_sP (ni_gI (fun x y => x + y) 653)) (ni_me85_7 [a, b, c, d, e, f] _ (List.mem_of_getElem? (i := 4) rfl))) rfl ?_
  refine ni_xSld (ni_ro [a, b, c, d, e, f] (653, ni_sSld [a, b, c, d, e, f] 654) (ni_me85_7 [a, b, c, d, e, f] _ (List.mem_of_getElem? (i := 5) rfl))) ⟨by decide, rfl⟩ ?_
  refine ni_xLd (ni_ro [a, b, c, d, e, f] (654, ni_sLd 3 3 655) (ni_me85_7 [a, b, c, d, e, f] _ (List.mem_of_getElem? (i := 6) rfl))) rfl rfl ?_
  refine ni_xC (ni_ro [a, b, c, d, e, f] (655, ni_sC 77 3 658) (ni_me85_7 [a, b, c, d, e, f] _ (List.mem_of_getElem? (i := 7) rfl))) (Nat.le_of_ble_eq_true rfl) rfl rfl (Nat.le_of_ble_eq_true rfl) (ni_ofO (ni_kw77 [a, b, c, d, e, f] _)) ?_
  refine ni_xSt (ni_ro [a, b, c, d, e, f] (658, ni_sSt 0 6 660) (ni_me85_7 [a, b, c, d, e, f] _ (List.mem_of_getElem? (i := 8) rfl))) rfl rfl ?_
  refine ni_xLd (ni_ro [a, b, c, d, e, f] (660, ni_sLd 3 2 661) (ni_me85_7 [a, b, c, d, e, f] _ (List.mem_of_getElem? (i := 9) rfl))) rfl rfl ?_
  refine ni_xLd (ni_ro [a, b, c, d, e, f] (661, ni_sLd 3 0 662) (ni_me85_7 [a, b, c, d, e, f] _ (List.mem_of_getElem? (i := 10) rfl))) rfl rfl ?_
  refine ni_xLd (ni_ro [a, b, c, d, e, f] (662, ni_sLd 0 5 664) (ni_me85_7 [a, b, c, d, e, f] _ (List.mem_of_getElem? (i := 11) rfl))) rfl rfl ?_
  refine ni_xP (g := ni_gPush (.int 1) 665) (ni_ro [a, b, c, d, e, f] (664, ni_sP (ni_gPush (.int 1) 665)) (ni_me85_7 [a, b, c, d, e, f] _ (List.mem_of_getElem? (i := 12) rfl))) rfl ?_
  refine ni_xP (g := ni_gI (fun x y => x + y) 666) (ni_ro [a, b, c, d, e, f] (665, ni_sP (ni_gI (fun x y => x + y) 666)) (ni_me85_7 [a, b, c, d, e, f] _ (List.mem_of_getElem? (i := 13) rfl))) rfl ?_
  refine ni_xSld (ni_ro [a, b, c, d, e, f] (666, ni_sSld [a, b, c, d, e, f] 667) (ni_me85_7 [a, b, c, d, e, f] _ (List.mem_of_getElem? (i := 14) rfl))) ⟨by decide, rfl⟩ ?_
  refine ni_xV (ni_ro [a, b, c, d, e, f] (667, ni_sV 123 1 18 670) (ni_me85_7 [a, b, c, d, e, f] _ (List.mem_of_getElem? (i := 15) rfl))) rfl rfl rfl (Nat.le_of_ble_eq_true rfl) (ni_ofO (ni_km123 [a, b, c, d, e, f] _)) ?_
  refine ni_xSt (ni_ro [a, b, c, d, e, f] (670, ni_sSt 0 7 672) (ni_me85_7 [a, b, c, d, e, f] _ (List.mem_of_getElem? (i := 16) rfl))) rfl rfl ?_
  refine ni_xLd (ni_ro [a, b, c, d, e, f] (672, ni_sLd 3 2 673) (ni_me85_7 [a, b, c, d, e, f] _ (List.mem_of_getElem? (i := 17) rfl))) rfl rfl ?_
  refine ni_xV (ni_ro [a, b, c, d, e, f] (673, ni_sV 167 0 18 676) (ni_me85_7 [a, b, c, d, e, f] _ (List.mem_of_getElem? (i := 18) rfl))) rfl rfl rfl (Nat.le_of_ble_eq_true rfl) (ni_ofO (ni_k167 [a, b, c, d, e, f])) ?_
  refine ni_xLd (ni_ro [a, b, c, d, e, f] (676, ni_sLd 0 6 678) (ni_me85_7 [a, b, c, d, e, f] _ (List.mem_of_getElem? (i := 19) rfl))) rfl rfl ?_
  refine ni_xIc true (ni_ro [a, b, c, d, e, f] (678, ni_sP (ni_gIc (fun x y => decide (x = y)) 683 681)) (ni_me85_7 [a, b, c, d, e, f] _ (List.mem_of_getElem? (i := 20) rfl))) rfl ?_
  refine ni_xLd (ni_ro [a, b, c, d, e, f] (683, ni_sLd 0 6 685) (ni_me85_7 [a, b, c, d, e, f] _ (List.mem_of_getElem? (i := 21) rfl))) rfl rfl ?_
  refine ni_xIf true (ni_ro [a, b, c, d, e, f] (685, ni_sP (ni_gIf (fun x => decide (¬ x = 0)) 700 688)) (ni_me85_7 [a, b, c, d, e, f] _ (List.mem_of_getElem? (i := 22) rfl))) rfl ?_
  refine ni_xP (g := ni_gGo 3317) (ni_ro [a, b, c, d, e, f] (700, ni_sP (ni_gGo 3317)) (ni_me85_7 [a, b, c, d, e, f] _ (List.mem_of_getElem? (i := 23) rfl))) rfl ?_
  refine ni_xInc (ni_ro [a, b, c, d, e, f] (3317, ni_sInc 5 (6) 3320) (ni_me85_52 [a, b, c, d, e, f] _ (List.mem_of_getElem? (i := 0) rfl))) rfl rfl ?_
  refine ni_xP (g := ni_gGo 28) (ni_ro [a, b, c, d, e, f] (3320, ni_sP (ni_gGo 28)) (ni_me85_52 [a, b, c, d, e, f] _ (List.mem_of_getElem? (i := 1) rfl))) rfl ?_
  refine ni_xLd (ni_ro [a, b, c, d, e, f] (28, ni_sLd 0 5 30) (ni_me85_1 [a, b, c, d, e, f] _ (List.mem_of_getElem? (i := 0) rfl))) rfl rfl ?_
  refine ni_xLd (ni_ro [a, b, c, d, e, f] (30, ni_sLd 3 0 31) (ni_me85_1 [a, b, c, d, e, f] _ (List.mem_of_getElem? (i := 1) rfl))) rfl rfl ?_
  refine ni_xSln (ni_ro [a, b, c, d, e, f] (31, ni_sSln [a, b, c, d, e, f] 32) (ni_me85_1 [a, b, c, d, e, f] _ (List.mem_of_getElem? (i := 2) rfl))) rfl ?_
  refine ni_xP (g := ni_gPush (.int 6) 34) (ni_ro [a, b, c, d, e, f] (32, ni_sP (ni_gPush (.int 6) 34)) (ni_me85_1 [a, b, c, d, e, f] _ (List.mem_of_getElem? (i := 3) rfl))) rfl ?_
  refine ni_xP (g := ni_gI (fun x y => x - y) 35) (ni_ro [a, b, c, d, e, f] (34, ni_sP (ni_gI (fun x y => x - y) 35)) (ni_me85_1 [a, b, c, d, e, f] _ (List.mem_of_getElem? (i := 4) rfl))) rfl ?_
  refine ni_xIc true (ni_ro [a, b, c, d, e, f] (35, ni_sP (ni_gIc (fun x y => decide (y < x)) 3323 38)) (ni_me85_1 [a, b, c, d, e, f] _ (List.mem_of_getElem? (i := 5) rfl))) (show decide (Int32.ofNat 6 - 6 < 0 + 6) = true from by decide) ?_
  refine ni_xP (g := ni_gPush (.int 1) 3324) (ni_ro [a, b, c, d, e, f] (3323, ni_sP (ni_gPush (.int 1) 3324)) (ni_me85_52 [a, b, c, d, e, f] _ (List.mem_of_getElem? (i := 2) rfl))) rfl ?_
  exact ni_xR (ni_ro [a, b, c, d, e, f] (3324, ni_sR (some .boolean)) (ni_me85_52 [a, b, c, d, e, f] _ (List.mem_of_getElem? (i := 3) rfl))) rfl
theorem ni_ca6 (a b c d e f : Int32) : ni_G [a, b, c, d, e, f] 9 85 703 ni_ls0 [] (ni_P0, 0) (.inl (some (.int 1)), (ni_P1, 1)) := by
  refine ni_xLd (ni_ro [a, b, c, d, e, f] (703, ni_sLd 3 1 704) (ni_me85_8 [a, b, c, d, e, f] _ (List.mem_of_getElem? (i := 0) rfl))) rfl rfl ?_
  refine ni_xLd (ni_ro [a, b, c, d, e, f] (704, ni_sLd 3 0 705) (ni_me85_8 [a, b, c, d, e, f] _ (List.mem_of_getElem? (i := 1) rfl))) rfl rfl ?_
  refine ni_xLd (ni_ro [a, b, c, d, e, f] (705, ni_sLd 0 5 707) (ni_me85_8 [a, b, c, d, e, f] _ (List.mem_of_getElem? (i := 2) rfl))) rfl rfl ?_
  refine ni_xP (g := ni_gPush (.int 1) 708) (ni_ro [a, b, c, d, e, f] (707, ni_sP (ni_gPush (.int 1) 708)) (ni_me85_8 [a, b, c, d, e, f] _ (List.mem_of_getElem? (i := 3) rfl))) rfl ?_
  refine ni_xP (g := ni_gI (fun x y => x + y) 709) (ni_ro [a, b, c, d, e, f] (708, ni_sP (ni_gI (fun x y => x + y) 709)) (ni_me85_8 [a, b, c, d, e, f] _ (List.mem_of_getElem? (i := 4) rfl))) rfl ?_
  refine ni_xSld (ni_ro [a, b, c, d, e, f] (709, ni_sSld [a, b, c, d, e, f] 710) (ni_me85_8 [a, b, c, d, e, f] _ (List.mem_of_getElem? (i := 5) rfl))) ⟨by decide, rfl⟩ ?_
  refine ni_xLd (ni_ro [a, b, c, d, e, f] (710, ni_sLd 3 0 711) (ni_me85_8 [a, b, c, d, e, f] _ (List.mem_of_getElem? (i := 6) rfl))) rfl rfl ?_
  refine ni_xLd (ni_ro [a, b, c, d, e, f] (711, ni_sLd 0 5 713) (ni_me85_8 [a, b, c, d, e, f] _ (List.mem_of_getElem? (i := 7) rfl))) rfl rfl ?_
  refine ni_xP (g := ni_gPush (.int 2) 714) (ni_ro [a, b, c, d, e, f] (713, ni_sP (ni_gPush (.int 2) 714)) (ni_me85_8 [a, b, c, d, e, f] _ (List.mem_of_getElem? (i := 8) rfl))) rfl ?_
  refine ni_xP (g := ni_gI (fun x y => x + y) 715) (ni_ro [a, b, c, d, e, f] (714, ni_sP (ni_gI (fun x y => x + y) 715)) (ni_me85_8 [a, b, c, d, e, f] _ (List.mem_of_getElem? (i := 9) rfl))) rfl ?_
  refine ni_xSld (ni_ro [a, b, c, d, e, f] (715, ni_sSld [a, b, c, d, e, f] 716) (ni_me85_8 [a, b, c, d, e, f] _ (List.mem_of_getElem? (i := 10) rfl))) ⟨by decide, rfl⟩ ?_
  refine ni_xLd (ni_ro [a, b, c, d, e, f] (716, ni_sLd 3 0 717) (ni_me85_8 [a, b, c, d, e, f] _ (List.mem_of_getElem? (i := 11) rfl))) rfl rfl ?_
  refine ni_xLd (ni_ro [a, b, c, d, e, f] (717, ni_sLd 0 5 719) (ni_me85_8 [a, b, c, d, e, f] _ (List.mem_of_getElem? (i := 12) rfl))) rfl rfl ?_
  refine ni_xP (g := ni_gPush (.int 3) 720) (ni_ro [a, b, c, d, e, f] (719, ni_sP (ni_gPush (.int 3) 720)) (ni_me85_8 [a, b, c, d, e, f] _ (List.mem_of_getElem? (i := 13) rfl))) rfl ?_
  refine ni_xP (g := ni_gI (fun x y => x + y) 721) (ni_ro [a, b, c, d, e, f] (720, ni_sP (ni_gI (fun x y => x + y) 721)) (ni_me85_8 [a, b, c, d, e, f] _ (List.mem_of_getElem? (i := 14) rfl))) rfl ?_
  refine ni_xSld (ni_ro [a, b, c, d, e, f] (721, ni_sSld [a, b, c, d, e, f] 722) (ni_me85_8 [a, b, c, d, e, f] _ (List.mem_of_getElem? (i := 15) rfl))) ⟨by decide, rfl⟩ ?_
  refine ni_xLd (ni_ro [a, b, c, d, e, f] (722, ni_sLd 3 0 723) (ni_me85_8 [a, b, c, d, e, f] _ (List.mem_of_getElem? (i := 16) rfl))) rfl rfl ?_
  refine ni_xLd (ni_ro [a, b, c, d, e, f] (723, ni_sLd 0 5 725) (ni_me85_8 [a, b, c, d, e, f] _ (List.mem_of_getElem? (i := 17) rfl))) rfl rfl ?_
  refine ni_xP (g := ni_gPush (.int 4) 726) (ni_ro [a, b, c, d, e, f] (725, ni_sP (ni_gPush (.int 4) 726)) (ni_me85_8 [a, b, c, d, e, f] _ (List.mem_of_getElem? (i := 18) rfl))) rfl ?_
  refine ni_xP (g := ni_gI (fun x y => x + y) 727) (ni_ro [a, b, c, d, e, f] (726, ni_sP (ni_gI (fun x y => x + y) 727)) (ni_me85_8 [a, b, c, d, e, f] _ (List.mem_of_getElem? (i := 19) rfl))) rfl ?_
  refine ni_xSld (ni_ro [a, b, c, d, e, f] (727, ni_sSld [a, b, c, d, e, f] 728) (ni_me85_8 [a, b, c, d, e, f] _ (List.mem_of_getElem? (i := 20) rfl))) ⟨by decide, rfl⟩ ?_
  refine ni_xLd (ni_ro [a, b, c, d, e, f] (728, ni_sLd 3 3 729) (ni_me85_8 [a, b, c, d, e, f] _ (List.mem_of_getElem? (i := 21) rfl))) rfl rfl ?_
  refine ni_xC (ni_ro [a, b, c, d, e, f] (729, ni_sC 72 6 732) (ni_me85_8 [a, b, c, d, e, f] _ (List.mem_of_getElem? (i := 22) rfl))) (Nat.le_of_ble_eq_true rfl) rfl rfl (Nat.le_of_ble_eq_true rfl) (ni_ofO (ni_kw72 [a, b, c, d, e, f] _ _ _ _)) ?_
  refine ni_xSt (ni_ro [a, b, c, d, e, f] (732, ni_sSt 0 6 734) (ni_me85_8 [a, b, c, d, e, f] _ (List.mem_of_getElem? (i := 23) rfl))) rfl rfl ?_
  refine ni_xLd (ni_ro [a, b, c, d, e, f] (734, ni_sLd 3 2 735) (ni_me85_8 [a, b, c, d, e, f] _ (List.mem_of_getElem? (i := 24) rfl))) rfl rfl ?_
  refine ni_xLd (ni_ro [a, b, c, d, e, f] (735, ni_sLd 3 0 736) (ni_me85_8 [a, b, c, d, e, f] _ (List.mem_of_getElem? (i := 25) rfl))) rfl rfl ?_
  refine ni_xLd (ni_ro [a, b, c, d, e, f] (736, ni_sLd 0 5 738) (ni_me85_8 [a, b, c, d, e, f] _ (List.mem_of_getElem? (i := 26) rfl))) rfl rfl ?_
  refine ni_xP (g := ni_gPush (.int 1) 739) (ni_ro [a, b, c, d, e, f] (738, ni_sP (ni_gPush (.int 1) 739)) (ni_me85_8 [a, b, c, d, e, f] _ (List.mem_of_getElem? (i := 27) rfl))) rfl ?_
  refine ni_xP (g := ni_gI (fun x y => x + y) 740) (ni_ro [a, b, c, d, e, f] (739, ni_sP (ni_gI (fun x y => x + y) 740)) (ni_me85_8 [a, b, c, d, e, f] _ (List.mem_of_getElem? (i := 28) rfl))) rfl ?_
  refine ni_xSld (ni_ro [a, b, c, d, e, f] (740, ni_sSld [a, b, c, d, e, f] 741) (ni_me85_8 [a, b, c, d, e, f] _ (List.mem_of_getElem? (i := 29) rfl))) ⟨by decide, rfl⟩ ?_
  refine ni_xLd (ni_ro [a, b, c, d, e, f] (741, ni_sLd 3 0 742) (ni_me85_8 [a, b, c, d, e, f] _ (List.mem_of_getElem? (i := 30) rfl))) rfl rfl ?_
  refine ni_xLd (ni_ro [a, b, c, d, e, f] (742, ni_sLd 0 5 744) (ni_me85_8 [a, b, c, d, e, f] _ (List.mem_of_getElem? (i := 31) rfl))) rfl rfl ?_
  refine ni_xP (g := ni_gPush (.int 2) 745) (ni_ro [a, b, c, d, e, f] (744, ni_sP (ni_gPush (.int 2) 745)) (ni_me85_8 [a, b, c, d, e, f] _ (List.mem_of_getElem? (i := 32) rfl))) rfl ?_
  refine ni_xP (g := ni_gI (fun x y => x + y) 746) (ni_ro [a, b, c, d, e, f] (745, ni_sP (ni_gI (fun x y => x + y) 746)) (ni_me85_8 [a, b, c, d, e, f] _ (List.mem_of_getElem? (i := 33) rfl))) rfl ?_
  refine ni_xSld (ni_ro [a, b, c, d, e, f] (746, ni_sSld [a, b, c, d, e, f] 747) (ni_me85_8 [a, b, c, d, e, f] _ (List.mem_of_getElem? (i := 34) rfl))) ⟨by decide, rfl⟩ ?_
  refine ni_xLd (ni_ro [a, b, c, d, e, f] (747, ni_sLd 3 0 748) (ni_me85_8 [a, b, c, d, e, f] _ (List.mem_of_getElem? (i := 35) rfl))) rfl rfl ?_
  refine ni_xLd (ni_ro [a, b, c, d, e, f] (748, ni_sLd 0 5 750) (ni_me85_8 [a, b, c, d, e, f] _ (List.mem_of_getElem? (i := 36) rfl))) rfl rfl ?_
  refine ni_xP (g := ni_gPush (.int 3) 751) (ni_ro [a, b, c, d, e, f] (750, ni_sP (ni_gPush (.int 3) 751)) (ni_me85_8 [a, b, c, d, e, f] _ (List.mem_of_getElem? (i := 37) rfl))) rfl ?_
  refine ni_xP (g := ni_gI (fun x y => x + y) 752) (ni_ro [a, b, c, d, e, f] (751, ni_sP (ni_gI (fun x y => x + y) 752)) (ni_me85_8 [a, b, c, d, e, f] _ (List.mem_of_getElem? (i := 38) rfl))) rfl ?_
  refine ni_xSld (ni_ro [a, b, c, d, e, f] (752, ni_sSld [a, b, c, d, e, f] 753) (ni_me85_8 [a, b, c, d, e, f] _ (List.mem_of_getElem? (i := 39) rfl))) ⟨by decide, rfl⟩ ?_
  refine ni_xLd (ni_ro [a, b, c, d, e, f] (753, ni_sLd 3 0 754) (ni_me85_8 [a, b, c, d, e, f] _ (List.mem_of_getElem? (i := 40) rfl))) rfl rfl ?_
  refine ni_xLd (ni_ro [a, b, c, d, e, f] (754, ni_sLd 0 5 756) (ni_me85_8 [a, b, c, d, e, f] _ (List.mem_of_getElem? (i := 41) rfl))) rfl rfl ?_
  refine ni_xP (g := ni_gPush (.int 4) 757) (ni_ro [a, b, c, d, e, f] (756, ni_sP (ni_gPush (.int 4) 757)) (ni_me85_8 [a, b, c, d, e, f] _ (List.mem_of_getElem? (i := 42) rfl))) rfl ?_
  refine ni_xP (g := ni_gI (fun x y => x + y) 758) (ni_ro [a, b, c, d, e, f] (757, ni_sP (ni_gI (fun x y => x + y) 758)) (ni_me85_8 [a, b, c, d, e, f] _ (List.mem_of_getElem? (i := 43) rfl))) rfl ?_
  refine ni_xSld (ni_ro [a, b, c, d, e, f] (758, ni_sSld [a, b, c, d, e, f] 759) (ni_me85_8 [a, b, c, d, e, f] _ (List.mem_of_getElem? (i := 44) rfl))) ⟨by decide, rfl⟩ ?_
  refine ni_xV (ni_ro [a, b, c, d, e, f] (759, ni_sV 116 4 18 762) (ni_me85_8 [a, b, c, d, e, f] _ (List.mem_of_getElem? (i := 45) rfl))) rfl rfl rfl (Nat.le_of_ble_eq_true rfl) (ni_ofO (ni_km116 [a, b, c, d, e, f] _ _ _ _)) ?_
  refine ni_xSt (ni_ro [a, b, c, d, e, f] (762, ni_sSt 0 7 764) (ni_me85_8 [a, b, c, d, e, f] _ (List.mem_of_getElem? (i := 46) rfl))) rfl rfl ?_
  refine ni_xLd (ni_ro [a, b, c, d, e, f] (764, ni_sLd 3 2 765) (ni_me85_8 [a, b, c, d, e, f] _ (List.mem_of_getElem? (i := 47) rfl))) rfl rfl ?_
  refine ni_xV (ni_ro [a, b, c, d, e, f] (765, ni_sV 167 0 18 768) (ni_me85_8 [a, b, c, d, e, f] _ (List.mem_of_getElem? (i := 48) rfl))) rfl rfl rfl (Nat.le_of_ble_eq_true rfl) (ni_ofO (ni_k167 [a, b, c, d, e, f])) ?_
  refine ni_xLd (ni_ro [a, b, c, d, e, f] (768, ni_sLd 0 6 770) (ni_me85_8 [a, b, c, d, e, f] _ (List.mem_of_getElem? (i := 49) rfl))) rfl rfl ?_
  refine ni_xIc true (ni_ro [a, b, c, d, e, f] (770, ni_sP (ni_gIc (fun x y => decide (x = y)) 775 773)) (ni_me85_8 [a, b, c, d, e, f] _ (List.mem_of_getElem? (i := 50) rfl))) rfl ?_
  refine ni_xLd (ni_ro [a, b, c, d, e, f] (775, ni_sLd 0 6 777) (ni_me85_8 [a, b, c, d, e, f] _ (List.mem_of_getElem? (i := 51) rfl))) rfl rfl ?_
  refine ni_xIf true (ni_ro [a, b, c, d, e, f] (777, ni_sP (ni_gIf (fun x => decide (¬ x = 0)) 792 780)) (ni_me85_8 [a, b, c, d, e, f] _ (List.mem_of_getElem? (i := 52) rfl))) rfl ?_
  refine ni_xP (g := ni_gGo 3317) (ni_ro [a, b, c, d, e, f] (792, ni_sP (ni_gGo 3317)) (ni_me85_8 [a, b, c, d, e, f] _ (List.mem_of_getElem? (i := 53) rfl))) rfl ?_
  refine ni_xInc (ni_ro [a, b, c, d, e, f] (3317, ni_sInc 5 (6) 3320) (ni_me85_52 [a, b, c, d, e, f] _ (List.mem_of_getElem? (i := 0) rfl))) rfl rfl ?_
  refine ni_xP (g := ni_gGo 28) (ni_ro [a, b, c, d, e, f] (3320, ni_sP (ni_gGo 28)) (ni_me85_52 [a, b, c, d, e, f] _ (List.mem_of_getElem? (i := 1) rfl))) rfl ?_
  refine ni_xLd (ni_ro [a, b, c, d, e, f] (28, ni_sLd 0 5 30) (ni_me85_1 [a, b, c, d, e, f] _ (List.mem_of_getElem? (i := 0) rfl))) rfl rfl ?_
  refine ni_xLd (ni_ro [a, b, c, d, e, f] (30, ni_sLd 3 0 31) (ni_me85_1 [a, b, c, d, e, f] _ (List.mem_of_getElem? (i := 1) rfl))) rfl rfl ?_
  refine ni_xSln (ni_ro [a, b, c, d, e, f] (31, ni_sSln [a, b, c, d, e, f] 32) (ni_me85_1 [a, b, c, d, e, f] _ (List.mem_of_getElem? (i := 2) rfl))) rfl ?_
  refine ni_xP (g := ni_gPush (.int 6) 34) (ni_ro [a, b, c, d, e, f] (32, ni_sP (ni_gPush (.int 6) 34)) (ni_me85_1 [a, b, c, d, e, f] _ (List.mem_of_getElem? (i := 3) rfl))) rfl ?_
  refine ni_xP (g := ni_gI (fun x y => x - y) 35) (ni_ro [a, b, c, d, e, f] (34, ni_sP (ni_gI (fun x y => x - y) 35)) (ni_me85_1 [a, b, c, d, e, f] _ (List.mem_of_getElem? (i := 4) rfl))) rfl ?_
  refine ni_xIc true (ni_ro [a, b, c, d, e, f] (35, ni_sP (ni_gIc (fun x y => decide (y < x)) 3323 38)) (ni_me85_1 [a, b, c, d, e, f] _ (List.mem_of_getElem? (i := 5) rfl))) (show decide (Int32.ofNat 6 - 6 < 0 + 6) = true from by decide) ?_
  refine ni_xP (g := ni_gPush (.int 1) 3324) (ni_ro [a, b, c, d, e, f] (3323, ni_sP (ni_gPush (.int 1) 3324)) (ni_me85_52 [a, b, c, d, e, f] _ (List.mem_of_getElem? (i := 2) rfl))) rfl ?_
  exact ni_xR (ni_ro [a, b, c, d, e, f] (3324, ni_sR (some .boolean)) (ni_me85_52 [a, b, c, d, e, f] _ (List.mem_of_getElem? (i := 3) rfl))) rfl
theorem ni_ca7 (a b c d e f : Int32) : ni_G [a, b, c, d, e, f] 9 85 795 ni_ls0 [] (ni_P0, 0) (.inl (some (.int 1)), (ni_P1, 1)) := by
  refine ni_xLd (ni_ro [a, b, c, d, e, f] (795, ni_sLd 3 1 796) (ni_me85_9 [a, b, c, d, e, f] _ (List.mem_of_getElem? (i := 0) rfl))) rfl rfl ?_
  refine ni_xLd (ni_ro [a, b, c, d, e, f] (796, ni_sLd 3 0 797) (ni_me85_9 [a, b, c, d, e, f] _ (List.mem_of_getElem? (i := 1) rfl))) rfl rfl ?_
  refine ni_xLd (ni_ro [a, b, c, d, e, f] (797, ni_sLd 0 5 799) (ni_me85_9 [a, b, c, d, e, f] _ (List.mem_of_getElem? (i := 2) rfl))) rfl rfl ?_
  refine ni_xP (g := ni_gPush (.int 1) 800) (ni_ro [a, b, c, d, e, f] (799, ni_sP (ni_gPush (.int 1) 800)) (ni_me85_9 [a, b, c, d, e, f] _ (List.mem_of_getElem? (i := 3) rfl))) rfl ?_
  refine ni_xP (g := ni_gI (fun x y => x + y) 801) (ni_ro [a, b, c, d, e, f] (800, ni_sP (ni_gI (fun x y => x + y) 801)) (ni_me85_9 [a, b, c, d, e, f] _ (List.mem_of_getElem? (i := 4) rfl))) rfl ?_
  refine ni_xSld (ni_ro [a, b, c, d, e, f] (801, ni_sSld [a, b, c, d, e, f] 802) (ni_me85_9 [a, b, c, d, e, f] _ (List.mem_of_getElem? (i := 5) rfl))) ⟨by decide, rfl⟩ ?_
  refine ni_xLd (ni_ro [a, b, c, d, e, f] (802, ni_sLd 3 3 803) (ni_me85_9 [a, b, c, d, e, f] _ (List.mem_of_getElem? (i := 6) rfl))) rfl rfl ?_
  refine ni_xC (ni_ro [a, b, c, d, e, f] (803, ni_sC 78 3 806) (ni_me85_9 [a, b, c, d, e, f] _ (List.mem_of_getElem? (i := 7) rfl))) (Nat.le_of_ble_eq_true rfl) rfl rfl (Nat.le_of_ble_eq_true rfl) (ni_ofO (ni_kw78 [a, b, c, d, e, f] _)) ?_
  refine ni_xSt (ni_ro [a, b, c, d, e, f] (806, ni_sSt 0 6 808) (ni_me85_9 [a, b, c, d, e, f] _ (List.mem_of_getElem? (i := 8) rfl))) rfl rfl ?_
  refine ni_xLd (ni_ro [a, b, c, d, e, f] (808, ni_sLd 3 2 809) (ni_me85_9 [a, b, c, d, e, f] _ (List.mem_of_getElem? (i := 9) rfl))) rfl rfl ?_
  refine ni_xLd (ni_ro [a, b, c, d, e, f] (809, ni_sLd 3 0 810) (ni_me85_9 [a, b, c, d, e, f] _ (List.mem_of_getElem? (i := 10) rfl))) rfl rfl ?_
  refine ni_xLd (ni_ro [a, b, c, d, e, f] (810, ni_sLd 0 5 812) (ni_me85_9 [a, b, c, d, e, f] _ (List.mem_of_getElem? (i := 11) rfl))) rfl rfl ?_
  refine ni_xP (g := ni_gPush (.int 1) 813) (ni_ro [a, b, c, d, e, f] (812, ni_sP (ni_gPush (.int 1) 813)) (ni_me85_9 [a, b, c, d, e, f] _ (List.mem_of_getElem? (i := 12) rfl))) rfl ?_
  refine ni_xP (g := ni_gI (fun x y => x + y) 814) (ni_ro [a, b, c, d, e, f] (813, ni_sP (ni_gI (fun x y => x + y) 814)) (ni_me85_9 [a, b, c, d, e, f] _ (List.mem_of_getElem? (i := 13) rfl))) rfl ?_
  refine ni_xSld (ni_ro [a, b, c, d, e, f] (814, ni_sSld [a, b, c, d, e, f] 815) (ni_me85_9 [a, b, c, d, e, f] _ (List.mem_of_getElem? (i := 14) rfl))) ⟨by decide, rfl⟩ ?_
  refine ni_xV (ni_ro [a, b, c, d, e, f] (815, ni_sV 124 1 18 818) (ni_me85_9 [a, b, c, d, e, f] _ (List.mem_of_getElem? (i := 15) rfl))) rfl rfl rfl (Nat.le_of_ble_eq_true rfl) (ni_ofO (ni_km124 [a, b, c, d, e, f] _)) ?_
  refine ni_xSt (ni_ro [a, b, c, d, e, f] (818, ni_sSt 0 7 820) (ni_me85_9 [a, b, c, d, e, f] _ (List.mem_of_getElem? (i := 16) rfl))) rfl rfl ?_
  refine ni_xLd (ni_ro [a, b, c, d, e, f] (820, ni_sLd 3 2 821) (ni_me85_9 [a, b, c, d, e, f] _ (List.mem_of_getElem? (i := 17) rfl))) rfl rfl ?_
  refine ni_xV (ni_ro [a, b, c, d, e, f] (821, ni_sV 167 0 18 824) (ni_me85_9 [a, b, c, d, e, f] _ (List.mem_of_getElem? (i := 18) rfl))) rfl rfl rfl (Nat.le_of_ble_eq_true rfl) (ni_ofO (ni_k167 [a, b, c, d, e, f])) ?_
  refine ni_xLd (ni_ro [a, b, c, d, e, f] (824, ni_sLd 0 6 826) (ni_me85_9 [a, b, c, d, e, f] _ (List.mem_of_getElem? (i := 19) rfl))) rfl rfl ?_
  refine ni_xIc true (ni_ro [a, b, c, d, e, f] (826, ni_sP (ni_gIc (fun x y => decide (x = y)) 831 829)) (ni_me85_9 [a, b, c, d, e, f] _ (List.mem_of_getElem? (i := 20) rfl))) rfl ?_
  refine ni_xLd (ni_ro [a, b, c, d, e, f] (831, ni_sLd 0 6 833) (ni_me85_9 [a, b, c, d, e, f] _ (List.mem_of_getElem? (i := 21) rfl))) rfl rfl ?_
  refine ni_xIf true (ni_ro [a, b, c, d, e, f] (833, ni_sP (ni_gIf (fun x => decide (¬ x = 0)) 848 836)) (ni_me85_9 [a, b, c, d, e, f] _ (List.mem_of_getElem? (i := 22) rfl))) rfl ?_
  refine ni_xP (g := ni_gGo 3317) (ni_ro [a, b, c, d, e, f] (848, ni_sP (ni_gGo 3317)) (ni_me85_9 [a, b, c, d, e, f] _ (List.mem_of_getElem? (i := 23) rfl))) rfl ?_
  refine ni_xInc (ni_ro [a, b, c, d, e, f] (3317, ni_sInc 5 (6) 3320) (ni_me85_52 [a, b, c, d, e, f] _ (List.mem_of_getElem? (i := 0) rfl))) rfl rfl ?_
  refine ni_xP (g := ni_gGo 28) (ni_ro [a, b, c, d, e, f] (3320, ni_sP (ni_gGo 28)) (ni_me85_52 [a, b, c, d, e, f] _ (List.mem_of_getElem? (i := 1) rfl))) rfl ?_
  refine ni_xLd (ni_ro [a, b, c, d, e, f] (28, ni_sLd 0 5 30) (ni_me85_1 [a, b, c, d, e, f] _ (List.mem_of_getElem? (i := 0) rfl))) rfl rfl ?_
  refine ni_xLd (ni_ro [a, b, c, d, e, f] (30, ni_sLd 3 0 31) (ni_me85_1 [a, b, c, d, e, f] _ (List.mem_of_getElem? (i := 1) rfl))) rfl rfl ?_
  refine ni_xSln (ni_ro [a, b, c, d, e, f] (31, ni_sSln [a, b, c, d, e, f] 32) (ni_me85_1 [a, b, c, d, e, f] _ (List.mem_of_getElem? (i := 2) rfl))) rfl ?_
  refine ni_xP (g := ni_gPush (.int 6) 34) (ni_ro [a, b, c, d, e, f] (32, ni_sP (ni_gPush (.int 6) 34)) (ni_me85_1 [a, b, c, d, e, f] _ (List.mem_of_getElem? (i := 3) rfl))) rfl ?_
  refine ni_xP (g := ni_gI (fun x y => x - y) 35) (ni_ro [a, b, c, d, e, f] (34, ni_sP (ni_gI (fun x y => x - y) 35)) (ni_me85_1 [a, b, c, d, e, f] _ (List.mem_of_getElem? (i := 4) rfl))) rfl ?_
  refine ni_xIc true (ni_ro [a, b, c, d, e, f] (35, ni_sP (ni_gIc (fun x y => decide (y < x)) 3323 38)) (ni_me85_1 [a, b, c, d, e, f] _ (List.mem_of_getElem? (i := 5) rfl))) (show decide (Int32.ofNat 6 - 6 < 0 + 6) = true from by decide) ?_
  refine ni_xP (g := ni_gPush (.int 1) 3324) (ni_ro [a, b, c, d, e, f] (3323, ni_sP (ni_gPush (.int 1) 3324)) (ni_me85_52 [a, b, c, d, e, f] _ (List.mem_of_getElem? (i := 2) rfl))) rfl ?_
  exact ni_xR (ni_ro [a, b, c, d, e, f] (3324, ni_sR (some .boolean)) (ni_me85_52 [a, b, c, d, e, f] _ (List.mem_of_getElem? (i := 3) rfl))) rfl
theorem ni_ca8 (a b c d e f : Int32) : ni_G [a, b, c, d, e, f] 9 85 851 ni_ls0 [] (ni_P0, 0) (.inl (some (.int 1)), (ni_P1, 1)) := by
  by_cases hc : c = 0
  · skip
    by_cases hf : f = 0
    · skip
      refine ni_xLd (ni_ro [a, b, c, d, e, f] (851, ni_sLd 3 1 852) (ni_me85_10 [a, b, c, d, e, f] _ (List.mem_of_getElem? (i := 0) rfl))) rfl rfl ?_
      refine ni_xLd (ni_ro [a, b, c, d, e, f] (852, ni_sLd 3 0 853) (ni_me85_10 [a, b, c, d, e, f] _ (List.mem_of_getElem? (i := 1) rfl))) rfl rfl ?_
      refine ni_xLd (ni_ro [a, b, c, d, e, f] (853, ni_sLd 0 5 855) (ni_me85_10 [a, b, c, d, e, f] _ (List.mem_of_getElem? (i := 2) rfl))) rfl rfl ?_
      refine ni_xP (g := ni_gPush (.int 1) 856) (ni_ro [a, b, c, d, e, f] (855, ni_sP (ni_gPush (.int 1) 856)) (ni_me85_10 [a, b, c, d, e, f] _ (List.mem_of_getElem? (i := 3) rfl))) rfl ?_
      refine ni_xP (g := ni_gI (fun x y => x + y) 857) (ni_ro [a, b, c, d, e, f] (856, ni_sP (ni_gI (fun x y => x + y) 857)) (ni_me85_10 [a, b, c, d, e, f] _ (List.mem_of_getElem? (i := 4) rfl))) rfl ?_
      refine ni_xSld (ni_ro [a, b, c, d, e, f] (857, ni_sSld [a, b, c, d, e, f] 858) (ni_me85_10 [a, b, c, d, e, f] _ (List.mem_of_getElem? (i := 5) rfl))) ⟨by decide, rfl⟩ ?_
      refine ni_xLd (ni_ro [a, b, c, d, e, f] (858, ni_sLd 3 0 859) (ni_me85_10 [a, b, c, d, e, f] _ (List.mem_of_getElem? (i := 6) rfl))) rfl rfl ?_
      refine ni_xLd (ni_ro [a, b, c, d, e, f] (859, ni_sLd 0 5 861) (ni_me85_10 [a, b, c, d, e, f] _ (List.mem_of_getElem? (i := 7) rfl))) rfl rfl ?_
      refine ni_xP (g := ni_gPush (.int 2) 862) (ni_ro [a, b, c, d, e, f] (861, ni_sP (ni_gPush (.int 2) 862)) (ni_me85_10 [a, b, c, d, e, f] _ (List.mem_of_getElem? (i := 8) rfl))) rfl ?_
      refine ni_xP (g := ni_gI (fun x y => x + y) 863) (ni_ro [a, b, c, d, e, f] (862, ni_sP (ni_gI (fun x y => x + y) 863)) (ni_me85_10 [a, b, c, d, e, f] _ (List.mem_of_getElem? (i := 9) rfl))) rfl ?_
      refine ni_xSld (ni_ro [a, b, c, d, e, f] (863, ni_sSld [a, b, c, d, e, f] 864) (ni_me85_10 [a, b, c, d, e, f] _ (List.mem_of_getElem? (i := 10) rfl))) ⟨by decide, rfl⟩ ?_
      refine ni_xIf true (ni_ro [a, b, c, d, e, f] (864, ni_sP (ni_gIf (fun x => decide (x = 0)) 871 867)) (ni_me85_10 [a, b, c, d, e, f] _ (List.mem_of_getElem? (i := 11) rfl))) (decide_eq_true hc) ?_
      refine ni_xP (g := ni_gPush (.int 0) 872) (ni_ro [a, b, c, d, e, f] (871, ni_sP (ni_gPush (.int 0) 872)) (ni_me85_10 [a, b, c, d, e, f] _ (List.mem_of_getElem? (i := 14) rfl))) rfl ?_
      refine ni_xLd (ni_ro [a, b, c, d, e, f] (872, ni_sLd 3 0 873) (ni_me85_10 [a, b, c, d, e, f] _ (List.mem_of_getElem? (i := 15) rfl))) rfl rfl ?_
      refine ni_xLd (ni_ro [a, b, c, d, e, f] (873, ni_sLd 0 5 875) (ni_me85_10 [a, b, c, d, e, f] _ (List.mem_of_getElem? (i := 16) rfl))) rfl rfl ?_
      refine ni_xP (g := ni_gPush (.int 3) 876) (ni_ro [a, b, c, d, e, f] (875, ni_sP (ni_gPush (.int 3) 876)) (ni_me85_10 [a, b, c, d, e, f] _ (List.mem_of_getElem? (i := 17) rfl))) rfl ?_
      refine ni_xP (g := ni_gI (fun x y => x + y) 877) (ni_ro [a, b, c, d, e, f] (876, ni_sP (ni_gI (fun x y => x + y) 877)) (ni_me85_10 [a, b, c, d, e, f] _ (List.mem_of_getElem? (i := 18) rfl))) rfl ?_
      refine ni_xSld (ni_ro [a, b, c, d, e, f] (877, ni_sSld [a, b, c, d, e, f] 878) (ni_me85_10 [a, b, c, d, e, f] _ (List.mem_of_getElem? (i := 19) rfl))) ⟨by decide, rfl⟩ ?_
      refine ni_xLd (ni_ro [a, b, c, d, e, f] (878, ni_sLd 3 0 879) (ni_me85_10 [a, b, c, d, e, f] _ (List.mem_of_getElem? (i := 20) rfl))) rfl rfl ?_
      refine ni_xLd (ni_ro [a, b, c, d, e, f] (879, ni_sLd 0 5 881) (ni_me85_10 [a, b, c, d, e, f] _ (List.mem_of_getElem? (i := 21) rfl))) rfl rfl ?_
      refine ni_xP (g := ni_gPush (.int 4) 882) (ni_ro [a, b, c, d, e, f] (881, ni_sP (ni_gPush (.int 4) 882)) (ni_me85_10 [a, b, c, d, e, f] _ (List.mem_of_getElem? (i := 22) rfl))) rfl ?_
      refine ni_xP (g := ni_gI (fun x y => x + y) 883) (ni_ro [a, b, c, d, e, f] (882, ni_sP (ni_gI (fun x y => x + y) 883)) (ni_me85_10 [a, b, c, d, e, f] _ (List.mem_of_getElem? (i := 23) rfl))) rfl ?_
      refine ni_xSld (ni_ro [a, b, c, d, e, f] (883, ni_sSld [a, b, c, d, e, f] 884) (ni_me85_10 [a, b, c, d, e, f] _ (List.mem_of_getElem? (i := 24) rfl))) ⟨by decide, rfl⟩ ?_
      refine ni_xLd (ni_ro [a, b, c, d, e, f] (884, ni_sLd 3 0 885) (ni_me85_10 [a, b, c, d, e, f] _ (List.mem_of_getElem? (i := 25) rfl))) rfl rfl ?_
      refine ni_xLd (ni_ro [a, b, c, d, e, f] (885, ni_sLd 0 5 887) (ni_me85_10 [a, b, c, d, e, f] _ (List.mem_of_getElem? (i := 26) rfl))) rfl rfl ?_
      refine ni_xP (g := ni_gPush (.int 5) 888) (ni_ro [a, b, c, d, e, f] (887, ni_sP (ni_gPush (.int 5) 888)) (ni_me85_10 [a, b, c, d, e, f] _ (List.mem_of_getElem? (i := 27) rfl))) rfl ?_
      refine ni_xP (g := ni_gI (fun x y => x + y) 889) (ni_ro [a, b, c, d, e, f] (888, ni_sP (ni_gI (fun x y => x + y) 889)) (ni_me85_10 [a, b, c, d, e, f] _ (List.mem_of_getElem? (i := 28) rfl))) rfl ?_
      refine ni_xSld (ni_ro [a, b, c, d, e, f] (889, ni_sSld [a, b, c, d, e, f] 890) (ni_me85_10 [a, b, c, d, e, f] _ (List.mem_of_getElem? (i := 29) rfl))) ⟨by decide, rfl⟩ ?_
      refine ni_xIf true (ni_ro [a, b, c, d, e, f] (890, ni_sP (ni_gIf (fun x => decide (x = 0)) 897 893)) (ni_me85_10 [a, b, c, d, e, f] _ (List.mem_of_getElem? (i := 30) rfl))) (decide_eq_true hf) ?_
      refine ni_xP (g := ni_gPush (.int 0) 898) (ni_ro [a, b, c, d, e, f] (897, ni_sP (ni_gPush (.int 0) 898)) (ni_me85_10 [a, b, c, d, e, f] _ (List.mem_of_getElem? (i := 33) rfl))) rfl ?_
      refine ni_xLd (ni_ro [a, b, c, d, e, f] (898, ni_sLd 3 3 899) (ni_me85_10 [a, b, c, d, e, f] _ (List.mem_of_getElem? (i := 34) rfl))) rfl rfl ?_
      refine ni_xC (ni_ro [a, b, c, d, e, f] (899, ni_sC 98 7 902) (ni_me85_10 [a, b, c, d, e, f] _ (List.mem_of_getElem? (i := 35) rfl))) (Nat.le_of_ble_eq_true rfl) rfl rfl (Nat.le_of_ble_eq_true rfl) (ni_ofO (ni_kw98 [a, b, c, d, e, f] _ _ _ _ _)) ?_
      refine ni_xSt (ni_ro [a, b, c, d, e, f] (902, ni_sSt 0 6 904) (ni_me85_10 [a, b, c, d, e, f] _ (List.mem_of_getElem? (i := 36) rfl))) rfl rfl ?_
      refine ni_xLd (ni_ro [a, b, c, d, e, f] (904, ni_sLd 3 2 905) (ni_me85_10 [a, b, c, d, e, f] _ (List.mem_of_getElem? (i := 37) rfl))) rfl rfl ?_
      refine ni_xLd (ni_ro [a, b, c, d, e, f] (905, ni_sLd 3 0 906) (ni_me85_10 [a, b, c, d, e, f] _ (List.mem_of_getElem? (i := 38) rfl))) rfl rfl ?_
      refine ni_xLd (ni_ro [a, b, c, d, e, f] (906, ni_sLd 0 5 908) (ni_me85_10 [a, b, c, d, e, f] _ (List.mem_of_getElem? (i := 39) rfl))) rfl rfl ?_
      refine ni_xP (g := ni_gPush (.int 1) 909) (ni_ro [a, b, c, d, e, f] (908, ni_sP (ni_gPush (.int 1) 909)) (ni_me85_10 [a, b, c, d, e, f] _ (List.mem_of_getElem? (i := 40) rfl))) rfl ?_
      refine ni_xP (g := ni_gI (fun x y => x + y) 910) (ni_ro [a, b, c, d, e, f] (909, ni_sP (ni_gI (fun x y => x + y) 910)) (ni_me85_10 [a, b, c, d, e, f] _ (List.mem_of_getElem? (i := 41) rfl))) rfl ?_
      refine ni_xSld (ni_ro [a, b, c, d, e, f] (910, ni_sSld [a, b, c, d, e, f] 911) (ni_me85_10 [a, b, c, d, e, f] _ (List.mem_of_getElem? (i := 42) rfl))) ⟨by decide, rfl⟩ ?_
      refine ni_xLd (ni_ro [a, b, c, d, e, f] (911, ni_sLd 3 0 912) (ni_me85_10 [a, b, c, d, e, f] _ (List.mem_of_getElem? (i := 43) rfl))) rfl rfl ?_
      refine ni_xLd (ni_ro [a, b, c, d, e, f] (912, ni_sLd 0 5 914) (ni_me85_10 [a, b, c, d, e, f] _ (List.mem_of_getElem? (i := 44) rfl))) rfl rfl ?_
      refine ni_xP (g := ni_gPush (.int 2) 915) (ni_ro [a, b, c, d, e, f] (914, ni_sP (ni_gPush (.int 2) 915)) (ni_me85_10 [a, b, c, d, e, f] _ (List.mem_of_getElem? (i := 45) rfl))) rfl ?_
      refine ni_xP (g := ni_gI (fun x y => x + y) 916) (ni_ro [a, b, c, d, e, f] (915, ni_sP (ni_gI (fun x y => x + y) 916)) (ni_me85_10 [a, b, c, d, e, f] _ (List.mem_of_getElem? (i := 46) rfl))) rfl ?_
      refine ni_xSld (ni_ro [a, b, c, d, e, f] (916, ni_sSld [a, b, c, d, e, f] 917) (ni_me85_10 [a, b, c, d, e, f] _ (List.mem_of_getElem? (i := 47) rfl))) ⟨by decide, rfl⟩ ?_
      refine ni_xIf true (ni_ro [a, b, c, d, e, f] (917, ni_sP (ni_gIf (fun x => decide (x = 0)) 924 920)) (ni_me85_10 [a, b, c, d, e, f] _ (List.mem_of_getElem? (i := 48) rfl))) (decide_eq_true hc) ?_
      refine ni_xP (g := ni_gPush (.int 0) 925) (ni_ro [a, b, c, d, e, f] (924, ni_sP (ni_gPush (.int 0) 925)) (ni_me85_10 [a, b, c, d, e, f] _ (List.mem_of_getElem? (i := 51) rfl))) rfl ?_
      refine ni_xLd (ni_ro [a, b, c, d, e, f] (925, ni_sLd 3 0 926) (ni_me85_10 [a, b, c, d, e, f] _ (List.mem_of_getElem? (i := 52) rfl))) rfl rfl ?_
      refine ni_xLd (ni_ro [a, b, c, d, e, f] (926, ni_sLd 0 5 928) (ni_me85_10 [a, b, c, d, e, f] _ (List.mem_of_getElem? (i := 53) rfl))) rfl rfl ?_
      refine ni_xP (g := ni_gPush (.int 3) 929) (ni_ro [a, b, c, d, e, f] (928, ni_sP (ni_gPush (.int 3) 929)) (ni_me85_10 [a, b, c, d, e, f] _ (List.mem_of_getElem? (i := 54) rfl))) rfl ?_
      refine ni_xP (g := ni_gI (fun x y => x + y) 930) (ni_ro [a, b, c, d, e, f] (929, ni_sP (ni_gI (fun x y => x + y) 930)) (ni_me85_10 [a, b, c, d, e, f] _ (List.mem_of_getElem? (i := 55) rfl))) rfl ?_
      refine ni_xSld (ni_ro [a, b, c, d, e, f] (930, ni_sSld [a, b, c, d, e, f] 931) (ni_me85_10 [a, b, c, d, e, f] _ (List.mem_of_getElem? (i := 56) rfl))) ⟨by decide, rfl⟩ ?_
      refine ni_xLd (ni_ro [a, b, c, d, e, f] (931, ni_sLd 3 0 932) (ni_me85_10 [a, b, c, d, e, f] _ (List.mem_of_getElem? (i := 57) rfl))) rfl rfl ?_
      refine ni_xLd (ni_ro [a, b, c, d, e, f] (932, ni_sLd 0 5 934) (ni_me85_10 [a, b, c, d, e, f] _ (List.mem_of_getElem? (i := 58) rfl))) rfl rfl ?_
      refine ni_xP (g := ni_gPush (.int 4) 935) (ni_ro [a, b, c, d, e, f] (934, ni_sP (ni_gPush (.int 4) 935)) (ni_me85_10 [a, b, c, d, e, f] _ (List.mem_of_getElem? (i := 59) rfl))) rfl ?_
      refine ni_xP (g := ni_gI (fun x y => x + y) 936) (ni_ro [a, b, c, d, e, f] (935, ni_sP (ni_gI (fun x y => x + y) 936)) (ni_me85_10 [a, b, c, d, e, f] _ (List.mem_of_getElem? (i := 60) rfl))) rfl ?_
      refine ni_xSld (ni_ro [a, b, c, d, e, f] (936, ni_sSld [a, b, c, d, e, f] 937) (ni_me85_10 [a, b, c, d, e, f] _ (List.mem_of_getElem? (i := 61) rfl))) ⟨by decide, rfl⟩ ?_
      refine ni_xLd (ni_ro [a, b, c, d, e, f] (937, ni_sLd 3 0 938) (ni_me85_10 [a, b, c, d, e, f] _ (List.mem_of_getElem? (i := 62) rfl))) rfl rfl ?_
      refine ni_xLd (ni_ro [a, b, c, d, e, f] (938, ni_sLd 0 5 940) (ni_me85_10 [a, b, c, d, e, f] _ (List.mem_of_getElem? (i := 63) rfl))) rfl rfl ?_
      refine ni_xP (g := ni_gPush (.int 5) 941) (ni_ro [a, b, c, d, e, f] (940, ni_sP (ni_gPush (.int 5) 941)) (ni_me85_10 [a, b, c, d, e, f] _ (List.mem_of_getElem? (i := 64) rfl))) rfl ?_
      refine ni_xP (g := ni_gI (fun x y => x + y) 942) (ni_ro [a, b, c, d, e, f] (941, ni_sP (ni_gI (fun x y => x + y) 942)) (ni_me85_10 [a, b, c, d, e, f] _ (List.mem_of_getElem? (i := 65) rfl))) rfl ?_
      refine ni_xSld (ni_ro [a, b, c, d, e, f] (942, ni_sSld [a, b, c, d, e, f] 943) (ni_me85_10 [a, b, c, d, e, f] _ (List.mem_of_getElem? (i := 66) rfl))) ⟨by decide, rfl⟩ ?_
      refine ni_xIf true (ni_ro [a, b, c, d, e, f] (943, ni_sP (ni_gIf (fun x => decide (x = 0)) 950 946)) (ni_me85_10 [a, b, c, d, e, f] _ (List.mem_of_getElem? (i := 67) rfl))) (decide_eq_true hf) ?_
      refine ni_xP (g := ni_gPush (.int 0) 951) (ni_ro [a, b, c, d, e, f] (950, ni_sP (ni_gPush (.int 0) 951)) (ni_me85_10 [a, b, c, d, e, f] _ (List.mem_of_getElem? (i := 70) rfl))) rfl ?_
      refine ni_xV (ni_ro [a, b, c, d, e, f] (951, ni_sV 157 5 18 954) (ni_me85_10 [a, b, c, d, e, f] _ (List.mem_of_getElem? (i := 71) rfl))) rfl rfl rfl (Nat.le_of_ble_eq_true rfl) (ni_ofO (ni_km157 [a, b, c, d, e, f] _ _ _ _ _)) ?_
      refine ni_xSt (ni_ro [a, b, c, d, e, f] (954, ni_sSt 0 7 956) (ni_me85_10 [a, b, c, d, e, f] _ (List.mem_of_getElem? (i := 72) rfl))) rfl rfl ?_
      refine ni_xLd (ni_ro [a, b, c, d, e, f] (956, ni_sLd 3 2 957) (ni_me85_10 [a, b, c, d, e, f] _ (List.mem_of_getElem? (i := 73) rfl))) rfl rfl ?_
      refine ni_xV (ni_ro [a, b, c, d, e, f] (957, ni_sV 167 0 18 960) (ni_me85_10 [a, b, c, d, e, f] _ (List.mem_of_getElem? (i := 74) rfl))) rfl rfl rfl (Nat.le_of_ble_eq_true rfl) (ni_ofO (ni_k167 [a, b, c, d, e, f])) ?_
      refine ni_xLd (ni_ro [a, b, c, d, e, f] (960, ni_sLd 0 6 962) (ni_me85_10 [a, b, c, d, e, f] _ (List.mem_of_getElem? (i := 75) rfl))) rfl rfl ?_
      refine ni_xIc true (ni_ro [a, b, c, d, e, f] (962, ni_sP (ni_gIc (fun x y => decide (x = y)) 967 965)) (ni_me85_10 [a, b, c, d, e, f] _ (List.mem_of_getElem? (i := 76) rfl))) rfl ?_
      refine ni_xLd (ni_ro [a, b, c, d, e, f] (967, ni_sLd 0 6 969) (ni_me85_10 [a, b, c, d, e, f] _ (List.mem_of_getElem? (i := 77) rfl))) rfl rfl ?_
      refine ni_xIf true (ni_ro [a, b, c, d, e, f] (969, ni_sP (ni_gIf (fun x => decide (¬ x = 0)) 984 972)) (ni_me85_10 [a, b, c, d, e, f] _ (List.mem_of_getElem? (i := 78) rfl))) rfl ?_
      refine ni_xP (g := ni_gGo 3317) (ni_ro [a, b, c, d, e, f] (984, ni_sP (ni_gGo 3317)) (ni_me85_10 [a, b, c, d, e, f] _ (List.mem_of_getElem? (i := 79) rfl))) rfl ?_
      refine ni_xInc (ni_ro [a, b, c, d, e, f] (3317, ni_sInc 5 (6) 3320) (ni_me85_52 [a, b, c, d, e, f] _ (List.mem_of_getElem? (i := 0) rfl))) rfl rfl ?_
      refine ni_xP (g := ni_gGo 28) (ni_ro [a, b, c, d, e, f] (3320, ni_sP (ni_gGo 28)) (ni_me85_52 [a, b, c, d, e, f] _ (List.mem_of_getElem? (i := 1) rfl))) rfl ?_
      refine ni_xLd (ni_ro [a, b, c, d, e, f] (28, ni_sLd 0 5 30) (ni_me85_1 [a, b, c, d, e, f] _ (List.mem_of_getElem? (i := 0) rfl))) rfl rfl ?_
      refine ni_xLd (ni_ro [a, b, c, d, e, f] (30, ni_sLd 3 0 31) (ni_me85_1 [a, b, c, d, e, f] _ (List.mem_of_getElem? (i := 1) rfl))) rfl rfl ?_
      refine ni_xSln (ni_ro [a, b, c, d, e, f] (31, ni_sSln [a, b, c, d, e, f] 32) (ni_me85_1 [a, b, c, d, e, f] _ (List.mem_of_getElem? (i := 2) rfl))) rfl ?_
      refine ni_xP (g := ni_gPush (.int 6) 34) (ni_ro [a, b, c, d, e, f] (32, ni_sP (ni_gPush (.int 6) 34)) (ni_me85_1 [a, b, c, d, e, f] _ (List.mem_of_getElem? (i := 3) rfl))) rfl ?_
      refine ni_xP (g := ni_gI (fun x y => x - y) 35) (ni_ro [a, b, c, d, e, f] (34, ni_sP (ni_gI (fun x y => x - y) 35)) (ni_me85_1 [a, b, c, d, e, f] _ (List.mem_of_getElem? (i := 4) rfl))) rfl ?_
      refine ni_xIc true (ni_ro [a, b, c, d, e, f] (35, ni_sP (ni_gIc (fun x y => decide (y < x)) 3323 38)) (ni_me85_1 [a, b, c, d, e, f] _ (List.mem_of_getElem? (i := 5) rfl))) (show decide (Int32.ofNat 6 - 6 < 0 + 6) = true from by decide) ?_
      refine ni_xP (g := ni_gPush (.int 1) 3324) (ni_ro [a, b, c, d, e, f] (3323, ni_sP (ni_gPush (.int 1) 3324)) (ni_me85_52 [a, b, c, d, e, f] _ (List.mem_of_getElem? (i := 2) rfl))) rfl ?_
      exact ni_xR (ni_ro [a, b, c, d, e, f] (3324, ni_sR (some .boolean)) (ni_me85_52 [a, b, c, d, e, f] _ (List.mem_of_getElem? (i := 3) rfl))) rfl
    · skip
      refine ni_xLd (ni_ro [a, b, c, d, e, f] (851, ni_sLd 3 1 852) (ni_me85_10 [a, b, c, d, e, f] _ (List.mem_of_getElem? (i := 0) rfl))) rfl rfl ?_
      refine ni_xLd (ni_ro [a, b, c, d, e, f] (852, ni_sLd 3 0 853) (ni_me85_10 [a, b, c, d, e, f] _ (List.mem_of_getElem? (i := 1) rfl))) rfl rfl ?_
      refine ni_xLd (ni_ro [a, b, c, d, e, f] (853, ni_sLd 0 5 855) (ni_me85_10 [a, b, c, d, e, f] _ (List.mem_of_getElem? (i := 2) rfl))) rfl rfl ?_
      refine ni_xP (g := ni_gPush (.int 1) 856) (ni_ro [a, b, c, d, e, f] (855, ni_sP (ni_gPush (.int 1) 856)) (ni_me85_10 [a, b, c, d, e, f] _ (List.mem_of_getElem? (i := 3) rfl))) rfl ?_
      refine ni_xP (g := ni_gI (fun x y => x + y) 857) (ni_ro [a, b, c, d, e, f] (856, ni_sP (ni_gI (fun x y => x + y) 857)) (ni_me85_10 [a, b, c, d, e, f] _ (List.mem_of_getElem? (i := 4) rfl))) rfl ?_
      refine ni_xSld (ni_ro [a, b, c, d, e, f] (857, ni_sSld [a, b, c, d, e, f] 858) (ni_me85_10 [a, b, c, d, e, f] _ (List.mem_of_getElem? (i := 5) rfl))) ⟨by decide, rfl⟩ ?_
      refine ni_xLd (ni_ro [a, b, c, d, e, f] (858, ni_sLd 3 0 859) (ni_me85_10 [a, b, c, d, e, f] _ (List.mem_of_getElem? (i := 6) rfl))) rfl rfl ?_
      refine ni_xLd (ni_ro [a, b, c, d, e, f] (859, ni_sLd 0 5 861) (ni_me85_10 [a, b, c, d, e, f] _ (List.mem_of_getElem? (i := 7) rfl))) rfl rfl ?_
      refine ni_xP (g := ni_gPush (.int 2) 862) (ni_ro [a, b, c, d, e, f] (861, ni_sP (ni_gPush (.int 2) 862)) (ni_me85_10 [a, b, c, d, e, f] _ (List.mem_of_getElem? (i := 8) rfl))) rfl ?_
      refine ni_xP (g := ni_gI (fun x y => x + y) 863) (ni_ro [a, b, c, d, e, f] (862, ni_sP (ni_gI (fun x y => x + y) 863)) (ni_me85_10 [a, b, c, d, e, f] _ (List.mem_of_getElem? (i := 9) rfl))) rfl ?_
      refine ni_xSld (ni_ro [a, b, c, d, e, f] (863, ni_sSld [a, b, c, d, e, f] 864) (ni_me85_10 [a, b, c, d, e, f] _ (List.mem_of_getElem? (i := 10) rfl))) ⟨by decide, rfl⟩ ?_
      refine ni_xIf true (ni_ro [a, b, c, d, e, f] (864, ni_sP (ni_gIf (fun x => decide (x = 0)) 871 867)) (ni_me85_10 [a, b, c, d, e, f] _ (List.mem_of_getElem? (i := 11) rfl))) (decide_eq_true hc) ?_
      refine ni_xP (g := ni_gPush (.int 0) 872) (ni_ro [a, b, c, d, e, f] (871, ni_sP (ni_gPush (.int 0) 872)) (ni_me85_10 [a, b, c, d, e, f] _ (List.mem_of_getElem? (i := 14) rfl))) rfl ?_
      refine ni_xLd (ni_ro [a, b, c, d, e, f] (872, ni_sLd 3 0 873) (ni_me85_10 [a, b, c, d, e, f] _ (List.mem_of_getElem? (i := 15) rfl))) rfl rfl ?_
      refine ni_xLd (ni_ro [a, b, c, d, e, f] (873, ni_sLd 0 5 875) (ni_me85_10 [a, b, c, d, e, f] _ (List.mem_of_getElem? (i := 16) rfl))) rfl rfl ?_
      refine ni_xP (g := ni_gPush (.int 3) 876) (ni_ro [a, b, c, d, e, f] (875, ni_sP (ni_gPush (.int 3) 876)) (ni_me85_10 [a, b, c, d, e, f] _ (List.mem_of_getElem? (i := 17) rfl))) rfl ?_
      refine ni_xP (g := ni_gI (fun x y => x + y) 877) (ni_ro [a, b, c, d, e, f] (876, ni_sP (ni_gI (fun x y => x + y) 877)) (ni_me85_10 [a, b, c, d, e, f] _ (List.mem_of_getElem? (i := 18) rfl))) rfl ?_
      refine ni_xSld (ni_ro [a, b, c, d, e, f] (877, ni_sSld [a, b, c, d, e, f] 878) (ni_me85_10 [a, b, c, d, e, f] _ (List.mem_of_getElem? (i := 19) rfl))) ⟨by decide, rfl⟩ ?_
      refine ni_xLd (ni_ro [a, b, c, d, e, f] (878, ni_sLd 3 0 879) (ni_me85_10 [a, b, c, d, e, f] _ (List.mem_of_getElem? (i := 20) rfl))) rfl rfl ?_
      refine ni_xLd (ni_ro [a, b, c, d, e, f] (879, ni_sLd 0 5 881) (ni_me85_10 [a, b, c, d, e, f] _ (List.mem_of_getElem? (i := 21) rfl))) rfl rfl ?_
      refine ni_xP (g := ni_gPush (.int 4) 882) (ni_ro [a, b, c, d, e, f] (881, ni_sP (ni_gPush (.int 4) 882)) (ni_me85_10 [a, b, c, d, e, f] _ (List.mem_of_getElem? (i := 22) rfl))) rfl ?_
      refine ni_xP (g := ni_gI (fun x y => x + y) 883) (ni_ro [a, b, c, d, e, f] (882, ni_sP (ni_gI (fun x y => x + y) 883)) (ni_me85_10 [a, b, c, d, e, f] _ (List.mem_of_getElem? (i := 23) rfl))) rfl ?_
      refine ni_xSld (ni_ro [a, b, c, d, e, f] (883, ni_sSld [a, b, c, d, e, f] 884) (ni_me85_10 [a, b, c, d, e, f] _ (List.mem_of_getElem? (i := 24) rfl))) ⟨by decide, rfl⟩ ?_
      refine ni_xLd (ni_ro [a, b, c, d, e, f] (884, ni_sLd 3 0 885) (ni_me85_10 [a, b, c, d, e, f] _ (List.mem_of_getElem? (i := 25) rfl))) rfl rfl ?_
      refine ni_xLd (ni_ro [a, b, c, d, e, f] (885, ni_sLd 0 5 887) (ni_me85_10 [a, b, c, d, e, f] _ (List.mem_of_getElem? (i := 26) rfl))) rfl rfl ?_
      refine ni_xP (g := ni_gPush (.int 5) 888) (ni_ro [a, b, c, d, e, f] (887, ni_sP (ni_gPush (.int 5) 888)) (ni_me85_10 [a, b, c, d, e, f] _ (List.mem_of_getElem? (i := 27) rfl))) rfl ?_
      refine ni_xP (g := ni_gI (fun x y => x + y) 889) (ni_ro [a, b, c, d, e, f] (888, ni_sP (ni_gI (fun x y => x + y) 889)) (ni_me85_10 [a, b, c, d, e, f] _ (List.mem_of_getElem? (i := 28) rfl))) rfl ?_
      refine ni_xSld (ni_ro [a, b, c, d, e, f] (889, ni_sSld [a, b, c, d, e, f] 890) (ni_me85_10 [a, b, c, d, e, f] _ (List.mem_of_getElem? (i := 29) rfl))) ⟨by decide, rfl⟩ ?_
      refine ni_xIf false (ni_ro [a, b, c, d, e, f] (890, ni_sP (ni_gIf (fun x => decide (x = 0)) 897 893)) (ni_me85_10 [a, b, c, d, e, f] _ (List.mem_of_getElem? (i := 30) rfl))) (decide_eq_false hf) ?_
      refine ni_xP (g := ni_gPush (.int 1) 894) (ni_ro [a, b, c, d, e, f] (893, ni_sP (ni_gPush (.int 1) 894)) (ni_me85_10 [a, b, c, d, e, f] _ (List.mem_of_getElem? (i := 31) rfl))) rfl ?_
      refine ni_xP (g := ni_gGo 898) (ni_ro [a, b, c, d, e, f] (894, ni_sP (ni_gGo 898)) (ni_me85_10 [a, b, c, d, e, f] _ (List.mem_of_getElem? (i := 32) rfl))) rfl ?_
      refine ni_xLd (ni_ro [a, b, c, d, e, f] (898, ni_sLd 3 3 899) (ni_me85_10 [a, b, c, d, e, f] _ (List.mem_of_getElem? (i := 34) rfl))) rfl rfl ?_
      refine ni_xC (ni_ro [a, b, c, d, e, f] (899, ni_sC 98 7 902) (ni_me85_10 [a, b, c, d, e, f] _ (List.mem_of_getElem? (i := 35) rfl))) (Nat.le_of_ble_eq_true rfl) rfl rfl (Nat.le_of_ble_eq_true rfl) (ni_ofO (ni_kw98 [a, b, c, d, e, f] _ _ _ _ _)) ?_
      refine ni_xSt (ni_ro [a, b, c, d, e, f] (902, ni_sSt 0 6 904) (ni_me85_10 [a, b, c, d, e, f] _ (List.mem_of_getElem? (i := 36) rfl))) rfl rfl ?_
      refine ni_xLd (ni_ro [a, b, c, d, e, f] (904, ni_sLd 3 2 905) (ni_me85_10 [a, b, c, d, e, f] _ (List.mem_of_getElem? (i := 37) rfl))) rfl rfl ?_
      refine ni_xLd (ni_ro [a, b, c, d, e, f] (905, ni_sLd 3 0 906) (ni_me85_10 [a, b, c, d, e, f] _ (List.mem_of_getElem? (i := 38) rfl))) rfl rfl ?_
      refine ni_xLd (ni_ro [a, b, c, d, e, f] (906, ni_sLd 0 5 908) (ni_me85_10 [a, b, c, d, e, f] _ (List.mem_of_getElem? (i := 39) rfl))) rfl rfl ?_
      refine ni_xP (g := ni_gPush (.int 1) 909) (ni_ro [a, b, c, d, e, f] (908, ni_sP (ni_gPush (.int 1) 909)) (ni_me85_10 [a, b, c, d, e, f] _ (List.mem_of_getElem? (i := 40) rfl))) rfl ?_
      refine ni_xP (g := ni_gI (fun x y => x + y) 910) (ni_ro [a, b, c, d, e, f] (909, ni_sP (ni_gI (fun x y => x + y) 910)) (ni_me85_10 [a, b, c, d, e, f] _ (List.mem_of_getElem? (i := 41) rfl))) rfl ?_
      refine ni_xSld (ni_ro [a, b, c, d, e, f] (910, ni_sSld [a, b, c, d, e, f] 911) (ni_me85_10 [a, b, c, d, e, f] _ (List.mem_of_getElem? (i := 42) rfl))) ⟨by decide, rfl⟩ ?_
      refine ni_xLd (ni_ro [a, b, c, d, e, f] (911, ni_sLd 3 0 912) (ni_me85_10 [a, b, c, d, e, f] _ (List.mem_of_getElem? (i := 43) rfl))) rfl rfl ?_
      refine ni_xLd (ni_ro [a, b, c, d, e, f] (912, ni_sLd 0 5 914) (ni_me85_10 [a, b, c, d, e, f] _ (List.mem_of_getElem? (i := 44) rfl))) rfl rfl ?_
      refine ni_xP (g := ni_gPush (.int 2) 915) (ni_ro [a, b, c, d, e, f] (914, ni_sP (ni_gPush (.int 2) 915)) (ni_me85_10 [a, b, c, d, e, f] _ (List.mem_of_getElem? (i := 45) rfl))) rfl ?_
      refine ni_xP (g := ni_gI (fun x y => x + y) 916) (ni_ro [a, b, c, d, e, f] (915, ni_sP (ni_gI (fun x y => x + y) 916)) (ni_me85_10 [a, b, c, d, e, f] _ (List.mem_of_getElem? (i := 46) rfl))) rfl ?_
      refine ni_xSld (ni_ro [a, b, c, d, e, f] (916, ni_sSld [a, b, c, d, e, f] 917) (ni_me85_10 [a, b, c, d, e, f] _ (List.mem_of_getElem? (i := 47) rfl))) ⟨by decide, rfl⟩ ?_
      refine ni_xIf true (ni_ro [a, b, c, d, e, f] (917, ni_sP (ni_gIf (fun x => decide (x = 0)) 924 920)) (ni_me85_10 [a, b, c, d, e, f] _ (List.mem_of_getElem? (i := 48) rfl))) (decide_eq_true hc) ?_
      refine ni_xP (g := ni_gPush (.int 0) 925) (ni_ro [a, b, c, d, e, f] (924, ni_sP (ni_gPush (.int 0) 925)) (ni_me85_10 [a, b, c, d, e, f] _ (List.mem_of_getElem? (i := 51) rfl))) rfl ?_
      refine ni_xLd (ni_ro [a, b, c, d, e, f] (925, ni_sLd 3 0 926) (ni_me85_10 [a, b, c, d, e, f] _ (List.mem_of_getElem? (i := 52) rfl))) rfl rfl ?_
      refine ni_xLd (ni_ro [a, b, c, d, e, f] (926, ni_sLd 0 5 928) (ni_me85_10 [a, b, c, d, e, f] _ (List.mem_of_getElem? (i := 53) rfl))) rfl rfl ?_
      refine ni_xP (g := ni_gPush (.int 3) 929) (ni_ro [a, b, c, d, e, f] (928, ni_sP (ni_gPush (.int 3) 929)) (ni_me85_10 [a, b, c, d, e, f] _ (List.mem_of_getElem? (i := 54) rfl))) rfl ?_
      refine ni_xP (g := ni_gI (fun x y => x + y) 930) (ni_ro [a, b, c, d, e, f] (929, ni_sP (ni_gI (fun x y => x + y) 930)) (ni_me85_10 [a, b, c, d, e, f] _ (List.mem_of_getElem? (i := 55) rfl))) rfl ?_
      refine ni_xSld (ni_ro [a, b, c, d, e, f] (930, ni_sSld [a, b, c, d, e, f] 931) (ni_me85_10 [a, b, c, d, e, f] _ (List.mem_of_getElem? (i := 56) rfl))) ⟨by decide, rfl⟩ ?_
      refine ni_xLd (ni_ro [a, b, c, d, e, f] (931, ni_sLd 3 0 932) (ni_me85_10 [a, b, c, d, e, f] _ (List.mem_of_getElem? (i := 57) rfl))) rfl rfl ?_
      refine ni_xLd (ni_ro [a, b, c, d, e, f] (932, ni_sLd 0 5 934) (ni_me85_10 [a, b, c, d, e, f] _ (List.mem_of_getElem? (i := 58) rfl))) rfl rfl ?_
      refine ni_xP (g := ni_gPush (.int 4) 935) (ni_ro [a, b, c, d, e, f] (934, ni_sP (ni_gPush (.int 4) 935)) (ni_me85_10 [a, b, c, d, e, f] _ (List.mem_of_getElem? (i := 59) rfl))) rfl ?_
      refine ni_xP (g := ni_gI (fun x y => x + y) 936) (ni_ro [a, b, c, d, e, f] (935, ni_sP (ni_gI (fun x y => x + y) 936)) (ni_me85_10 [a, b, c, d, e, f] _ (List.mem_of_getElem? (i := 60) rfl))) rfl ?_
      refine ni_xSld (ni_ro [a, b, c, d, e, f] (936, ni_sSld [a, b, c, d, e, f] 937) (ni_me85_10 [a, b, c, d, e, f] _ (List.mem_of_getElem? (i := 61) rfl))) ⟨by decide, rfl⟩ ?_
      refine ni_xLd (ni_ro [a, b, c, d, e, f] (937, ni_sLd 3 0 938) (ni_me85_10 [a, b, c, d, e, f] _ (List.mem_of_getElem? (i := 62) rfl))) rfl rfl ?_
      refine ni_xLd (ni_ro [a, b, c, d, e, f] (938, ni_sLd 0 5 940) (ni_me85_10 [a, b, c, d, e, f] _ (List.mem_of_getElem? (i := 63) rfl))) rfl rfl ?_
      refine ni_xP (g := ni_gPush (.int 5) 941) (ni_ro [a, b, c, d, e, f] (940, ni_sP (ni_gPush (.int 5) 941)) (ni_me85_10 [a, b, c, d, e, f] _ (List.mem_of_getElem? (i := 64) rfl))) rfl ?_
      refine ni_xP (g := ni_gI (fun x y => x + y) 942) (ni_ro [a, b, c, d, e, f] (941, ni_sP (ni_gI (fun x y => x + y) 942)) (ni_me85_10 [a, b, c, d, e, f] _ (List.mem_of_getElem? (i := 65) rfl))) rfl ?_
      refine ni_xSld (ni_ro [a, b, c, d, e, f] (942, ni_sSld [a, b, c, d, e, f] 943) (ni_me85_10 [a, b, c, d, e, f] _ (List.mem_of_getElem? (i := 66) rfl))) ⟨by decide, rfl⟩ ?_
      refine ni_xIf false (ni_ro [a, b, c, d, e, f] (943, ni_sP (ni_gIf (fun x => decide (x = 0)) 950 946)) (ni_me85_10 [a, b, c, d, e, f] _ (List.mem_of_getElem? (i := 67) rfl))) (decide_eq_false hf) ?_
      refine ni_xP (g := ni_gPush (.int 1) 947) (ni_ro [a, b, c, d, e, f] (946, ni_sP (ni_gPush (.int 1) 947)) (ni_me85_10 [a, b, c, d, e, f] _ (List.mem_of_getElem? (i := 68) rfl))) rfl ?_
      refine ni_xP (g := ni_gGo 951) (ni_ro [a, b, c, d, e, f] (947, ni_sP (ni_gGo 951)) (ni_me85_10 [a, b, c, d, e, f] _ (List.mem_of_getElem? (i := 69) rfl))) rfl ?_
      refine ni_xV (ni_ro [a, b, c, d, e, f] (951, ni_sV 157 5 18 954) (ni_me85_10 [a, b, c, d, e, f] _ (List.mem_of_getElem? (i := 71) rfl))) rfl rfl rfl (Nat.le_of_ble_eq_true rfl) (ni_ofO (ni_km157 [a, b, c, d, e, f] _ _ _ _ _)) ?_
      refine ni_xSt (ni_ro [a, b, c, d, e, f] (954, ni_sSt 0 7 956) (ni_me85_10 [a, b, c, d, e, f] _ (List.mem_of_getElem? (i := 72) rfl))) rfl rfl ?_
      refine ni_xLd (ni_ro [a, b, c, d, e, f] (956, ni_sLd 3 2 957) (ni_me85_10 [a, b, c, d, e, f] _ (List.mem_of_getElem? (i := 73) rfl))) rfl rfl ?_
      refine ni_xV (ni_ro [a, b, c, d, e, f] (957, ni_sV 167 0 18 960) (ni_me85_10 [a, b, c, d, e, f] _ (List.mem_of_getElem? (i := 74) rfl))) rfl rfl rfl (Nat.le_of_ble_eq_true rfl) (ni_ofO (ni_k167 [a, b, c, d, e, f])) ?_
      refine ni_xLd (ni_ro [a, b, c, d, e, f] (960, ni_sLd 0 6 962) (ni_me85_10 [a, b, c, d, e, f] _ (List.mem_of_getElem? (i := 75) rfl))) rfl rfl ?_
      refine ni_xIc true (ni_ro [a, b, c, d, e, f] (962, ni_sP (ni_gIc (fun x y => decide (x = y)) 967 965)) (ni_me85_10 [a, b, c, d, e, f] _ (List.mem_of_getElem? (i := 76) rfl))) rfl ?_
      refine ni_xLd (ni_ro [a, b, c, d, e, f] (967, ni_sLd 0 6 969) (ni_me85_10 [a, b, c, d, e, f] _ (List.mem_of_getElem? (i := 77) rfl))) rfl rfl ?_
      refine ni_xIf true (ni_ro [a, b, c, d, e, f] (969, ni_sP (ni_gIf (fun x => decide (¬ x = 0)) 984 972)) (ni_me85_10 [a, b, c, d, e, f] _ (List.mem_of_getElem? (i := 78) rfl))) rfl ?_
      refine ni_xP (g := ni_gGo 3317) (ni_ro [a, b, c, d, e, f] (984, ni_sP (ni_gGo 3317)) (ni_me85_10 [a, b, c, d, e, f] _ (List.mem_of_getElem? (i := 79) rfl))) rfl ?_
      refine ni_xInc (ni_ro [a, b, c, d, e, f] (3317, ni_sInc 5 (6) 3320) (ni_me85_52 [a, b, c, d, e, f] _ (List.mem_of_getElem? (i := 0) rfl))) rfl rfl ?_
      refine ni_xP (g := ni_gGo 28) (ni_ro [a, b, c, d, e, f] (3320, ni_sP (ni_gGo 28)) (ni_me85_52 [a, b, c, d, e, f] _ (List.mem_of_getElem? (i := 1) rfl))) rfl ?_
      refine ni_xLd (ni_ro [a, b, c, d, e, f] (28, ni_sLd 0 5 30) (ni_me85_1 [a, b, c, d, e, f] _ (List.mem_of_getElem? (i := 0) rfl))) rfl rfl ?_
      refine ni_xLd (ni_ro [a, b, c, d, e, f] (30, ni_sLd 3 0 31) (ni_me85_1 [a, b, c, d, e, f] _ (List.mem_of_getElem? (i := 1) rfl))) rfl rfl ?_
      refine ni_xSln (ni_ro [a, b, c, d, e, f] (31, ni_sSln [a, b, c, d, e, f] 32) (ni_me85_1 [a, b, c, d, e, f] _ (List.mem_of_getElem? (i := 2) rfl))) rfl ?_
      refine ni_xP (g := ni_gPush (.int 6) 34) (ni_ro [a, b, c, d, e, f] (32, ni_sP (ni_gPush (.int 6) 34)) (ni_me85_1 [a, b, c, d, e, f] _ (List.mem_of_getElem? (i := 3) rfl))) rfl ?_
      refine ni_xP (g := ni_gI (fun x y => x - y) 35) (ni_ro [a, b, c, d, e, f] (34, ni_sP (ni_gI (fun x y => x - y) 35)) (ni_me85_1 [a, b, c, d, e, f] _ (List.mem_of_getElem? (i := 4) rfl))) rfl ?_
      refine ni_xIc true (ni_ro [a, b, c, d, e, f] (35, ni_sP (ni_gIc (fun x y => decide (y < x)) 3323 38)) (ni_me85_1 [a, b, c, d, e, f] _ (List.mem_of_getElem? (i := 5) rfl))) (show decide (Int32.ofNat 6 - 6 < 0 + 6) = true from by decide) ?_
      refine ni_xP (g := ni_gPush (.int 1) 3324) (ni_ro [a, b, c, d, e, f] (3323, ni_sP (ni_gPush (.int 1) 3324)) (ni_me85_52 [a, b, c, d, e, f] _ (List.mem_of_getElem? (i := 2) rfl))) rfl ?_
      exact ni_xR (ni_ro [a, b, c, d, e, f] (3324, ni_sR (some .boolean)) (ni_me85_52 [a, b, c, d, e, f] _ (List.mem_of_getElem? (i := 3) rfl))) rfl
  · skip
    by_cases hf : f = 0
    · skip
      refine ni_xLd (ni_ro [a, b, c, d, e, f] (851, ni_sLd 3 1 852) (ni_me85_10 [a, b, c, d, e, f] _ (List.mem_of_getElem? (i := 0) rfl))) rfl rfl ?_
      refine ni_xLd (ni_ro [a, b, c, d, e, f] (852, ni_sLd 3 0 853) (ni_me85_10 [a, b, c, d, e, f] _ (List.mem_of_getElem? (i := 1) rfl))) rfl rfl ?_
      refine ni_xLd (ni_ro [a, b, c, d, e, f] (853, ni_sLd 0 5 855) (ni_me85_10 [a, b, c, d, e, f] _ (List.mem_of_getElem? (i := 2) rfl))) rfl rfl ?_
      refine ni_xP (g := ni_gPush (.int 1) 856) (ni_ro [a, b, c, d, e, f] (855, ni_sP (ni_gPush (.int 1) 856)) (ni_me85_10 [a, b, c, d, e, f] _ (List.mem_of_getElem? (i := 3) rfl))) rfl ?_
      refine ni_xP (g := ni_gI (fun x y => x + y) 857) (ni_ro [a, b, c, d, e, f] (856, ni_sP (ni_gI (fun x y => x + y) 857)) (ni_me85_10 [a, b, c, d, e, f] _ (List.mem_of_getElem? (i := 4) rfl))) rfl ?_
      refine ni_xSld (ni_ro [a, b, c, d, e, f] (857, ni_sSld [a, b, c, d, e, f] 858) (ni_me85_10 [a, b, c, d, e, f] _ (List.mem_of_getElem? (i := 5) rfl))) ⟨by decide, rfl⟩ ?_
      refine ni_xLd (ni_ro [a, b, c, d, e, f] (858, ni_sLd 3 0 859) (ni_me85_10 [a, b, c, d, e, f] _ (List.mem_of_getElem? (i := 6) rfl))) rfl rfl ?_
      refine ni_xLd (ni_ro [a, b, c, d, e, f] (859, ni_sLd 0 5 861) (ni_me85_10 [a, b, c, d, e, f] _ (List.mem_of_getElem? (i := 7) rfl))) rfl rfl ?_
      refine ni_xP (g := ni_gPush (.int 2) 862) (ni_ro [a, b, c, d, e, f] (861, ni_sP (ni_gPush (.int 2) 862)) (ni_me85_10 [a, b, c, d, e, f] _ (List.mem_of_getElem? (i := 8) rfl))) rfl ?_
      refine ni_xP (g := ni_gI (fun x y => x + y) 863) (ni_ro [a, b, c, d, e, f] (862, ni_sP (ni_gI (fun x y => x + y) 863)) (ni_me85_10 [a, b, c, d, e, f] _ (List.mem_of_getElem? (i := 9) rfl))) rfl ?_
      refine ni_xSld (ni_ro [a, b, c, d, e, f] (863, ni_sSld [a, b, c, d, e, f] 864) (ni_me85_10 [a, b, c, d, e, f] _ (List.mem_of_getElem? (i := 10) rfl))) ⟨by decide, rfl⟩ ?_
      refine ni_xIf false (ni_ro [a, b, c, d, e, f] (864, ni_sP (ni_gIf (fun x => decide (x = 0)) 871 867)) (ni_me85_10 [a, b, c, d, e, f] _ (List.mem_of_getElem? (i := 11) rfl))) (decide_eq_false hc) ?_
      refine ni_xP (g := ni_gPush (.int 1) 868) (ni_ro [a, b, c, d, e, f] (867, ni_sP (ni_gPush (.int 1) 868)) (ni_me85_10 [a, b, c, d, e, f] _ (List.mem_of_getElem? (i := 12) rfl))) rfl ?_
      refine ni_xP (g := ni_gGo 872) (ni_ro [a, b, c, d, e, f] (868, ni_sP (ni_gGo 872)) (ni_me85_10 [a, b, c, d, e, f] _ (List.mem_of_getElem? (i := 13) rfl))) rfl ?_
      refine ni_xLd (ni_ro [a, b, c, d, e, f] (872, ni_sLd 3 0 873) (ni_me85_10 [a, b, c, d, e, f] _ (List.mem_of_getElem? (i := 15) rfl))) rfl rfl ?_
      refine ni_xLd (ni_ro [a, b, c, d, e, f] (873, ni_sLd 0 5 875) (ni_me85_10 [a, b, c, d, e, f] _ (List.mem_of_getElem? (i := 16) rfl))) rfl rfl ?_
      refine ni_xP (g := ni_gPush (.int 3) 876) (ni_ro [a, b, c, d, e, f] (875, ni_sP (ni_gPush (.int 3) 876)) (ni_me85_10 [a, b, c, d, e, f] _ (List.mem_of_getElem? (i := 17) rfl))) rfl ?_
      refine ni_xP (g := ni_gI (fun x y => x + y) 877) (ni_ro [a, b, c, d, e, f] (876, ni_sP (ni_gI (fun x y => x + y) 877)) (ni_me85_10 [a, b, c, d, e, f] _ (List.mem_of_getElem? (i := 18) rfl))) rfl ?_
      refine ni_xSld (ni_ro [a, b, c, d, e, f] (877, ni_sSld [a, b, c, d, e, f] 878) (ni_me85_10 [a, b, c, d, e, f] _ (List.mem_of_getElem? (i := 19) rfl))) ⟨by decide, rfl⟩ ?_
      refine ni_xLd (ni_ro [a, b, c, d, e, f] (878, ni_sLd 3 0 879) (ni_me85_10 [a, b, c, d, e, f] _ (List.mem_of_getElem? (i := 20) rfl))) rfl rfl ?_
      refine ni_xLd (ni_ro [a, b, c, d, e, f] (879, ni_sLd 0 5 881) (ni_me85_10 [a, b, c, d, e, f] _ (List.mem_of_getElem? (i := 21) rfl))) rfl rfl ?_
      refine ni_xP (g := ni_gPush (.int 4) 882) (ni_ro [a, b, c, d, e, f] (881, ni_sP (ni_gPush (.int 4) 882)) (ni_me85_10 [a, b, c, d, e, f] _ (List.mem_of_getElem? (i := 22) rfl))) rfl ?_
      refine ni_xP (g := ni_gI (fun x y => x + y) 883) (ni_ro [a, b, c, d, e, f] (882, ni_sP (ni_gI (fun x y => x + y) 883)) (ni_me85_10 [a, b, c, d, e, f] _ (List.mem_of_getElem? (i := 23) rfl))) rfl ?_
      refine ni_xSld (ni_ro [a, b, c, d, e, f] (883, ni_sSld [a, b, c, d, e, f] 884) (ni_me85_10 [a, b, c, d, e, f] _ (List.mem_of_getElem? (i := 24) rfl))) ⟨by decide, rfl⟩ ?_
      refine ni_xLd (ni_ro [a, b, c, d, e, f] (884, ni_sLd 3 0 885) (ni_me85_10 [a, b, c, d, e, f] _ (List.mem_of_getElem? (i := 25) rfl))) rfl rfl ?_
      refine ni_xLd (ni_ro [a, b, c, d, e, f] (885, ni_sLd 0 5 887) (ni_me85_10 [a, b, c, d, e, f] _ (List.mem_of_getElem? (i := 26) rfl))) rfl rfl ?_
      refine ni_xP (g := ni_gPush (.int 5) 888) (ni_ro [a, b, c, d, e, f] (887, ni_sP (ni_gPush (.int 5) 888)) (ni_me85_10 [a, b, c, d, e, f] _ (List.mem_of_getElem? (i := 27) rfl))) rfl ?_
      refine ni_xP (g := ni_gI (fun x y => x + y) 889) (ni_ro [a, b, c, d, e, f] (888, ni_sP (ni_gI (fun x y => x + y) 889)) (ni_me85_10 [a, b, c, d, e, f] _ (List.mem_of_getElem? (i := 28) rfl))) rfl ?_
      refine ni_xSld (ni_ro [a, b, c, d, e, f] (889, ni_sSld [a, b, c, d, e, f] 890) (ni_me85_10 [a, b, c, d, e, f] _ (List.mem_of_getElem? (i := 29) rfl))) ⟨by decide, rfl⟩ ?_
      refine ni_xIf true (ni_ro [a, b, c, d, e, f] (890, ni_sP (ni_gIf (fun x => decide (x = 0)) 897 893)) (ni_me85_10 [a, b, c, d, e, f] _ (List.mem_of_getElem? (i := 30) rfl))) (decide_eq_true hf) ?_
      refine ni_xP (g := ni_gPush (.int 0) 898) (ni_ro [a, b, c, d, e, f] (897, ni_sP (ni_gPush (.int 0) 898)) (ni_me85_10 [a, b, c, d, e, f] _ (List.mem_of_getElem? (i := 33) rfl))) rfl ?_
      refine ni_xLd (ni_ro [a, b, c, d, e, f] (898, ni_sLd 3 3 899) (ni_me85_10 [a, b, c, d, e, f] _ (List.mem_of_getElem? (i := 34) rfl))) rfl rfl ?_
      refine ni_xC (ni_ro [a, b, c, d, e, f] (899, ni_sC 98 7 902) (ni_me85_10 [a, b, c, d, e, f] _ (List.mem_of_getElem? (i := 35) rfl))) (Nat.le_of_ble_eq_true rfl) rfl rfl (Nat.le_of_ble_eq_true rfl) (ni_ofO (ni_kw98 [a, b, c, d, e, f] _ _ _ _ _)) ?_
      refine ni_xSt (ni_ro [a, b, c, d, e, f] (902, ni_sSt 0 6 904) (ni_me85_10 [a, b, c, d, e, f] _ (List.mem_of_getElem? (i := 36) rfl))) rfl rfl ?_
      refine ni_xLd (ni_ro [a, b, c, d, e, f] (904, ni_sLd 3 2 905) (ni_me85_10 [a, b, c, d, e, f] _ (List.mem_of_getElem? (i := 37) rfl))) rfl rfl ?_
      refine ni_xLd (ni_ro [a, b, c, d, e, f] (905, ni_sLd 3 0 906) (ni_me85_10 [a, b, c, d, e, f] _ (List.mem_of_getElem? (i := 38) rfl))) rfl rfl ?_
      refine ni_xLd (ni_ro [a, b, c, d, e, f] (906, ni_sLd 0 5 908) (ni_me85_10 [a, b, c, d, e, f] _ (List.mem_of_getElem? (i := 39) rfl))) rfl rfl ?_
      refine ni_xP (g := ni_gPush (.int 1) 909) (ni_ro [a, b, c, d, e, f] (908, ni_sP (ni_gPush (.int 1) 909)) (ni_me85_10 [a, b, c, d, e, f] _ (List.mem_of_getElem? (i := 40) rfl))) rfl ?_
      refine ni_xP (g := ni_gI (fun x y => x + y) 910) (ni_ro [a, b, c, d, e, f] (909, ni_sP (ni_gI (fun x y => x + y) 910)) (ni_me85_10 [a, b, c, d, e, f] _ (List.mem_of_getElem? (i := 41) rfl))) rfl ?_
      refine ni_xSld (ni_ro [a, b, c, d, e, f] (910, ni_sSld [a, b, c, d, e, f] 911) (ni_me85_10 [a, b, c, d, e, f] _ (List.mem_of_getElem? (i := 42) rfl))) ⟨by decide, rfl⟩ ?_
      refine ni_xLd (ni_ro [a, b, c, d, e, f] (911, ni_sLd 3 0 912) (ni_me85_10 [a, b, c, d, e, f] _ (List.mem_of_getElem? (i := 43) rfl))) rfl rfl ?_
      refine ni_xLd (ni_ro [a, b, c, d, e, f] (912, ni_sLd 0 5 914) (ni_me85_10 [a, b, c, d, e, f] _ (List.mem_of_getElem? (i := 44) rfl))) rfl rfl ?_
      refine ni_xP (g := ni_gPush (.int 2) 915) (ni_ro [a, b, c, d, e, f] (914, ni_sP (ni_gPush (.int 2) 915)) (ni_me85_10 [a, b, c, d, e, f] _ (List.mem_of_getElem? (i := 45) rfl))) rfl ?_
      refine ni_xP (g := ni_gI (fun x y => x + y) 916) (ni_ro [a, b, c, d, e, f] (915, ni_sP (ni_gI (fun x y => x + y) 916)) (ni_me85_10 [a, b, c, d, e, f] _ (List.mem_of_getElem? (i := 46) rfl))) rfl ?_
      refine ni_xSld (ni_ro [a, b, c, d, e, f] (916, ni_sSld [a, b, c, d, e, f] 917) (ni_me85_10 [a, b, c, d, e, f] _ (List.mem_of_getElem? (i := 47) rfl))) ⟨by decide, rfl⟩ ?_
      refine ni_xIf false (ni_ro [a, b, c, d, e, f] (917, ni_sP (ni_gIf (fun x => decide (x = 0)) 924 920)) (ni_me85_10 [a, b, c, d, e, f] _ (List.mem_of_getElem? (i := 48) rfl))) (decide_eq_false hc) ?_
      refine ni_xP (g := ni_gPush (.int 1) 921) (ni_ro [a, b, c, d, e, f] (920, ni_sP (ni_gPush (.int 1) 921)) (ni_me85_10 [a, b, c, d, e, f] _ (List.mem_of_getElem? (i := 49) rfl))) rfl ?_
      refine ni_xP (g := ni_gGo 925) (ni_ro [a, b, c, d, e, f] (921, ni_sP (ni_gGo 925)) (ni_me85_10 [a, b, c, d, e, f] _ (List.mem_of_getElem? (i := 50) rfl))) rfl ?_
      refine ni_xLd (ni_ro [a, b, c, d, e, f] (925, ni_sLd 3 0 926) (ni_me85_10 [a, b, c, d, e, f] _ (List.mem_of_getElem? (i := 52) rfl))) rfl rfl ?_
      refine ni_xLd (ni_ro [a, b, c, d, e, f] (926, ni_sLd 0 5 928) (ni_me85_10 [a, b, c, d, e, f] _ (List.mem_of_getElem? (i := 53) rfl))) rfl rfl ?_
      refine ni_xP (g := ni_gPush (.int 3) 929) (ni_ro [a, b, c, d, e, f] (928, ni_sP (ni_gPush (.int 3) 929)) (ni_me85_10 [a, b, c, d, e, f] _ (List.mem_of_getElem? (i := 54) rfl))) rfl ?_
      refine ni_xP (g := ni_gI (fun x y => x + y) 930) (ni_ro [a, b, c, d, e, f] (929, ni_sP (ni_gI (fun x y => x + y) 930)) (ni_me85_10 [a, b, c, d, e, f] _ (List.mem_of_getElem? (i := 55) rfl))) rfl ?_
      refine ni_xSld (ni_ro [a, b, c, d, e, f] (930, ni_sSld [a, b, c, d, e, f] 931) (ni_me85_10 [a, b, c, d, e, f] _ (List.mem_of_getElem? (i := 56) rfl))) ⟨by decide, rfl⟩ ?_
      refine ni_xLd (ni_ro [a, b, c, d, e, f] (931, ni_sLd 3 0 932) (ni_me85_10 [a, b, c, d, e, f] _ (List.mem_of_getElem? (i := 57) rfl))) rfl rfl ?_
      refine ni_xLd (ni_ro [a, b, c, d, e, f] (932, ni_sLd 0 5 934) (ni_me85_10 [a, b, c, d, e, f] _ (List.mem_of_getElem? (i := 58) rfl))) rfl rfl ?_
      refine ni_xP (g := ni_gPush (.int 4) 935) (ni_ro [a, b, c, d, e, f] (934, ni_sP (ni_gPush (.int 4) 935)) (ni_me85_10 [a, b, c, d, e, f] _ (List.mem_of_getElem? (i := 59) rfl))) rfl ?_
      refine ni_xP (g := ni_gI (fun x y => x + y) 936) (ni_ro [a, b, c, d, e, f] (935, ni_sP (ni_gI (fun x y => x + y) 936)) (ni_me85_10 [a, b, c, d, e, f] _ (List.mem_of_getElem? (i := 60) rfl))) rfl ?_
      refine ni_xSld (ni_ro [a, b, c, d, e, f] (936, ni_sSld [a, b, c, d, e, f] 937) (ni_me85_10 [a, b, c, d, e, f] _ (List.mem_of_getElem? (i := 61) rfl))) ⟨by decide, rfl⟩ ?_
      refine ni_xLd (ni_ro [a, b, c, d, e, f] (937, ni_sLd 3 0 938) (ni_me85_10 [a, b, c, d, e, f] _ (List.mem_of_getElem? (i := 62) rfl))) rfl rfl ?_
      refine ni_xLd (ni_ro [a, b, c, d, e, f] (938, ni_sLd 0 5 940) (ni_me85_10 [a, b, c, d, e, f] _ (List.mem_of_getElem? (i := 63) rfl))) rfl rfl ?_
      refine ni_xP (g := ni_gPush (.int 5) 941) (ni_ro [a, b, c, d, e, f] (940, ni_sP (ni_gPush (.int 5) 941)) (ni_me85_10 [a, b, c, d, e, f] _ (List.mem_of_getElem? (i := 64) rfl))) rfl ?_
      refine ni_xP (g := ni_gI (fun x y => x + y) 942) (ni_ro [a, b, c, d, e, f] (941, ni_sP (ni_gI (fun x y => x + y) 942)) (ni_me85_10 [a, b, c, d, e, f] _ (List.mem_of_getElem? (i := 65) rfl))) rfl ?_
      refine ni_xSld (ni_ro [a, b, c, d, e, f] (942, ni_sSld [a, b, c, d, e, f] 943) (ni_me85_10 [a, b, c, d, e, f] _ (List.mem_of_getElem? (i := 66) rfl))) ⟨by decide, rfl⟩ ?_
      refine ni_xIf true (ni_ro [a, b, c, d, e, f] (943, ni_sP (ni_gIf (fun x => decide (x = 0)) 950 946)) (ni_me85_10 [a, b, c, d, e, f] _ (List.mem_of_getElem? (i := 67) rfl))) (decide_eq_true hf) ?_
      refine ni_xP (g := ni_gPush (.int 0) 951) (ni_ro [a, b, c, d, e, f] (950, ni_sP (ni_gPush (.int 0) 951)) (ni_me85_10 [a, b, c, d, e, f] _ (List.mem_of_getElem? (i := 70) rfl))) rfl ?_
      refine ni_xV (ni_ro [a, b, c, d, e, f] (951, ni_sV 157 5 18 954) (ni_me85_10 [a, b, c, d, e, f] _ (List.mem_of_getElem? (i := 71) rfl))) rfl rfl rfl (Nat.le_of_ble_eq_true rfl) (ni_ofO (ni_km157 [a, b, c, d, e, f] _ _ _ _ _)) ?_
      refine ni_xSt (ni_ro [a, b, c, d, e, f] (954, ni_sSt 0 7 956) (ni_me85_10 [a, b, c, d, e, f] _ (List.mem_of_getElem? (i := 72) rfl))) rfl rfl ?_
      refine ni_xLd (ni_ro [a, b, c, d, e, f] (956, ni_sLd 3 2 957) (ni_me85_10 [a, b, c, d, e, f] _ (List.mem_of_getElem? (i := 73) rfl))) rfl rfl ?_
      refine ni_xV (ni_ro [a, b, c, d, e, f] (957, ni_sV 167 0 18 960) (ni_me85_10 [a, b, c, d, e, f] _ (List.mem_of_getElem? (i := 74) rfl))) rfl rfl rfl (Nat.le_of_ble_eq_true rfl) (ni_ofO (ni_k167 [a, b, c, d, e, f])) ?_
      refine ni_xLd (ni_ro [a, b, c, d, e, f] (960, ni_sLd 0 6 962) (ni_me85_10 [a, b, c, d, e, f] _ (List.mem_of_getElem? (i := 75) rfl))) rfl rfl ?_
      refine ni_xIc true (ni_ro [a, b, c, d, e, f] (962, ni_sP (ni_gIc (fun x y => decide (x = y)) 967 965)) (ni_me85_10 [a, b, c, d, e, f] _ (List.mem_of_getElem? (i := 76) rfl))) rfl ?_
      refine ni_xLd (ni_ro [a, b, c, d, e, f] (967, ni_sLd 0 6 969) (ni_me85_10 [a, b, c, d, e, f] _ (List.mem_of_getElem? (i := 77) rfl))) rfl rfl ?_
      refine ni_xIf true (ni_ro [a, b, c, d, e, f] (969, ni_sP (ni_gIf (fun x => decide (¬ x = 0)) 984 972)) (ni_me85_10 [a, b, c, d, e, f] _ (List.mem_of_getElem? (i := 78) rfl))) rfl ?_
      refine ni_xP (g := ni_gGo 3317) (ni_ro [a, b, c, d, e, f] (984, ni_sP (ni_gGo 3317)) (ni_me85_10 [a, b, c, d, e, f] _ (List.mem_of_getElem? (i := 79) rfl))) rfl ?_
      refine ni_xInc (ni_ro [a, b, c, d, e, f] (3317, ni_sInc 5 (6) 3320) (ni_me85_52 [a, b, c, d, e, f] _ (List.mem_of_getElem? (i := 0) rfl))) rfl rfl ?_
      refine ni_xP (g := ni_gGo 28) (ni_ro [a, b, c, d, e, f] (3320, ni_sP (ni_gGo 28)) (ni_me85_52 [a, b, c, d, e, f] _ (List.mem_of_getElem? (i := 1) rfl))) rfl ?_
      refine ni_xLd (ni_ro [a, b, c, d, e, f] (28, ni_sLd 0 5 30) (ni_me85_1 [a, b, c, d, e, f] _ (List.mem_of_getElem? (i := 0) rfl))) rfl rfl ?_
      refine ni_xLd (ni_ro [a, b, c, d, e, f] (30, ni_sLd 3 0 31) (ni_me85_1 [a, b, c, d, e, f] _ (List.mem_of_getElem? (i := 1) rfl))) rfl rfl ?_
      refine ni_xSln (ni_ro [a, b, c, d, e, f] (31, ni_sSln [a, b, c, d, e, f] 32) (ni_me85_1 [a, b, c, d, e, f] _ (List.mem_of_getElem? (i := 2) rfl))) rfl ?_
      refine ni_xP (g := ni_gPush (.int 6) 34) (ni_ro [a, b, c, d, e, f] (32, ni_sP (ni_gPush (.int 6) 34)) (ni_me85_1 [a, b, c, d, e, f] _ (List.mem_of_getElem? (i := 3) rfl))) rfl ?_
      refine ni_xP (g := ni_gI (fun x y => x - y) 35) (ni_ro [a, b, c, d, e, f] (34, ni_sP (ni_gI (fun x y => x - y) 35)) (ni_me85_1 [a, b, c, d, e, f] _ (List.mem_of_getElem? (i := 4) rfl))) rfl ?_
      refine ni_xIc true (ni_ro [a, b, c, d, e, f] (35, ni_sP (ni_gIc (fun x y => decide (y < x)) 3323 38)) (ni_me85_1 [a, b, c, d, e, f] _ (List.mem_of_getElem? (i := 5) rfl))) (show decide (Int32.ofNat 6 - 6 < 0 + 6) = true from by decide) ?_
      refine ni_xP (g := ni_gPush (.int 1) 3324) (ni_ro [a, b, c, d, e, f] (3323, ni_sP (ni_gPush (.int 1) 3324)) (ni_me85_52 [a, b, c, d, e, f] _ (List.mem_of_getElem? (i := 2) rfl))) rfl ?_
      exact ni_xR (ni_ro [a, b, c, d, e, f] (3324, ni_sR (some .boolean)) (ni_me85_52 [a, b, c, d, e, f] _ (List.mem_of_getElem? (i := 3) rfl))) rfl
    · skip
      refine ni_xLd (ni_ro [a, b, c, d, e, f] (851, ni_sLd 3 1 852) (ni_me85_10 [a, b, c, d, e, f] _ (List.mem_of_getElem? (i := 0) rfl))) rfl rfl ?_
      refine ni_xLd (ni_ro [a, b, c, d, e, f] (852, ni_sLd 3 0 853) (ni_me85_10 [a, b, c, d, e, f] _ (List.mem_of_getElem? (i := 1) rfl))) rfl rfl ?_
      refine ni_xLd (ni_ro [a, b, c, d, e, f] (853, ni_sLd 0 5 855) (ni_me85_10 [a, b, c, d, e, f] _ (List.mem_of_getElem? (i := 2) rfl))) rfl rfl ?_
      refine ni_xP (g := ni_gPush (.int 1) 856) (ni_ro [a, b, c, d, e, f] (855, ni_sP (ni_gPush (.int 1) 856)) (ni_me85_10 [a, b, c, d, e, f] _ (List.mem_of_getElem? (i := 3) rfl))) rfl ?_
      refine ni_xP (g := ni_gI (fun x y => x + y) 857) (ni_ro [a, b, c, d, e, f] (856, ni_sP (ni_gI (fun x y => x + y) 857)) (ni_me85_10 [a, b, c, d, e, f] _ (List.mem_of_getElem? (i := 4) rfl))) rfl ?_
      refine ni_xSld (ni_ro [a, b, c, d, e, f] (857, ni_sSld [a, b, c, d, e, f] 858) (ni_me85_10 [a, b, c, d, e, f] _ (List.mem_of_getElem? (i := 5) rfl))) ⟨by decide, rfl⟩ ?_
      refine ni_xLd (ni_ro [a, b, c, d, e, f] (858, ni_sLd 3 0 859) (ni_me85_10 [a, b, c, d, e, f] _ (List.mem_of_getElem? (i := 6) rfl))) rfl rfl ?_
      refine ni_xLd (ni_ro [a, b, c, d, e, f] (859, ni_sLd 0 5 861) (ni_me85_10 [a, b, c, d, e, f] _ (List.mem_of_getElem? (i := 7) rfl))) rfl rfl ?_
      refine ni_xP (g := ni_gPush (.int 2) 862) (ni_ro [a, b, c, d, e, f] (861, ni_sP (ni_gPush (.int 2) 862)) (ni_me85_10 [a, b, c, d, e, f] _ (List.mem_of_getElem? (i := 8) rfl))) rfl ?_
      refine ni_xP (g := ni_gI (fun x y => x + y) 863) (ni_ro [a, b, c, d, e, f] (862, ni_sP (ni_gI (fun x y => x + y) 863)) (ni_me85_10 [a, b, c, d, e, f] _ (List.mem_of_getElem? (i := 9) rfl))) rfl ?_
      refine ni_xSld (ni_ro [a, b, c, d, e, f] (863, ni_sSld [a, b, c, d, e, f] 864) (ni_me85_10 [a, b, c, d, e, f] _ (List.mem_of_getElem? (i := 10) rfl))) ⟨by decide, rfl⟩ ?_
      refine ni_xIf false (ni_ro [a, b, c, d, e, f] (864, ni_sP (ni_gIf (fun x => decide (x = 0)) 871 867)) (ni_me85_10 [a, b, c, d, e, f] _ (List.mem_of_getElem? (i := 11) rfl))) (decide_eq_false hc) ?_
      refine ni_xP (g := ni_gPush (.int 1) 868) (ni_ro [a, b, c, d, e, f] (867, ni_sP (ni_gPush (.int 1) 868)) (ni_me85_10 [a, b, c, d, e, f] _ (List.mem_of_getElem? (i := 12) rfl))) rfl ?_
      refine ni_xP (g := ni_gGo 872) (ni_ro [a, b, c, d, e, f] (868, ni_sP (ni_gGo 872)) (ni_me85_10 [a, b, c, d, e, f] _ (List.mem_of_getElem? (i := 13) rfl))) rfl ?_
      refine ni_xLd (ni_ro [a, b, c, d, e, f] (872, ni_sLd 3 0 873) (ni_me85_10 [a, b, c, d, e, f] _ (List.mem_of_getElem? (i := 15) rfl))) rfl rfl ?_
      refine ni_xLd (ni_ro [a, b, c, d, e, f] (873, ni_sLd 0 5 875) (ni_me85_10 [a, b, c, d, e, f] _ (List.mem_of_getElem? (i := 16) rfl))) rfl rfl ?_
      refine ni_xP (g := ni_gPush (.int 3) 876) (ni_ro [a, b, c, d, e, f] (875, ni_sP (ni_gPush (.int 3) 876)) (ni_me85_10 [a, b, c, d, e, f] _ (List.mem_of_getElem? (i := 17) rfl))) rfl ?_
      refine ni_xP (g := ni_gI (fun x y => x + y) 877) (ni_ro [a, b, c, d, e, f] (876, ni_sP (ni_gI (fun x y => x + y) 877)) (ni_me85_10 [a, b, c, d, e, f] _ (List.mem_of_getElem? (i := 18) rfl))) rfl ?_
      refine ni_xSld (ni_ro [a, b, c, d, e, f] (877, ni_sSld [a, b, c, d, e, f] 878) (ni_me85_10 [a, b, c, d, e, f] _ (List.mem_of_getElem? (i := 19) rfl))) ⟨by decide, rfl⟩ ?_
      refine ni_xLd (ni_ro [a, b, c, d, e, f] (878, ni_sLd 3 0 879) (ni_me85_10 [a, b, c, d, e, f] _ (List.mem_of_getElem? (i := 20) rfl))) rfl rfl ?_
      refine ni_xLd (ni_ro [a, b, c, d, e, f] (879, ni_sLd 0 5 881) (ni_me85_10 [a, b, c, d, e, f] _ (List.mem_of_getElem? (i := 21) rfl))) rfl rfl ?_
      refine ni_xP (g := ni_gPush (.int 4) 882) (ni_ro [a, b, c, d, e, f] (881, ni_sP (ni_gPush (.int 4) 882)) (ni_me85_10 [a, b, c, d, e, f] _ (List.mem_of_getElem? (i := 22) rfl))) rfl ?_
      refine ni_xP (g := ni_gI (fun x y => x + y) 883) (ni_ro [a, b, c, d, e, f] (882, ni_sP (ni_gI (fun x y => x + y) 883)) (ni_me85_10 [a, b, c, d, e, f] _ (List.mem_of_getElem? (i := 23) rfl))) rfl ?_
      refine ni_xSld (ni_ro [a, b, c, d, e, f] (883, ni_sSld [a, b, c, d, e, f] 884) (ni_me85_10 [a, b, c, d, e, f] _ (List.mem_of_getElem? (i := 24) rfl))) ⟨by decide, rfl⟩ ?_
      refine ni_xLd (ni_ro [a, b, c, d, e, f] (884, ni_sLd 3 0 885) (ni_me85_10 [a, b, c, d, e, f] _ (List.mem_of_getElem? (i := 25) rfl))) rfl rfl ?_
      refine ni_xLd (ni_ro [a, b, c, d, e, f] (885, ni_sLd 0 5 887) (ni_me85_10 [a, b, c, d, e, f] _ (List.mem_of_getElem? (i := 26) rfl))) rfl rfl ?_
      refine ni_xP (g := ni_gPush (.int 5) 888) (ni_ro [a, b, c, d, e, f] (887, ni_sP (ni_gPush (.int 5) 888)) (ni_me85_10 [a, b, c, d, e, f] _ (List.mem_of_getElem? (i := 27) rfl))) rfl ?_
      refine ni_xP (g := ni_gI (fun x y => x + y) 889) (ni_ro [a, b, c, d, e, f] (888, ni_sP (ni_gI (fun x y => x + y) 889)) (ni_me85_10 [a, b, c, d, e, f] _ (List.mem_of_getElem? (i := 28) rfl))) rfl ?_
      refine ni_xSld (ni_ro [a, b, c, d, e, f] (889, ni_sSld [a, b, c, d, e, f] 890) (ni_me85_10 [a, b, c, d, e, f] _ (List.mem_of_getElem? (i := 29) rfl))) ⟨by decide, rfl⟩ ?_
      refine ni_xIf false (ni_ro [a, b, c, d, e, f] (890, ni_sP (ni_gIf (fun x => decide (x = 0)) 897 893)) (ni_me85_10 [a, b, c, d, e, f] _ (List.mem_of_getElem? (i := 30) rfl))) (decide_eq_false hf) ?_
      refine ni_xP (g := ni_gPush (.int 1) 894) (ni_ro [a, b, c, d, e, f] (893, ni_sP (ni_gPush (.int 1) 894)) (ni_me85_10 [a, b, c, d, e, f] _ (List.mem_of_getElem? (i := 31) rfl))) rfl ?_
      refine ni_xP (g := ni_gGo 898) (ni_ro [a, b, c, d, e, f] (894, ni_sP (ni_gGo 898)) (ni_me85_10 [a, b, c, d, e, f] _ (List.mem_of_getElem? (i := 32) rfl))) rfl ?_
      refine ni_xLd (ni_ro [a, b, c, d, e, f] (898, ni_sLd 3 3 899) (ni_me85_10 [a, b, c, d, e, f] _ (List.mem_of_getElem? (i := 34) rfl))) rfl rfl ?_
      refine ni_xC (ni_ro [a, b, c, d, e, f] (899, ni_sC 98 7 902) (ni_me85_10 [a, b, c, d, e, f] _ (List.mem_of_getElem? (i := 35) rfl))) (Nat.le_of_ble_eq_true rfl) rfl rfl (Nat.le_of_ble_eq_true rfl) (ni_ofO (ni_kw98 [a, b, c, d, e, f] _ _ _ _ _)) ?_
      refine ni_xSt (ni_ro [a, b, c, d, e, f] (902, ni_sSt 0 6 904) (ni_me85_10 [a, b, c, d, e, f] _ (List.mem_of_getElem? (i := 36) rfl))) rfl rfl ?_
      refine ni_xLd (ni_ro [a, b, c, d, e, f] (904, ni_sLd 3 2 905) (ni_me85_10 [a, b, c, d, e, f] _ (List.mem_of_getElem? (i := 37) rfl))) rfl rfl ?_
      refine ni_xLd (ni_ro [a, b, c, d, e, f] (905, ni_sLd 3 0 906) (ni_me85_10 [a, b, c, d, e, f] _ (List.mem_of_getElem? (i := 38) rfl))) rfl rfl ?_
      refine ni_xLd (ni_ro [a, b, c, d, e, f] (906, ni_sLd 0 5 908) (ni_me85_10 [a, b, c, d, e, f] _ (List.mem_of_getElem? (i := 39) rfl))) rfl rfl ?_
      refine ni_xP (g := ni_gPush (.int 1) 909) (ni_ro [a, b, c, d, e, f] (908, ni_sP (ni_gPush (.int 1) 909)) (ni_me85_10 [a, b, c, d, e, f] _ (List.mem_of_getElem? (i := 40) rfl))) rfl ?_
      refine ni_xP (g := ni_gI (fun x y => x + y) 910) (ni_ro [a, b, c, d, e, f] (909, ni_sP (ni_gI (fun x y => x + y) 910)) (ni_me85_10 [a, b, c, d, e, f] _ (List.mem_of_getElem? (i := 41) rfl))) rfl ?_
      refine ni_xSld (ni_ro [a, b, c, d, e, f] (910, ni_sSld [a, b, c, d, e, f] 911) (ni_me85_10 [a, b, c, d, e, f] _ (List.mem_of_getElem? (i := 42) rfl))) ⟨by decide, rfl⟩ ?_
      refine ni_xLd (ni_ro [a, b, c, d, e, f] (911, ni_sLd 3 0 912) (ni_me85_10 [a, b, c, d, e, f] _ (List.mem_of_getElem? (i := 43) rfl))) rfl rfl ?_
      refine ni_xLd (ni_ro [a, b, c, d, e, f] (912, ni_sLd 0 5 914) (ni_me85_10 [a, b, c, d, e, f] _ (List.mem_of_getElem? (i := 44) rfl))) rfl rfl ?_
      refine ni_xP (g := ni_gPush (.int 2) 915) (ni_ro [a, b, c, d, e, f] (914, ni_sP (ni_gPush (.int 2) 915)) (ni_me85_10 [a, b, c, d, e, f] _ (List.mem_of_getElem? (i := 45) rfl))) rfl ?_
      refine ni_xP (g := ni_gI (fun x y => x + y) 916) (ni_ro [a, b, c, d, e, f] (915, ni_sP (ni_gI (fun x y => x + y) 916)) (ni_me85_10 [a, b, c, d, e, f] _ (List.mem_of_getElem? (i := 46) rfl))) rfl ?_
      refine ni_xSld (ni_ro [a, b, c, d, e, f] (916, ni_sSld [a, b, c, d, e, f] 917) (ni_me85_10 [a, b, c, d, e, f] _ (List.mem_of_getElem? (i := 47) rfl))) ⟨by decide, rfl⟩ ?_
      refine ni_xIf false (ni_ro [a, b, c, d, e, f] (917, ni_sP (ni_gIf (fun x => decide (x = 0)) 924 920)) (ni_me85_10 [a, b, c, d, e, f] _ (List.mem_of_getElem? (i := 48) rfl))) (decide_eq_false hc) ?_
      refine ni_xP (g := ni_gPush (.int 1) 921) (ni_ro [a, b, c, d, e, f] (920, ni_sP (ni_gPush (.int 1) 921)) (ni_me85_10 [a, b, c, d, e, f] _ (List.mem_of_getElem? (i := 49) rfl))) rfl ?_
      refine ni_xP (g := ni_gGo 925) (ni_ro [a, b, c, d, e, f] (921, ni_sP (ni_gGo 925)) (ni_me85_10 [a, b, c, d, e, f] _ (List.mem_of_getElem? (i := 50) rfl))) rfl ?_
      refine ni_xLd (ni_ro [a, b, c, d, e, f] (925, ni_sLd 3 0 926) (ni_me85_10 [a, b, c, d, e, f] _ (List.mem_of_getElem? (i := 52) rfl))) rfl rfl ?_
      refine ni_xLd (ni_ro [a, b, c, d, e, f] (926, ni_sLd 0 5 928) (ni_me85_10 [a, b, c, d, e, f] _ (List.mem_of_getElem? (i := 53) rfl))) rfl rfl ?_
      refine ni_xP (g := ni_gPush (.int 3) 929) (ni_ro [a, b, c, d, e, f] (928, ni_sP (ni_gPush (.int 3) 929)) (ni_me85_10 [a, b, c, d, e, f] _ (List.mem_of_getElem? (i := 54) rfl))) rfl ?_
      refine ni_xP (g := ni_gI (fun x y => x + y) 930) (ni_ro [a, b, c, d, e, f] (929, ni_sP (ni_gI (fun x y => x + y) 930)) (ni_me85_10 [a, b, c, d, e, f] _ (List.mem_of_getElem? (i := 55) rfl))) rfl ?_
      refine ni_xSld (ni_ro [a, b, c, d, e, f] (930, ni_sSld [a, b, c, d, e, f] 931) (ni_me85_10 [a, b, c, d, e, f] _ (List.mem_of_getElem? (i := 56) rfl))) ⟨by decide, rfl⟩ ?_
      refine ni_xLd (ni_ro [a, b, c, d, e, f] (931, ni_sLd 3 0 932) (ni_me85_10 [a, b, c, d, e, f] _ (List.mem_of_getElem? (i := 57) rfl))) rfl rfl ?_
      refine ni_xLd (ni_ro [a, b, c, d, e, f] (932, ni_sLd 0 5 934) (ni_me85_10 [a, b, c, d, e, f] _ (List.mem_of_getElem? (i := 58) rfl))) rfl rfl ?_
      refine ni_xP (g := ni_gPush (.int 4) 935) (ni_ro [a, b, c, d, e, f] (934, ni_sP (ni_gPush (.int 4) 935)) (ni_me85_10 [a, b, c, d, e, f] _ (List.mem_of_getElem? (i := 59) rfl))) rfl ?_
      refine ni_xP (g := ni_gI (fun x y => x + y) 936) (ni_ro [a, b, c, d, e, f] (935, ni_sP (ni_gI (fun x y => x + y) 936)) (ni_me85_10 [a, b, c, d, e, f] _ (List.mem_of_getElem? (i := 60) rfl))) rfl ?_
      refine ni_xSld (ni_ro [a, b, c, d, e, f] (936, ni_sSld [a, b, c, d, e, f] 937) (ni_me85_10 [a, b, c, d, e, f] _ (List.mem_of_getElem? (i := 61) rfl))) ⟨by decide, rfl⟩ ?_
      refine ni_xLd (ni_ro [a, b, c, d, e, f] (937, ni_sLd 3 0 938) (ni_me85_10 [a, b, c, d, e, f] _ (List.mem_of_getElem? (i := 62) rfl))) rfl rfl ?_
      refine ni_xLd (ni_ro [a, b, c, d, e, f] (938, ni_sLd 0 5 940) (ni_me85_10 [a, b, c, d, e, f] _ (List.mem_of_getElem? (i := 63) rfl))) rfl rfl ?_
      refine ni_xP (g := ni_gPush (.int 5) 941) (ni_ro [a, b, c, d, e, f] (940, ni_sP (ni_gPush (.int 5) 941)) (ni_me85_10 [a, b, c, d, e, f] _ (List.mem_of_getElem? (i := 64) rfl))) rfl ?_
      refine ni_xP (g := ni_gI (fun x y => x + y) 942) (ni_ro [a, b, c, d, e, f] (941, ni_sP (ni_gI (fun x y => x + y) 942)) (ni_me85_10 [a, b, c, d, e, f] _ (List.mem_of_getElem? (i := 65) rfl))) rfl ?_
      refine ni_xSld (ni_ro [a, b, c, d, e, f] (942, ni_sSld [a, b, c, d, e, f] 943) (ni_me85_10 [a, b, c, d, e, f] _ (List.mem_of_getElem? (i := 66) rfl))) ⟨by decide, rfl⟩ ?_
      refine ni_xIf false (ni_ro [a, b, c, d, e, f] (943, ni_sP (ni_gIf (fun x => decide (x = 0)) 950 946)) (ni_me85_10 [a, b, c, d, e, f] _ (List.mem_of_getElem? (i := 67) rfl))) (decide_eq_false hf) ?_
      refine ni_xP (g := ni_gPush (.int 1) 947) (ni_ro [a, b, c, d, e, f] (946, ni_sP (ni_gPush (.int 1) 947)) (ni_me85_10 [a, b, c, d, e, f] _ (List.mem_of_getElem? (i := 68) rfl))) rfl ?_
      refine ni_xP (g := ni_gGo 951) (ni_ro [a, b, c, d, e, f] (947, ni_sP (ni_gGo 951)) (ni_me85_10 [a, b, c, d, e, f] _ (List.mem_of_getElem? (i := 69) rfl))) rfl ?_
      refine ni_xV (ni_ro [a, b, c, d, e, f] (951, ni_sV 157 5 18 954) (ni_me85_10 [a, b, c, d, e, f] _ (List.mem_of_getElem? (i := 71) rfl))) rfl rfl rfl (Nat.le_of_ble_eq_true rfl) (ni_ofO (ni_km157 [a, b, c, d, e, f] _ _ _ _ _)) ?_
      refine ni_xSt (ni_ro [a, b, c, d, e, f] (954, ni_sSt 0 7 956) (ni_me85_10 [a, b, c, d, e, f] _ (List.mem_of_getElem? (i := 72) rfl))) rfl rfl ?_
      refine ni_xLd (ni_ro [a, b, c, d, e, f] (956, ni_sLd 3 2 957) (ni_me85_10 [a, b, c, d, e, f] _ (List.mem_of_getElem? (i := 73) rfl))) rfl rfl ?_
      refine ni_xV (ni_ro [a, b, c, d, e, f] (957, ni_sV 167 0 18 960) (ni_me85_10 [a, b, c, d, e, f] _ (List.mem_of_getElem? (i := 74) rfl))) rfl rfl rfl (Nat.le_of_ble_eq_true rfl) (ni_ofO (ni_k167 [a, b, c, d, e, f])) ?_
      refine ni_xLd (ni_ro [a, b, c, d, e, f] (960, ni_sLd 0 6 962) (ni_me85_10 [a, b, c, d, e, f] _ (List.mem_of_getElem? (i := 75) rfl))) rfl rfl ?_
      refine ni_xIc true (ni_ro [a, b, c, d, e, f] (962, ni_sP (ni_gIc (fun x y => decide (x = y)) 967 965)) (ni_me85_10 [a, b, c, d, e, f] _ (List.mem_of_getElem? (i := 76) rfl))) rfl ?_
      refine ni_xLd (ni_ro [a, b, c, d, e, f] (967, ni_sLd 0 6 969) (ni_me85_10 [a, b, c, d, e, f] _ (List.mem_of_getElem? (i := 77) rfl))) rfl rfl ?_
      refine ni_xIf true (ni_ro [a, b, c, d, e, f] (969, ni_sP (ni_gIf (fun x => decide (¬ x = 0)) 984 972)) (ni_me85_10 [a, b, c, d, e, f] _ (List.mem_of_getElem? (i := 78) rfl))) rfl ?_
      refine ni_xP (g := ni_gGo 3317) (ni_ro [a, b, c, d, e, f] (984, ni_sP (ni_gGo 3317)) (ni_me85_10 [a, b, c, d, e, f] _ (List.mem_of_getElem? (i := 79) rfl))) rfl ?_
      refine ni_xInc (ni_ro [a, b, c, d, e, f] (3317, ni_sInc 5 (6) 3320) (ni_me85_52 [a, b, c, d, e, f] _ (List.mem_of_getElem? (i := 0) rfl))) rfl rfl ?_
      refine ni_xP (g := ni_gGo 28) (ni_ro [a, b, c, d, e, f] (3320, ni_sP (ni_gGo 28)) (ni_me85_52 [a, b, c, d, e, f] _ (List.mem_of_getElem? (i := 1) rfl))) rfl ?_
      refine ni_xLd (ni_ro [a, b, c, d, e, f] (28, ni_sLd 0 5 30) (ni_me85_1 [a, b, c, d, e, f] _ (List.mem_of_getElem? (i := 0) rfl))) rfl rfl ?_
      refine ni_xLd (ni_ro [a, b, c, d, e, f] (30, ni_sLd 3 0 31) (ni_me85_1 [a, b, c, d, e, f] _ (List.mem_of_getElem? (i := 1) rfl))) rfl rfl ?_
      refine ni_xSln (ni_ro [a, b, c, d, e, f] (31, ni_sSln [a, b, c, d, e, f] 32) (ni_me85_1 [a, b, c, d, e, f] _ (List.mem_of_getElem? (i := 2) rfl))) rfl ?_
      refine ni_xP (g := ni_gPush (.int 6) 34) (ni_ro [a, b, c, d, e, f] (32, ni_sP (ni_gPush (.int 6) 34)) (ni_me85_1 [a, b, c, d, e, f] _ (List.mem_of_getElem? (i := 3) rfl))) rfl ?_
      refine ni_xP (g := ni_gI (fun x y => x - y) 35) (ni_ro [a, b, c, d, e, f] (34, ni_sP (ni_gI (fun x y => x - y) 35)) (ni_me85_1 [a, b, c, d, e, f] _ (List.mem_of_getElem? (i := 4) rfl))) rfl ?_
      refine ni_xIc true (ni_ro [a, b, c, d, e, f] (35, ni_sP (ni_gIc (fun x y => decide (y < x)) 3323 38)) (ni_me85_1 [a, b, c, d, e, f] _ (List.mem_of_getElem? (i := 5) rfl))) (show decide (Int32.ofNat 6 - 6 < 0 + 6) = true from by decide) ?_
      refine ni_xP (g := ni_gPush (.int 1) 3324) (ni_ro [a, b, c, d, e, f] (3323, ni_sP (ni_gPush (.int 1) 3324)) (ni_me85_52 [a, b, c, d, e, f] _ (List.mem_of_getElem? (i := 2) rfl))) rfl ?_
      exact ni_xR (ni_ro [a, b, c, d, e, f] (3324, ni_sR (some .boolean)) (ni_me85_52 [a, b, c, d, e, f] _ (List.mem_of_getElem? (i := 3) rfl))) rfl
theorem ni_ca9 (a b c d e f : Int32) : ni_G [a, b, c, d, e, f] 9 85 987 ni_ls0 [] (ni_P0, 0) (.inl (some (.int 1)), (ni_P1, 1)) := by
  by_cases hc : c = 0
  · skip
    refine ni_xLd (ni_ro [a, b, c, d, e, f] (987, ni_sLd 3 1 988) (ni_me85_11 [a, b, c, d, e, f] _ (List.mem_of_getElem? (i := 0) rfl))) rfl rfl ?_
    refine ni_xLd (ni_ro [a, b, c, d, e, f] (988, ni_sLd 3 0 989) (ni_me85_11 [a, b, c, d, e, f] _ (List.mem_of_getElem? (i := 1) rfl))) rfl rfl ?_
    refine ni_xLd (ni_ro [a, b, c, d, e, f] (989, ni_sLd 0 5 991) (ni_me85_11 [a, b, c, d, e, f] _ (List.mem_of_getElem? (i := 2) rfl))) rfl rfl ?_
    refine ni_xP (g := ni_gPush (.int 1) 992) (ni_ro [a, b, c, d, e, f] (991, ni_sP (ni_gPush (.int 1) 992)) (ni_me85_11 [a, b, c, d, e, f] _ (List.mem_of_getElem? (i := 3) rfl))) rfl ?_
    refine ni_xP (g := ni_gI (fun x y => x + y) 993) (ni_ro [a, b, c, d, e, f] (992, ni_sP (ni_gI (fun x y => x + y) 993)) (ni_me85_11 [a, b, c, d, e, f] _ (List.mem_of_getElem? (i := 4) rfl))) rfl ?_
    refine ni_xSld (ni_ro [a, b, c, d, e, f] (993, ni_sSld [a, b, c, d, e, f] 994) (ni_me85_11 [a, b, c, d, e, f] _ (List.mem_of_getElem? (i := 5) rfl))) ⟨by decide, rfl⟩ ?_
    refine ni_xLd (ni_ro [a, b, c, d, e, f] (994, ni_sLd 3 0 995) (ni_me85_11 [a, b, c, d, e, f] _ (List.mem_of_getElem? (i := 6) rfl))) rfl rfl ?_
    refine ni_xLd (ni_ro [a, b, c, d, e, f] (995, ni_sLd 0 5 997) (ni_me85_11 [a, b, c, d, e, f] _ (List.mem_of_getElem? (i := 7) rfl))) rfl rfl ?_
    refine ni_xP (g := ni_gPush (.int 2) 998) (ni_ro [a, b, c, d, e, f] (997, ni_sP (ni_gPush (.int 2) 998)) (ni_me85_11 [a, b, c, d, e, f] _ (List.mem_of_getElem? (i := 8) rfl))) rfl ?_
    refine ni_xP (g := ni_gI (fun x y => x + y) 999) (ni_ro [a, b, c, d, e, f] (998, ni_sP (ni_gI (fun x y => x + y) 999)) (ni_me85_11 [a, b, c, d, e, f] _ (List.mem_of_getElem? (i := 9) rfl))) rfl ?_
    refine ni_xSld (ni_ro [a, b, c, d, e, f] (999, ni_sSld [a, b, c, d, e, f] 1000) (ni_me85_11 [a, b, c, d, e, f] _ (List.mem_of_getElem? (i := 10) rfl))) ⟨by decide, rfl⟩ ?_
    refine ni_xIf true (ni_ro [a, b, c, d, e, f] (1000, ni_sP (ni_gIf (fun x => decide (x = 0)) 1007 1003)) (ni_me85_11 [a, b, c, d, e, f] _ (List.mem_of_getElem? (i := 11) rfl))) (decide_eq_true hc) ?_
    refine ni_xP (g := ni_gPush (.int 0) 1008) (ni_ro [a, b, c, d, e, f] (1007, ni_sP (ni_gPush (.int 0) 1008)) (ni_me85_11 [a, b, c, d, e, f] _ (List.mem_of_getElem? (i := 14) rfl))) rfl ?_
    refine ni_xLd (ni_ro [a, b, c, d, e, f] (1008, ni_sLd 3 0 1009) (ni_me85_11 [a, b, c, d, e, f] _ (List.mem_of_getElem? (i := 15) rfl))) rfl rfl ?_
    refine ni_xLd (ni_ro [a, b, c, d, e, f] (1009, ni_sLd 0 5 1011) (ni_me85_11 [a, b, c, d, e, f] _ (List.mem_of_getElem? (i := 16) rfl))) rfl rfl ?_
    refine ni_xP (g := ni_gPush (.int 3) 1012) (ni_ro [a, b, c, d, e, f] (1011, ni_sP (ni_gPush (.int 3) 1012)) (ni_me85_11 [a, b, c, d, e, f] _ (List.mem_of_getElem? (i := 17) rfl))) rfl ?_
    refine ni_xP (g := ni_gI (fun x y => x + y) 1013) (ni_ro [a, b, c, d, e, f] (1012, ni_sP (ni_gI (fun x y => x + y) 1013)) (ni_me85_11 [a, b, c, d, e, f] _ (List.mem_of_getElem? (i := 18) rfl))) rfl ?_
    refine ni_xSld (ni_ro [a, b, c, d, e, f] (1013, ni_sSld [a, b, c, d, e, f] 1014) (ni_me85_11 [a, b, c, d, e, f] _ (List.mem_of_getElem? (i := 19) rfl))) ⟨by decide, rfl⟩ ?_
    refine ni_xLd (ni_ro [a, b, c, d, e, f] (1014, ni_sLd 3 0 1015) (ni_me85_11 [a, b, c, d, e, f] _ (List.mem_of_getElem? (i := 20) rfl))) rfl rfl ?_
    refine ni_xLd (ni_ro [a, b, c, d, e, f] (1015, ni_sLd 0 5 1017) (ni_me85_11 [a, b, c, d, e, f] _ (List.mem_of_getElem? (i := 21) rfl))) rfl rfl ?_
    refine ni_xP (g := ni_gPush (.int 4) 1018) (ni_ro [a, b, c, d, e, f] (1017, ni_sP (ni_gPush (.int 4) 1018)) (ni_me85_11 [a, b, c, d, e, f] _ (List.mem_of_getElem? (i := 22) rfl))) rfl ?_
    refine ni_xP (g := ni_gI (fun x y => x + y) 1019) (ni_ro [a, b, c, d, e, f] (1018, ni_sP (ni_gI (fun x y => x + y) 1019)) (ni_me85_11 [a, b, c, d, e, f] _ (List.mem_of_getElem? (i := 23) rfl))) rfl ?_
    refine ni_xSld (ni_ro [a, b, c, d, e, f] (1019, ni_sSld [a, b, c, d, e, f] 1020) (ni_me85_11 [a, b, c, d, e, f] _ (List.mem_of_getElem? (i := 24) rfl))) ⟨by decide, rfl⟩ ?_
    refine ni_xLd (ni_ro [a, b, c, d, e, f] (1020, ni_sLd 3 3 1021) (ni_me85_11 [a, b, c, d, e, f] _ (List.mem_of_getElem? (i := 25) rfl))) rfl rfl ?_
    refine ni_xC (ni_ro [a, b, c, d, e, f] (1021, ni_sC 100 6 1024) (ni_me85_11 [a, b, c, d, e, f] _ (List.mem_of_getElem? (i := 26) rfl))) (Nat.le_of_ble_eq_true rfl) rfl rfl (Nat.le_of_ble_eq_true rfl) (ni_ofO (ni_kw100 [a, b, c, d, e, f] _ _ _ _)) ?_
    refine ni_xSt (ni_ro [a, b, c, d, e, f] (1024, ni_sSt 0 6 1026) (ni_me85_11 [a, b, c, d, e, f] _ (List.mem_of_getElem? (i := 27) rfl))) rfl rfl ?_
    refine ni_xLd (ni_ro [a, b, c, d, e, f] (1026, ni_sLd 3 2 1027) (ni_me85_11 [a, b, c, d, e, f] _ (List.mem_of_getElem? (i := 28) rfl))) rfl rfl ?_
    refine ni_xLd (ni_ro [a, b, c, d, e, f] (1027, ni_sLd 3 0 1028) (ni_me85_11 [a, b, c, d, e, f] _ (List.mem_of_getElem? (i := 29) rfl))) rfl rfl ?_
    refine ni_xLd (ni_ro [a, b, c, d, e, f] (1028, ni_sLd 0 5 1030) (ni_me85_11 [a, b, c, d, e, f] _ (List.mem_of_getElem? (i := 30) rfl))) rfl rfl ?_
    refine ni_xP (g := ni_gPush (.int 1) 1031) (ni_ro [a, b, c, d, e, f] (1030, ni_sP (ni_gPush (.int 1) 1031)) (ni_me85_11 [a, b, c, d, e, f] _ (List.mem_of_getElem? (i := 31) rfl))) rfl ?_
    refine ni_xP (g := ni_gI (fun x y => x + y) 1032) (ni_ro [a, b, c, d, e, f] (1031, ni_sP (ni_gI (fun x y => x + y) 1032)) (ni_me85_11 [a, b, c, d, e, f] _ (List.mem_of_getElem? (i := 32) rfl))) rfl ?_
    refine ni_xSld (ni_ro [a, b, c, d, e, f] (1032, ni_sSld [a, b, c, d, e, f] 1033) (ni_me85_11 [a, b, c, d, e, f] _ (List.mem_of_getElem? (i := 33) rfl))) ⟨by decide, rfl⟩ ?_
    refine ni_xLd (ni_ro [a, b, c, d, e, f] (1033, ni_sLd 3 0 1034) (ni_me85_11 [a, b, c, d, e, f] _ (List.mem_of_getElem? (i := 34) rfl))) rfl rfl ?_
    refine ni_xLd (ni_ro [a, b, c, d, e, f] (1034, ni_sLd 0 5 1036) (ni_me85_11 [a, b, c, d, e, f] _ (List.mem_of_getElem? (i := 35) rfl))) rfl rfl ?_
    refine ni_xP (g := ni_gPush (.int 2) 1037) (ni_ro [a, b, c, d, e, f] (1036, ni_sP (ni_gPush (.int 2) 1037)) (ni_me85_11 [a, b, c, d, e, f] _ (List.mem_of_getElem? (i := 36) rfl))) rfl ?_
    refine ni_xP (g := ni_gI (fun x y => x + y) 1038) (ni_ro [a, b, c, d, e, f] (1037, ni_sP (ni_gI (fun x y => x + y) 1038)) (ni_me85_11 [a, b, c, d, e, f] _ (List.mem_of_getElem? (i := 37) rfl))) rfl ?_
    refine ni_xSld (ni_ro [a, b, c, d, e, f] (1038, ni_sSld [a, b, c, d, e, f] 1039) (ni_me85_11 [a, b, c, d, e, f] _ (List.mem_of_getElem? (i := 38) rfl))) ⟨by decide, rfl⟩ ?_
    refine ni_xIf true (ni_ro [a, b, c, d, e, f] (1039, ni_sP (ni_gIf (fun x => decide (x = 0)) 1046 1042)) (ni_me85_11 [a, b, c, d, e, f] _ (List.mem_of_getElem? (i := 39) rfl))) (decide_eq_true hc) ?_
    refine ni_xP (g := ni_gPush (.int 0) 1047) (ni_ro [a, b, c, d, e, f] (1046, ni_sP (ni_gPush (.int 0) 1047)) (ni_me85_11 [a, b, c, d, e, f] _ (List.mem_of_getElem? (i := 42) rfl))) rfl ?_
    refine ni_xLd (ni_ro [a, b, c, d, e, f] (1047, ni_sLd 3 0 1048) (ni_me85_11 [a, b, c, d, e, f] _ (List.mem_of_getElem? (i := 43) rfl))) rfl rfl ?_
    refine ni_xLd (ni_ro [a, b, c, d, e, f] (1048, ni_sLd 0 5 1050) (ni_me85_11 [a, b, c, d, e, f] _ (List.mem_of_getElem? (i := 44) rfl))) rfl rfl ?_
    refine ni_xP (g := ni_gPush (.int 3) 1051) (ni_ro [a, b, c, d, e, f] (1050, ni_sP (ni_gPush (.int 3) 1051)) (ni_me85_11 [a, b, c, d, e, f] _ (List.mem_of_getElem? (i := 45) rfl))) rfl ?_
    refine ni_xP (g := ni_gI (fun x y => x + y) 1052) (ni_ro [a, b, c, d, e, f] (1051, ni_sP (ni_gI (fun x y => x + y) 1052)) (ni_me85_11 [a, b, c, d, e, f] _ (List.mem_of_getElem? (i := 46) rfl))) rfl ?_
    refine ni_xSld (ni_ro [a, b, c, d, e, f] (1052, ni_sSld [a, b, c, d, e, f] 1053) (ni_me85_11 [a, b, c, d, e, f] _ (List.mem_of_getElem? (i := 47) rfl))) ⟨by decide, rfl⟩ ?_
    refine ni_xLd (ni_ro [a, b, c, d, e, f] (1053, ni_sLd 3 0 1054) (ni_me85_11 [a, b, c, d, e, f] _ (List.mem_of_getElem? (i := 48) rfl))) rfl rfl ?_
    refine ni_xLd (ni_ro [a, b, c, d, e, f] (1054, ni_sLd 0 5 1056) (ni_me85_11 [a, b, c, d, e, f] _ (List.mem_of_getElem? (i := 49) rfl))) rfl rfl ?_
    refine ni_xP (g := ni_gPush (.int 4) 1057) (ni_ro [a, b, c, d, e, f] (1056, ni_sP (ni_gPush (.int 4) 1057)) (ni_me85_11 [a, b, c, d, e, f] _ (List.mem_of_getElem? (i := 50) rfl))) rfl ?_
    refine ni_xP (g := ni_gI (fun x y => x + y) 1058) (ni_ro [a, b, c, d, e, f] (1057, ni_sP (ni_gI (fun x y => x + y) 1058)) (ni_me85_11 [a, b, c, d, e, f] _ (List.mem_of_getElem? (i := 51) rfl))) rfl ?_
    refine ni_xSld (ni_ro [a, b, c, d, e, f] (1058, ni_sSld [a, b, c, d, e, f] 1059) (ni_me85_11 [a, b, c, d, e, f] _ (List.mem_of_getElem? (i := 52) rfl))) ⟨by decide, rfl⟩ ?_
    refine ni_xV (ni_ro [a, b, c, d, e, f] (1059, ni_sV 159 4 18 1062) (ni_me85_11 [a, b, c, d, e, f] _ (List.mem_of_getElem? (i := 53) rfl))) rfl rfl rfl (Nat.le_of_ble_eq_true rfl) (ni_ofO (ni_km159 [a, b, c, d, e, f] _ _ _ _)) ?_
    refine ni_xSt (ni_ro [a, b, c, d, e, f] (1062, ni_sSt 0 7 1064) (ni_me85_11 [a, b, c, d, e, f] _ (List.mem_of_getElem? (i := 54) rfl))) rfl rfl ?_
    refine ni_xLd (ni_ro [a, b, c, d, e, f] (1064, ni_sLd 3 2 1065) (ni_me85_11 [a, b, c, d, e, f] _ (List.mem_of_getElem? (i := 55) rfl))) rfl rfl ?_
    refine ni_xV (ni_ro [a, b, c, d, e, f] (1065, ni_sV 167 0 18 1068) (ni_me85_11 [a, b, c, d, e, f] _ (List.mem_of_getElem? (i := 56) rfl))) rfl rfl rfl (Nat.le_of_ble_eq_true rfl) (ni_ofO (ni_k167 [a, b, c, d, e, f])) ?_
    refine ni_xLd (ni_ro [a, b, c, d, e, f] (1068, ni_sLd 0 6 1070) (ni_me85_11 [a, b, c, d, e, f] _ (List.mem_of_getElem? (i := 57) rfl))) rfl rfl ?_
    refine ni_xIc true (ni_ro [a, b, c, d, e, f] (1070, ni_sP (ni_gIc (fun x y => decide (x = y)) 1075 1073)) (ni_me85_11 [a, b, c, d, e, f] _ (List.mem_of_getElem? (i := 58) rfl))) rfl ?_
    refine ni_xLd (ni_ro [a, b, c, d, e, f] (1075, ni_sLd 0 6 1077) (ni_me85_11 [a, b, c, d, e, f] _ (List.mem_of_getElem? (i := 59) rfl))) rfl rfl ?_
    refine ni_xIf true (ni_ro [a, b, c, d, e, f] (1077, ni_sP (ni_gIf (fun x => decide (¬ x = 0)) 1092 1080)) (ni_me85_11 [a, b, c, d, e, f] _ (List.mem_of_getElem? (i := 60) rfl))) rfl ?_
    refine ni_xP (g := ni_gGo 3317) (ni_ro [a, b, c, d, e, f] (1092, ni_sP (ni_gGo 3317)) (ni_me85_11 [a, b, c, d, e, f] _ (List.mem_of_getElem? (i := 61) rfl))) rfl ?_
    refine ni_xInc (ni_ro [a, b, c, d, e, f] (3317, ni_sInc 5 (6) 3320) (ni_me85_52 [a, b, c, d, e, f] _ (List.mem_of_getElem? (i := 0) rfl))) rfl rfl ?_
    refine ni_xP (g := ni_gGo 28) (ni_ro [a, b, c, d, e, f] (3320, ni_sP (ni_gGo 28)) (ni_me85_52 [a, b, c, d, e, f] _ (List.mem_of_getElem? (i := 1) rfl))) rfl ?_
    refine ni_xLd (ni_ro [a, b, c, d, e, f] (28, ni_sLd 0 5 30) (ni_me85_1 [a, b, c, d, e, f] _ (List.mem_of_getElem? (i := 0) rfl))) rfl rfl ?_
    refine ni_xLd (ni_ro [a, b, c, d, e, f] (30, ni_sLd 3 0 31) (ni_me85_1 [a, b, c, d, e, f] _ (List.mem_of_getElem? (i := 1) rfl))) rfl rfl ?_
    refine ni_xSln (ni_ro [a, b, c, d, e, f] (31, ni_sSln [a, b, c, d, e, f] 32) (ni_me85_1 [a, b, c, d, e, f] _ (List.mem_of_getElem? (i := 2) rfl))) rfl ?_
    refine ni_xP (g := ni_gPush (.int 6) 34) (ni_ro [a, b, c, d, e, f] (32, ni_sP (ni_gPush (.int 6) 34)) (ni_me85_1 [a, b, c, d, e, f] _ (List.mem_of_getElem? (i := 3) rfl))) rfl ?_
    refine ni_xP (g := ni_gI (fun x y => x - y) 35) (ni_ro [a, b, c, d, e, f] (34, ni_sP (ni_gI (fun x y => x - y) 35)) (ni_me85_1 [a, b, c, d, e, f] _ (List.mem_of_getElem? (i := 4) rfl))) rfl ?_
    refine ni_xIc true (ni_ro [a, b, c, d, e, f] (35, ni_sP (ni_gIc (fun x y => decide (y < x)) 3323 38)) (ni_me85_1 [a, b, c, d, e, f] _ (List.mem_of_getElem? (i := 5) rfl))) (show decide (Int32.ofNat 6 - 6 < 0 + 6) = true from by decide) ?_
    refine ni_xP (g := ni_gPush (.int 1) 3324) (ni_ro [a, b, c, d, e, f] (3323, ni_sP (ni_gPush (.int 1) 3324)) (ni_me85_52 [a, b, c, d, e, f] _ (List.mem_of_getElem? (i := 2) rfl))) rfl ?_
    exact ni_xR (ni_ro [a, b, c, d, e, f] (3324, ni_sR (some .boolean)) (ni_me85_52 [a, b, c, d, e, f] _ (List.mem_of_getElem? (i := 3) rfl))) rfl
  · skip
    refine ni_xLd (ni_ro [a, b, c, d, e, f] (987, ni_sLd 3 1 988) (ni_me85_11 [a, b, c, d, e, f] _ (List.mem_of_getElem? (i := 0) rfl))) rfl rfl ?_
    refine ni_xLd (ni_ro [a, b, c, d, e, f] (988, ni_sLd 3 0 989) (ni_me85_11 [a, b, c, d, e, f] _ (List.mem_of_getElem? (i := 1) rfl))) rfl rfl ?_
    refine ni_xLd (ni_ro [a, b, c, d, e, f] (989, ni_sLd 0 5 991) (ni_me85_11 [a, b, c, d, e, f] _ (List.mem_of_getElem? (i := 2) rfl))) rfl rfl ?_
    refine ni_xP (g := ni_gPush (.int 1) 992) (ni_ro [a, b, c, d, e, f] (991, ni_sP (ni_gPush (.int 1) 992)) (ni_me85_11 [a, b, c, d, e, f] _ (List.mem_of_getElem? (i := 3) rfl))) rfl ?_
    refine ni_xP (g := ni_gI (fun x y => x + y) 993) (ni_ro [a, b, c, d, e, f] (992, ni_sP (ni_gI (fun x y => x + y) 993)) (ni_me85_11 [a, b, c, d, e, f] _ (List.mem_of_getElem? (i := 4) rfl))) rfl ?_
    refine ni_xSld (ni_ro [a, b, c, d, e, f] (993, ni_sSld [a, b, c, d, e, f] 994) (ni_me85_11 [a, b, c, d, e, f] _ (List.mem_of_getElem? (i := 5) rfl))) ⟨by decide, rfl⟩ ?_
    refine ni_xLd (ni_ro [a, b, c, d, e, f] (994, ni_sLd 3 0 995) (ni_me85_11 [a, b, c, d, e, f] _ (List.mem_of_getElem? (i := 6) rfl))) rfl rfl ?_
    refine ni_xLd (ni_ro [a, b, c, d, e, f] (995, ni_sLd 0 5 997) (ni_me85_11 [a, b, c, d, e, f] _ (List.mem_of_getElem? (i := 7) rfl))) rfl rfl ?_
    refine ni_xP (g := ni_gPush (.int 2) 998) (ni_ro [a, b, c, d, e, f] (997, ni_sP (ni_gPush (.int 2) 998)) (ni_me85_11 [a, b, c, d, e, f] _ (List.mem_of_getElem? (i := 8) rfl))) rfl ?_
    refine ni_xP (g := ni_gI (fun x y => x + y) 999) (ni_ro [a, b, c, d, e, f] (998, ni_sP (ni_gI (fun x y => x + y) 999)) (ni_me85_11 [a, b, c, d, e, f] _ (List.mem_of_getElem? (i := 9) rfl))) rfl ?_
    refine ni_xSld (ni_ro [a, b, c, d, e, f] (999, ni_sSld [a, b, c, d, e, f] 1000) (ni_me85_11 [a, b, c, d, e, f] _ (List.mem_of_getElem? (i := 10) rfl))) ⟨by decide, rfl⟩ ?_
    refine ni_xIf false (ni_ro [a, b, c, d, e, f] (1000, ni_sP (ni_gIf (fun x => decide (x = 0)) 1007 1003)) (ni_me85_11 [a, b, c, d, e, f] _ (List.mem_of_getElem? (i := 11) rfl))) (decide_eq_false hc) ?_
    refine ni_xP (g := ni_gPush (.int 1) 1004) (ni_ro [a, b, c, d, e, f] (1003, ni_sP (ni_gPush (.int 1) 1004)) (ni_me85_11 [a, b, c, d, e, f] _ (List.mem_of_getElem? (i := 12) rfl))) rfl ?_
    refine ni_xP (g := ni_gGo 1008) (ni_ro [a, b, c, d, e, f] (1004, ni_sP (ni_gGo 1008)) (ni_me85_11 [a, b, c, d, e, f] _ (List.mem_of_getElem? (i := 13) rfl))) rfl ?_
    refine ni_xLd (ni_ro [a, b, c, d, e, f] (1008, ni_sLd 3 0 1009) (ni_me85_11 [a, b, c, d, e, f] _ (List.mem_of_getElem? (i := 15) rfl))) rfl rfl ?_
    refine ni_xLd (ni_ro [a, b, c, d, e, f] (1009, ni_sLd 0 5 1011) (ni_me85_11 [a, b, c, d, e, f] _ (List.mem_of_getElem? (i := 16) rfl))) rfl rfl ?_
    refine ni_xP (g := ni_gPush (.int 3) 1012) (ni_ro [a, b, c, d, e, f] (1011, ni_sP (ni_gPush (.int 3) 1012)) (ni_me85_11 [a, b, c, d, e, f] _ (List.mem_of_getElem? (i := 17) rfl))) rfl ?_
    refine ni_xP (g := ni_gI (fun x y => x + y) 1013) (ni_ro [a, b, c, d, e, f] (1012, ni_sP (ni_gI (fun x y => x + y) 1013)) (ni_me85_11 [a, b, c, d, e, f] _ (List.mem_of_getElem? (i := 18) rfl))) rfl ?_
    refine ni_xSld (ni_ro [a, b, c, d, e, f] (1013, ni_sSld [a, b, c, d, e, f] 1014) (ni_me85_11 [a, b, c, d, e, f] _ (List.mem_of_getElem? (i := 19) rfl))) ⟨by decide, rfl⟩ ?_
    refine ni_xLd (ni_ro [a, b, c, d, e, f] (1014, ni_sLd 3 0 1015) (ni_me85_11 [a, b, c, d, e, f] _ (List.mem_of_getElem? (i := 20) rfl))) rfl rfl ?_
    refine ni_xLd (ni_ro [a, b, c, d, e, f] (1015, ni_sLd 0 5 1017) (ni_me85_11 [a, b, c, d, e, f] _ (List.mem_of_getElem? (i := 21) rfl))) rfl rfl ?_
    refine ni_xP (g := ni_gPush (.int 4) 1018) (ni_ro [a, b, c, d, e, f] (1017, ni_sP (ni_gPush (.int 4) 1018)) (ni_me85_11 [a, b, c, d, e, f] _ (List.mem_of_getElem? (i := 22) rfl))) rfl ?_
    refine ni_xP (g := ni_gI (fun x y => x + y) 1019) (ni_ro [a, b, c, d, e, f] (1018, ni_sP (ni_gI (fun x y => x + y) 1019)) (ni_me85_11 [a, b, c, d, e, f] _ (List.mem_of_getElem? (i := 23) rfl))) rfl ?_
    refine ni_xSld (ni_ro [a, b, c, d, e, f] (1019, ni_sSld [a, b, c, d, e, f] 1020) (ni_me85_11 [a, b, c, d, e, f] _ (List.mem_of_getElem? (i := 24) rfl))) ⟨by decide, rfl⟩ ?_
    refine ni_xLd (ni_ro [a, b, c, d, e, f] (1020, ni_sLd 3 3 1021) (ni_me85_11 [a, b, c, d, e, f] _ (List.mem_of_getElem? (i := 25) rfl))) rfl rfl ?_
    refine ni_xC (ni_ro [a, b, c, d, e, f] (1021, ni_sC 100 6 1024) (ni_me85_11 [a, b, c, d, e, f] _ (List.mem_of_getElem? (i := 26) rfl))) (Nat.le_of_ble_eq_true rfl) rfl rfl (Nat.le_of_ble_eq_true rfl) (ni_ofO (ni_kw100 [a, b, c, d, e, f] _ _ _ _)) ?_
    refine ni_xSt (ni_ro [a, b, c, d, e, f] (1024, ni_sSt 0 6 1026) (ni_me85_11 [a, b, c, d, e, f] _ (List.mem_of_getElem? (i := 27) rfl))) rfl rfl ?_
    refine ni_xLd (ni_ro [a, b, c, d, e, f] (1026, ni_sLd 3 2 1027) (ni_me85_11 [a, b, c, d, e, f] _ (List.mem_of_getElem? (i := 28) rfl))) rfl rfl ?_
    refine ni_xLd (ni_ro [a, b, c, d, e, f] (1027, ni_sLd 3 0 1028) (ni_me85_11 [a, b, c, d, e, f] _ (List.mem_of_getElem? (i := 29) rfl))) rfl rfl ?_
    refine ni_xLd (ni_ro [a, b, c, d, e, f] (1028, ni_sLd 0 5 1030) (ni_me85_11 [a, b, c, d, e, f] _ (List.mem_of_getElem? (i := 30) rfl))) rfl rfl ?_
    refine ni_xP (g := ni_gPush (.int 1) 1031) (ni_ro [a, b, c, d, e, f] (1030, ni_sP (ni_gPush (.int 1) 1031)) (ni_me85_11 [a, b, c, d, e, f] _ (List.mem_of_getElem? (i := 31) rfl))) rfl ?_
    refine ni_xP (g := ni_gI (fun x y => x + y) 1032) (ni_ro [a, b, c, d, e, f] (1031, ni_sP (ni_gI (fun x y => x + y) 1032)) (ni_me85_11 [a, b, c, d, e, f] _ (List.mem_of_getElem? (i := 32) rfl))) rfl ?_
    refine ni_xSld (ni_ro [a, b, c, d, e, f] (1032, ni_sSld [a, b, c, d, e, f] 1033) (ni_me85_11 [a, b, c, d, e, f] _ (List.mem_of_getElem? (i := 33) rfl))) ⟨by decide, rfl⟩ ?_
    refine ni_xLd (ni_ro [a, b, c, d, e, f] (1033, ni_sLd 3 0 1034) (ni_me85_11 [a, b, c, d, e, f] _ (List.mem_of_getElem? (i := 34) rfl))) rfl rfl ?_
    refine ni_xLd (ni_ro [a, b, c, d, e, f] (1034, ni_sLd 0 5 1036) (ni_me85_11 [a, b, c, d, e, f] _ (List.mem_of_getElem? (i := 35) rfl))) rfl rfl ?_
    refine ni_xP (g := ni_gPush (.int 2) 1037) (ni_ro [a, b, c, d, e, f] (1036, ni_sP (ni_gPush (.int 2) 1037)) (ni_me85_11 [a, b, c, d, e, f] _ (List.mem_of_getElem? (i := 36) rfl))) rfl ?_
    refine ni_xP (g := ni_gI (fun x y => x + y) 1038) (ni_ro [a, b, c, d, e, f] (1037, ni_sP (ni_gI (fun x y => x + y) 1038)) (ni_me85_11 [a, b, c, d, e, f] _ (List.mem_of_getElem? (i := 37) rfl))) rfl ?_
    refine ni_xSld (ni_ro [a, b, c, d, e, f] (1038, ni_sSld [a, b, c, d, e, f] 1039) (ni_me85_11 [a, b, c, d, e, f] _ (List.mem_of_getElem? (i := 38) rfl))) ⟨by decide, rfl⟩ ?_
    refine ni_xIf false (ni_ro [a, b, c, d, e, f] (1039, ni_sP (ni_gIf (fun x => decide (x = 0)) 1046 1042)) (ni_me85_11 [a, b, c, d, e, f] _ (List.mem_of_getElem? (i := 39) rfl))) (decide_eq_false hc) ?_
    refine ni_xP (g := ni_gPush (.int 1) 1043) (ni_ro [a, b, c, d, e, f] (1042, ni_sP (ni_gPush (.int 1) 1043)) (ni_me85_11 [a, b, c, d, e, f] _ (List.mem_of_getElem? (i := 40) rfl))) rfl ?_
    refine ni_xP (g := ni_gGo 1047) (ni_ro [a, b, c, d, e, f] (1043, ni_sP (ni_gGo 1047)) (ni_me85_11 [a, b, c, d, e, f] _ (List.mem_of_getElem? (i := 41) rfl))) rfl ?_
    refine ni_xLd (ni_ro [a, b, c, d, e, f] (1047, ni_sLd 3 0 1048) (ni_me85_11 [a, b, c, d, e, f] _ (List.mem_of_getElem? (i := 43) rfl))) rfl rfl ?_
    refine ni_xLd (ni_ro [a, b, c, d, e, f] (1048, ni_sLd 0 5 1050) (ni_me85_11 [a, b, c, d, e, f] _ (List.mem_of_getElem? (i := 44) rfl))) rfl rfl ?_
    refine ni_xP (g := ni_gPush (.int 3) 1051) (ni_ro [a, b, c, d, e, f] (1050, ni_sP (ni_gPush (.int 3) 1051)) (ni_me85_11 [a, b, c, d, e, f] _ (List.mem_of_getElem? (i := 45) rfl))) rfl ?_
    refine ni_xP (g := ni_gI (fun x y => x + y) 1052) (ni_ro [a, b, c, d, e, f] (1051, ni_sP (ni_gI (fun x y => x + y) 1052)) (ni_me85_11 [a, b, c, d, e, f] _ (List.mem_of_getElem? (i := 46) rfl))) rfl ?_
    refine ni_xSld (ni_ro [a, b, c, d, e, f] (1052, ni_sSld [a, b, c, d, e, f] 1053) (ni_me85_11 [a, b, c, d, e, f] _ (List.mem_of_getElem? (i := 47) rfl))) ⟨by decide, rfl⟩ ?_
    refine ni_xLd (ni_ro [a, b, c, d, e, f] (1053, ni_sLd 3 0 1054) (ni_me85_11 [a, b, c, d, e, f] _ (List.mem_of_getElem? (i := 48) rfl))) rfl rfl ?_
    refine ni_xLd (ni_ro [a, b, c, d, e, f] (1054, ni_sLd 0 5 1056) (ni_me85_11 [a, b, c, d, e, f] _ (List.mem_of_getElem? (i := 49) rfl))) rfl rfl ?_
    refine ni_xP (g := ni_gPush (.int 4) 1057) (ni_ro [a, b, c, d, e, f] (1056, ni_sP (ni_gPush (.int 4) 1057)) (ni_me85_11 [a, b, c, d, e, f] _ (List.mem_of_getElem? (i := 50) rfl))) rfl ?_
    refine ni_xP (g := ni_gI (fun x y => x + y) 1058) (ni_ro [a, b, c, d, e, f] (1057, ni_sP (ni_gI (fun x y => x + y) 1058)) (ni_me85_11 [a, b, c, d, e, f] _ (List.mem_of_getElem? (i := 51) rfl))) rfl ?_
    refine ni_xSld (ni_ro [a, b, c, d, e, f] (1058, ni_sSld [a, b, c, d, e, f] 1059) (ni_me85_11 [a, b, c, d, e, f] _ (List.mem_of_getElem? (i := 52) rfl))) ⟨by decide, rfl⟩ ?_
    refine ni_xV (ni_ro [a, b, c, d, e, f] (1059, ni_sV 159 4 18 1062) (ni_me85_11 [a, b, c, d, e, f] _ (List.mem_of_getElem? (i := 53) rfl))) rfl rfl rfl (Nat.le_of_ble_eq_true rfl) (ni_ofO (ni_km159 [a, b, c, d, e, f] _ _ _ _)) ?_
    refine ni_xSt (ni_ro [a, b, c, d, e, f] (1062, ni_sSt 0 7 1064) (ni_me85_11 [a, b, c, d, e, f] _ (List.mem_of_getElem? (i := 54) rfl))) rfl rfl ?_
    refine ni_xLd (ni_ro [a, b, c, d, e, f] (1064, ni_sLd 3 2 1065) (ni_me85_11 [a, b, c, d, e, f] _ (List.mem_of_getElem? (i := 55) rfl))) rfl rfl ?_
    refine ni_xV (ni_ro [a, b, c, d, e, f] (1065, ni_sV 167 0 18 1068) (ni_me85_11 [a, b, c, d, e, f] _ (List.mem_of_getElem? (i := 56) rfl))) rfl rfl rfl (Nat.le_of_ble_eq_true rfl) (ni_ofO (ni_k167 [a, b, c, d, e, f])) ?_
    refine ni_xLd (ni_ro [a, b, c, d, e, f] (1068, ni_sLd 0 6 1070) (ni_me85_11 [a, b, c, d, e, f] _ (List.mem_of_getElem? (i := 57) rfl))) rfl rfl ?_
    refine ni_xIc true (ni_ro [a, b, c, d, e, f] (1070, ni_sP (ni_gIc (fun x y => decide (x = y)) 1075 1073)) (ni_me85_11 [a, b, c, d, e, f] _ (List.mem_of_getElem? (i := 58) rfl))) rfl ?_
    refine ni_xLd (ni_ro [a, b, c, d, e, f] (1075, ni_sLd 0 6 1077) (ni_me85_11 [a, b, c, d, e, f] _ (List.mem_of_getElem? (i := 59) rfl))) rfl rfl ?_
    refine ni_xIf true (ni_ro [a, b, c, d, e, f] (1077, ni_sP (ni_gIf (fun x => decide (¬ x = 0)) 1092 1080)) (ni_me85_11 [a, b, c, d, e, f] _ (List.mem_of_getElem? (i := 60) rfl))) rfl ?_
    refine ni_xP (g := ni_gGo 3317) (ni_ro [a, b, c, d, e, f] (1092, ni_sP (ni_gGo 3317)) (ni_me85_11 [a, b, c, d, e, f] _ (List.mem_of_getElem? (i := 61) rfl))) rfl ?_
    refine ni_xInc (ni_ro [a, b, c, d, e, f] (3317, ni_sInc 5 (6) 3320) (ni_me85_52 [a, b, c, d, e, f] _ (List.mem_of_getElem? (i := 0) rfl))) rfl rfl ?_
    refine ni_xP (g := ni_gGo 28) (ni_ro [a, b, c, d, e, f] (3320, ni_sP (ni_gGo 28)) (ni_me85_52 [a, b, c, d, e, f] _ (List.mem_of_getElem? (i := 1) rfl))) rfl ?_
    refine ni_xLd (ni_ro [a, b, c, d, e, f] (28, ni_sLd 0 5 30) (ni_me85_1 [a, b, c, d, e, f] _ (List.mem_of_getElem? (i := 0) rfl))) rfl rfl ?_
    refine ni_xLd (ni_ro [a, b, c, d, e, f] (30, ni_sLd 3 0 31) (ni_me85_1 [a, b, c, d, e, f] _ (List.mem_of_getElem? (i := 1) rfl))) rfl rfl ?_
    refine ni_xSln (ni_ro [a, b, c, d, e, f] (31, ni_sSln [a, b, c, d, e, f] 32) (ni_me85_1 [a, b, c, d, e, f] _ (List.mem_of_getElem? (i := 2) rfl))) rfl ?_
    refine ni_xP (g := ni_gPush (.int 6) 34) (ni_ro [a, b, c, d, e, f] (32, ni_sP (ni_gPush (.int 6) 34)) (ni_me85_1 [a, b, c, d, e, f] _ (List.mem_of_getElem? (i := 3) rfl))) rfl ?_
    refine ni_xP (g := ni_gI (fun x y => x - y) 35) (ni_ro [a, b, c, d, e, f] (34, ni_sP (ni_gI (fun x y => x - y) 35)) (ni_me85_1 [a, b, c, d, e, f] _ (List.mem_of_getElem? (i := 4) rfl))) rfl ?_
    refine ni_xIc true (ni_ro [a, b, c, d, e, f] (35, ni_sP (ni_gIc (fun x y => decide (y < x)) 3323 38)) (ni_me85_1 [a, b, c, d, e, f] _ (List.mem_of_getElem? (i := 5) rfl))) (show decide (Int32.ofNat 6 - 6 < 0 + 6) = true from by decide) ?_
    refine ni_xP (g := ni_gPush (.int 1) 3324) (ni_ro [a, b, c, d, e, f] (3323, ni_sP (ni_gPush (.int 1) 3324)) (ni_me85_52 [a, b, c, d, e, f] _ (List.mem_of_getElem? (i := 2) rfl))) rfl ?_
    exact ni_xR (ni_ro [a, b, c, d, e, f] (3324, ni_sR (some .boolean)) (ni_me85_52 [a, b, c, d, e, f] _ (List.mem_of_getElem? (i := 3) rfl))) rfl
theorem ni_ca10 (a b c d e f : Int32) : ni_G [a, b, c, d, e, f] 9 85 1095 ni_ls0 [] (ni_P0, 0) (.inl (some (.int 1)), (ni_P1, 1)) := by
  refine ni_xLd (ni_ro [a, b, c, d, e, f] (1095, ni_sLd 3 1 1096) (ni_me85_12 [a, b, c, d, e, f] _ (List.mem_of_getElem? (i := 0) rfl))) rfl rfl ?_
  refine ni_xLd (ni_ro [a, b, c, d, e, f] (1096, ni_sLd 3 0 1097) (ni_me85_12 [a, b, c, d, e, f] _ (List.mem_of_getElem? (i := 1) rfl))) rfl rfl ?_
  refine ni_xLd (ni_ro [a, b, c, d, e, f] (1097, ni_sLd 0 5 1099) (ni_me85_12 [a, b, c, d, e, f] _ (List.mem_of_getElem? (i := 2) rfl))) rfl rfl ?_
  refine ni_xP (g := ni_gPush (.int 1) 1100) (ni_ro [a, b, c, d, e, f] (1099, ni_sP (ni_gPush (.int 1) 1100)) (ni_me85_12 [a, b, c, d, e, f] _ (List.mem_of_getElem? (i := 3) rfl))) rfl ?_
  refine ni_xP (g := ni_gI (fun x y => x + y) 1101) (ni_ro [a, b, c, d, e, f] (1100, ni_sP (ni_gI (fun x y => x + y) 1101)) (ni_me85_12 [a, b, c, d, e, f] _ (List.mem_of_getElem? (i := 4) rfl))) rfl ?_
  refine ni_xSld (ni_ro [a, b, c, d, e, f] (1101, ni_sSld [a, b, c, d, e, f] 1102) (ni_me85_12 [a, b, c, d, e, f] _ (List.mem_of_getElem? (i := 5) rfl))) ⟨by decide, rfl⟩ ?_
  refine ni_xLd (ni_ro [a, b, c, d, e, f] (1102, ni_sLd 3 0 1103) (ni_me85_12 [a, b, c, d, e, f] _ (List.mem_of_getElem? (i := 6) rfl))) rfl rfl ?_
  refine ni_xLd (ni_ro [a, b, c, d, e, f] (1103, ni_sLd 0 5 1105) (ni_me85_12 [a, b, c, d, e, f] _ (List.mem_of_getElem? (i := 7) rfl))) rfl rfl ?_
  refine ni_xP (g := ni_gPush (.int 2) 1106) (ni_ro [a, b, c, d, e, f] (1105, ni_sP (ni_gPush (.int 2) 1106)) (ni_me85_12 [a, b, c, d, e, f] _ (List.mem_of_getElem? (i := 8) rfl))) rfl ?_
  refine ni_xP (g := ni_gI (fun x y => x + y) 1107) (ni_ro [a, b, c, d, e, f] (1106, ni_sP (ni_gI (fun x y => x + y) 1107)) (ni_me85_12 [a, b, c, d, e, f] _ (List.mem_of_getElem? (i := 9) rfl))) rfl ?_
  refine ni_xSld (ni_ro [a, b, c, d, e, f] (1107, ni_sSld [a, b, c, d, e, f] 1108) (ni_me85_12 [a, b, c, d, e, f] _ (List.mem_of_getElem? (i := 10) rfl))) ⟨by decide, rfl⟩ ?_
  refine ni_xLd (ni_ro [a, b, c, d, e, f] (1108, ni_sLd 3 0 1109) (ni_me85_12 [a, b, c, d, e, f] _ (List.mem_of_getElem? (i := 11) rfl))) rfl rfl ?_
  refine ni_xLd (ni_ro [a, b, c, d, e, f] (1109, ni_sLd 0 5 1111) (ni_me85_12 [a, b, c, d, e, f] _ (List.mem_of_getElem? (i := 12) rfl))) rfl rfl ?_
  refine ni_xP (g := ni_gPush (.int 3) 1112) (ni_ro [a, b, c, d, e, f] (1111, ni_sP (ni_gPush (.int 3) 1112)) (ni_me85_12 [a, b, c, d, e, f] _ (List.mem_of_getElem? (i := 13) rfl))) rfl ?_
  refine ni_xP (g := ni_gI (fun x y => x + y) 1113) (ni_ro [a, b, c, d, e, f] (1112, ni_sP (ni_gI (fun x y => x + y) 1113)) (ni_me85_12 [a, b, c, d, e, f] _ (List.mem_of_getElem? (i := 14) rfl))) rfl ?_
  refine ni_xSld (ni_ro [a, b, c, d, e, f] (1113, ni_sSld [a, b, c, d, e, f] 1114) (ni_me85_12 [a, b, c, d, e, f] _ (List.mem_of_getElem? (i := 15) rfl))) ⟨by decide, rfl⟩ ?_
  refine ni_xLd (ni_ro [a, b, c, d, e, f] (1114, ni_sLd 3 0 1115) (ni_me85_12 [a, b, c, d, e, f] _ (List.mem_of_getElem? (i := 16) rfl))) rfl rfl ?_
  refine ni_xLd (ni_ro [a, b, c, d, e, f] (1115, ni_sLd 0 5 1117) (ni_me85_12 [a, b, c, d, e, f] _ (List.mem_of_getElem? (i := 17) rfl))) rfl rfl ?_
  refine ni_xP (g := ni_gPush (.int 4) 1118) (ni_ro [a, b, c, d, e, f] (1117, ni_sP (ni_gPush (.int 4) 1118)) (ni_me85_12 [a, b, c, d, e, f] _ (List.mem_of_getElem? (i := 18) rfl))) rfl ?_
  refine ni_xP (g := ni_gI (fun x y => x + y) 1119) (ni_ro [a, b, c, d, e, f] (1118, ni_sP (ni_gI (fun x y => x + y) 1119)) (ni_me85_12 [a, b, c, d, e, f] _ (List.mem_of_getElem? (i := 19) rfl))) rfl ?_
  refine ni_xSld (ni_ro [a, b, c, d, e, f] (1119, ni_sSld [a, b, c, d, e, f] 1120) (ni_me85_12 [a, b, c, d, e, f] _ (List.mem_of_getElem? (i := 20) rfl))) ⟨by decide, rfl⟩ ?_
  refine ni_xLd (ni_ro [a, b, c, d, e, f] (1120, ni_sLd 3 3 1121) (ni_me85_12 [a, b, c, d, e, f] _ (List.mem_of_getElem? (i := 21) rfl))) rfl rfl ?_
  refine ni_xC (ni_ro [a, b, c, d, e, f] (1121, ni_sC 68 6 1124) (ni_me85_12 [a, b, c, d, e, f] _ (List.mem_of_getElem? (i := 22) rfl))) (Nat.le_of_ble_eq_true rfl) rfl rfl (Nat.le_of_ble_eq_true rfl) (ni_ofO (ni_kw68 [a, b, c, d, e, f] _ _ _ _)) ?_
  refine ni_xSt (ni_ro [a, b, c, d, e, f] (1124, ni_sSt 0 6 1126) (ni_me85_12 [a, b, c, d, e, f] _ (List.mem_of_getElem? (i := 23) rfl))) rfl rfl ?_
  refine ni_xLd (ni_ro [a, b, c, d, e, f] (1126, ni_sLd 3 2 1127) (ni_me85_12 [a, b, c, d, e, f] _ (List.mem_of_getElem? (i := 24) rfl))) rfl rfl ?_
  refine ni_xLd (ni_ro [a, b, c, d, e, f] (1127, ni_sLd 3 0 1128) (ni_me85_12 [a, b, c, d, e, f] _ (List.mem_of_getElem? (i := 25) rfl))) rfl rfl ?_
  refine ni_xLd (ni_ro [a, b, c, d, e, f] (1128, ni_sLd 0 5 1130) (ni_me85_12 [a, b, c, d, e, f] _ (List.mem_of_getElem? (i := 26) rfl))) rfl rfl ?_
  refine ni_xP (g := ni_gPush (.int 1) 1131) (ni_ro [a, b, c, d, e, f] (1130, ni_sP (ni_gPush (.int 1) 1131)) (ni_me85_12 [a, b, c, d, e, f] _ (List.mem_of_getElem? (i := 27) rfl))) rfl ?_
  refine ni_xP (g := ni_gI (fun x y => x + y) 1132) (ni_ro [a, b, c, d, e, f] (1131, ni_sP (ni_gI (fun x y => x + y) 1132)) (ni_me85_12 [a, b, c, d, e, f] _ (List.mem_of_getElem? (i := 28) rfl))) rfl ?_
  refine ni_xSld (ni_ro [a, b, c, d, e, f] (1132, ni_sSld [a, b, c, d, e, f] 1133) (ni_me85_12 [a, b, c, d, e, f] _ (List.mem_of_getElem? (i := 29) rfl))) ⟨by decide, rfl⟩ ?_
  refine ni_xLd (ni_ro [a, b, c, d, e, f] (1133, ni_sLd 3 0 1134) (ni_me85_12 [a, b, c, d, e, f] _ (List.mem_of_getElem? (i := 30) rfl))) rfl rfl ?_
  refine ni_xLd (ni_ro [a, b, c, d, e, f] (1134, ni_sLd 0 5 1136) (ni_me85_12 [a, b, c, d, e, f] _ (List.mem_of_getElem? (i := 31) rfl))) rfl rfl ?_
  refine ni_xP (g := ni_gPush (.int 2) 1137) (ni_ro [a, b, c, d, e, f] (1136, ni_sP (ni_gPush (.int 2) 1137)) (ni_me85_12 [a, b, c, d, e, f] _ (List.mem_of_getElem? (i := 32) rfl))) rfl ?_
  refine ni_xP (g := ni_gI (fun x y => x + y) 1138) (ni_ro [a, b, c, d, e, f] (1137, ni_sP (ni_gI (fun x y => x + y) 1138)) (ni_me85_12 [a, b, c, d, e, f] _ (List.mem_of_getElem? (i := 33) rfl))) rfl ?_
  refine ni_xSld (ni_ro [a, b, c, d, e, f] (1138, ni_sSld [a, b, c, d, e, f] 1139) (ni_me85_12 [a, b, c, d, e, f] _ (List.mem_of_getElem? (i := 34) rfl))) ⟨by decide, rfl⟩ ?_
  refine ni_xLd (ni_ro [a, b, c, d, e, f] (1139, ni_sLd 3 0 1140) (ni_me85_12 [a, b, c, d, e, f] _ (List.mem_of_getElem? (i := 35) rfl))) rfl rfl ?_
  refine ni_xLd (ni_ro [a, b, c, d, e, f] (1140, ni_sLd 0 5 1142) (ni_me85_12 [a, b, c, d, e, f] _ (List.mem_of_getElem? (i := 36) rfl))) rfl rfl ?_
  refine ni_xP (g := ni_gPush (.int 3) 1143) (ni_ro [a, b, c, d, e, f] (1142, ni_sP (ni_gPush (.int 3) 1143)) (ni_me85_12 [a, b, c, d, e, f] _ (List.mem_of_getElem? (i := 37) rfl))) rfl ?_
  refine ni_xP (g := ni_gI (fun x y => x + y) 1144) (ni_ro [a, b, c, d, e, f] (1143, ni_sP (ni_gI (fun x y => x + y) 1144)) (ni_me85_12 [a, b, c, d, e, f] _ (List.mem_of_getElem? (i := 38) rfl))) rfl ?_
  refine ni_xSld (ni_ro [a, b, c, d, e, f] (1144, ni_sSld [a, b, c, d, e, f] 1145) (ni_me85_12 [a, b, c, d, e, f] _ (List.mem_of_getElem? (i := 39) rfl))) ⟨by decide, rfl⟩ ?_
  refine ni_xLd (ni_ro [a, b, c, d, e, f] (1145, ni_sLd 3 0 1146) (ni_me85_12 [a, b, c, d, e, f] _ (List.mem_of_getElem? (i := 40) rfl))) rfl rfl ?_
  refine ni_xLd (ni_ro [a, b, c, d, e, f] (1146, ni_sLd 0 5 1148) (ni_me85_12 [a, b, c, d, e, f] _ (List.mem_of_getElem? (i := 41) rfl))) rfl rfl ?_
  refine ni_xP (g := ni_gPush (.int 4) 1149) (ni_ro [a, b, c, d, e, f] (1148, ni_sP (ni_gPush (.int 4) 1149)) (ni_me85_12 [a, b, c, d, e, f] _ (List.mem_of_getElem? (i := 42) rfl))) rfl ?_
  refine ni_xP (g := ni_gI (fun x y => x + y) 1150) (ni_ro [a, b, c, d, e, f] (1149, ni_sP (ni_gI (fun x y => x + y) 1150)) (ni_me85_12 [a, b, c, d, e, f] _ (List.mem_of_getElem? (i := 43) rfl))) rfl ?_
  refine ni_xSld (ni_ro [a, b, c, d, e, f] (1150, ni_sSld [a, b, c, d, e, f] 1151) (ni_me85_12 [a, b, c, d, e, f] _ (List.mem_of_getElem? (i := 44) rfl))) ⟨by decide, rfl⟩ ?_
  refine ni_xV (ni_ro [a, b, c, d, e, f] (1151, ni_sV 112 4 18 1154) (ni_me85_12 [a, b, c, d, e, f] _ (List.mem_of_getElem? (i := 45) rfl))) rfl rfl rfl (Nat.le_of_ble_eq_true rfl) (ni_ofO (ni_km112 [a, b, c, d, e, f] _ _ _ _)) ?_
  refine ni_xSt (ni_ro [a, b, c, d, e, f] (1154, ni_sSt 0 7 1156) (ni_me85_12 [a, b, c, d, e, f] _ (List.mem_of_getElem? (i := 46) rfl))) rfl rfl ?_
  refine ni_xLd (ni_ro [a, b, c, d, e, f] (1156, ni_sLd 3 2 1157) (ni_me85_12 [a, b, c, d, e, f] _ (List.mem_of_getElem? (i := 47) rfl))) rfl rfl ?_
  refine ni_xV (ni_ro [a, b, c, d, e, f] (1157, ni_sV 167 0 18 1160) (ni_me85_12 [a, b, c, d, e, f] _ (List.mem_of_getElem? (i := 48) rfl))) rfl rfl rfl (Nat.le_of_ble_eq_true rfl) (ni_ofO (ni_k167 [a, b, c, d, e, f])) ?_
  refine ni_xLd (ni_ro [a, b, c, d, e, f] (1160, ni_sLd 0 6 1162) (ni_me85_12 [a, b, c, d, e, f] _ (List.mem_of_getElem? (i := 49) rfl))) rfl rfl ?_
  refine ni_xIc true (ni_ro [a, b, c, d, e, f] (1162, ni_sP (ni_gIc (fun x y => decide (x = y)) 1167 1165)) (ni_me85_12 [a, b, c, d, e, f] _ (List.mem_of_getElem? (i := 50) rfl))) rfl ?_
  refine ni_xLd (ni_ro [a, b, c, d, e, f] (1167, ni_sLd 0 6 1169) (ni_me85_12 [a, b, c, d, e, f] _ (List.mem_of_getElem? (i := 51) rfl))) rfl rfl ?_
  refine ni_xIf true (ni_ro [a, b, c, d, e, f] (1169, ni_sP (ni_gIf (fun x => decide (¬ x = 0)) 1184 1172)) (ni_me85_12 [a, b, c, d, e, f] _ (List.mem_of_getElem? (i := 52) rfl))) rfl ?_
  refine ni_xP (g := ni_gGo 3317) (ni_ro [a, b, c, d, e, f] (1184, ni_sP (ni_gGo 3317)) (ni_me85_12 [a, b, c, d, e, f] _ (List.mem_of_getElem? (i := 53) rfl))) rfl ?_
  refine ni_xInc (ni_ro [a, b, c, d, e, f] (3317, ni_sInc 5 (6) 3320) (ni_me85_52 [a, b, c, d, e, f] _ (List.mem_of_getElem? (i := 0) rfl))) rfl rfl ?_
  refine ni_xP (g := ni_gGo 28) (ni_ro [a, b, c, d, e, f] (3320, ni_sP (ni_gGo 28)) (ni_me85_52 [a, b, c, d, e, f] _ (List.mem_of_getElem? (i := 1) rfl))) rfl ?_
  refine ni_xLd (ni_ro [a, b, c, d, e, f] (28, ni_sLd 0 5 30) (ni_me85_1 [a, b, c, d, e, f] _ (List.mem_of_getElem? (i := 0) rfl))) rfl rfl ?_
  refine ni_xLd (ni_ro [a, b, c, d, e, f] (30, ni_sLd 3 0 31) (ni_me85_1 [a, b, c, d, e, f] _ (List.mem_of_getElem? (i := 1) rfl))) rfl rfl ?_
  refine ni_xSln (ni_ro [a, b, c, d, e, f] (31, ni_sSln [a, b, c, d, e, f] 32) (ni_me85_1 [a, b, c, d, e, f] _ (List.mem_of_getElem? (i := 2) rfl))) rfl ?_
  refine ni_xP (g := ni_gPush (.int 6) 34) (ni_ro [a, b, c, d, e, f] (32, ni_sP (ni_gPush (.int 6) 34)) (ni_me85_1 [a, b, c, d, e, f] _ (List.mem_of_getElem? (i := 3) rfl))) rfl ?_
  refine ni_xP (g := ni_gI (fun x y => x - y) 35) (ni_ro [a, b, c, d, e, f] (34, ni_sP (ni_gI (fun x y => x - y) 35)) (ni_me85_1 [a, b, c, d, e, f] _ (List.mem_of_getElem? (i := 4) rfl))) rfl ?_
  refine ni_xIc true (ni_ro [a, b, c, d, e, f] (35, ni_sP (ni_gIc (fun x y => decide (y < x)) 3323 38)) (ni_me85_1 [a, b, c, d, e, f] _ (List.mem_of_getElem? (i := 5) rfl))) (show decide (Int32.ofNat 6 - 6 < 0 + 6) = true from by decide) ?_
  refine ni_xP (g := ni_gPush (.int 1) 3324) (ni_ro [a, b, c, d, e, f] (3323, ni_sP (ni_gPush (.int 1) 3324)) (ni_me85_52 [a, b, c, d, e, f] _ (List.mem_of_getElem? (i := 2) rfl))) rfl ?_
  exact ni_xR (ni_ro [a, b, c, d, e, f] (3324, ni_sR (some .boolean)) (ni_me85_52 [a, b, c, d, e, f] _ (List.mem_of_getElem? (i := 3) rfl))) rfl
theorem ni_ca11 (a b c d e f : Int32) : ni_G [a, b, c, d, e, f] 9 85 1187 ni_ls0 [] (ni_P0, 0) (.inl (some (.int 1)), (ni_P1, 1)) := by
  refine ni_xLd (ni_ro [a, b, c, d, e, f] (1187, ni_sLd 3 1 1188) (ni_me85_13 [a, b, c, d, e, f] _ (List.mem_of_getElem? (i := 0) rfl))) rfl rfl ?_
  refine ni_xLd (ni_ro [a, b, c, d, e, f] (1188, ni_sLd 3 0 1189) (ni_me85_13 [a, b, c, d, e, f] _ (List.mem_of_getElem? (i := 1) rfl))) rfl rfl ?_
  refine ni_xLd (ni_ro [a, b, c, d, e, f] (1189, ni_sLd 0 5 1191) (ni_me85_13 [a, b, c, d, e, f] _ (List.mem_of_getElem? (i := 2) rfl))) rfl rfl ?_
  refine ni_xP (g := ni_gPush (.int 1) 1192) (ni_ro [a, b, c, d, e, f] (1191, ni_sP (ni_gPush (.int 1) 1192)) (ni_me85_13 [a, b, c, d, e, f] _ (List.mem_of_getElem? (i := 3) rfl))) rfl ?_
  refine ni_xP (g := ni_gI (fun x y => x + y) 1193) (ni_ro [a, b, c, d, e, f] (1192, ni_sP (ni_gI (fun x y => x + y) 1193)) (ni_me85_13 [a, b, c, d, e, f] _ (List.mem_of_getElem? (i := 4) rfl))) rfl ?_
  refine ni_xSld (ni_ro [a, b, c, d, e, f] (1193, ni_sSld [a, b, c, d, e, f] 1194) (ni_me85_13 [a, b, c, d, e, f] _ (List.mem_of_getElem? (i := 5) rfl))) ⟨by decide, rfl⟩ ?_
  refine ni_xLd (ni_ro [a, b, c, d, e, f] (1194, ni_sLd 3 0 1195) (ni_me85_13 [a, b, c, d, e, f] _ (List.mem_of_getElem? (i := 6) rfl))) rfl rfl ?_
  refine ni_xLd (ni_ro [a, b, c, d, e, f] (1195, ni_sLd 0 5 1197) (ni_me85_13 [a, b, c, d, e, f] _ (List.mem_of_getElem? (i := 7) rfl))) rfl rfl ?_
  refine ni_xP (g := ni_gPush (.int 2) 1198) (ni_ro [a, b, c, d, e, f] (1197, ni_sP (ni_gPush (.int 2) 1198)) (ni_me85_13 [a, b, c, d, e, f] _ (List.mem_of_getElem? (i := 8) rfl))) rfl ?_
  refine ni_xP (g := ni_gI (fun x y => x + y) 1199) (ni_ro [a, b, c, d, e, f] (1198, ni_sP (ni_gI (fun x y => x + y) 1199)) (ni_me85_13 [a, b, c, d, e, f] _ (List.mem_of_getElem? (i := 9) rfl))) rfl ?_
  refine ni_xSld (ni_ro [a, b, c, d, e, f] (1199, ni_sSld [a, b, c, d, e, f] 1200) (ni_me85_13 [a, b, c, d, e, f] _ (List.mem_of_getElem? (i := 10) rfl))) ⟨by decide, rfl⟩ ?_
  refine ni_xLd (ni_ro [a, b, c, d, e, f] (1200, ni_sLd 3 0 1201) (ni_me85_13 [a, b, c, d, e, f] _ (List.mem_of_getElem? (i := 11) rfl))) rfl rfl ?_
  refine ni_xLd (ni_ro [a, b, c, d, e, f] (1201, ni_sLd 0 5 1203) (ni_me85_13 [a, b, c, d, e, f] _ (List.mem_of_getElem? (i := 12) rfl))) rfl rfl ?_
  refine ni_xP (g := ni_gPush (.int 3) 1204) (ni_ro [a, b, c, d, e, f] (1203, ni_sP (ni_gPush (.int 3) 1204)) (ni_me85_13 [a, b, c, d, e, f] _ (List.mem_of_getElem? (i := 13) rfl))) rfl ?_
  refine ni_xP (g := ni_gI (fun x y => x + y) 1205) (ni_ro [a, b, c, d, e, f] (1204, ni_sP (ni_gI (fun x y => x + y) 1205)) (ni_me85_13 [a, b, c, d, e, f] _ (List.mem_of_getElem? (i := 14) rfl))) rfl ?_
  refine ni_xSld (ni_ro [a, b, c, d, e, f] (1205, ni_sSld [a, b, c, d, e, f] 1206) (ni_me85_13 [a, b, c, d, e, f] _ (List.mem_of_getElem? (i := 15) rfl))) ⟨by decide, rfl⟩ ?_
  refine ni_xLd (ni_ro [a, b, c, d, e, f] (1206, ni_sLd 3 0 1207) (ni_me85_13 [a, b, c, d, e, f] _ (List.mem_of_getElem? (i := 16) rfl))) rfl rfl ?_
  refine ni_xLd (ni_ro [a, b, c, d, e, f] (1207, ni_sLd 0 5 1209) (ni_me85_13 [a, b, c, d, e, f] _ (List.mem_of_getElem? (i := 17) rfl))) rfl rfl ?_
  refine ni_xP (g := ni_gPush (.int 4) 1210) (ni_ro [a, b, c, d, e, f] (1209, ni_sP (ni_gPush (.int 4) 1210)) (ni_me85_13 [a, b, c, d, e, f] _ (List.mem_of_getElem? (i := 18) rfl))) rfl ?_
  refine ni_xP (g := ni_gI (fun x y => x + y) 1211) (ni_ro [a, b, c, d, e, f] (1210, ni_sP (ni_gI (fun x y => x + y) 1211)) (ni_me85_13 [a, b, c, d, e, f] _ (List.mem_of_getElem? (i := 19) rfl))) rfl ?_
  refine ni_xSld (ni_ro [a, b, c, d, e, f] (1211, ni_sSld [a, b, c, d, e, f] 1212) (ni_me85_13 [a, b, c, d, e, f] _ (List.mem_of_getElem? (i := 20) rfl))) ⟨by decide, rfl⟩ ?_
  refine ni_xLd (ni_ro [a, b, c, d, e, f] (1212, ni_sLd 3 3 1213) (ni_me85_13 [a, b, c, d, e, f] _ (List.mem_of_getElem? (i := 21) rfl))) rfl rfl ?_
  refine ni_xC (ni_ro [a, b, c, d, e, f] (1213, ni_sC 95 6 1216) (ni_me85_13 [a, b, c, d, e, f] _ (List.mem_of_getElem? (i := 22) rfl))) (Nat.le_of_ble_eq_true rfl) rfl rfl (Nat.le_of_ble_eq_true rfl) (ni_ofO (ni_kw95 [a, b, c, d, e, f] _ _ _ _)) ?_
  refine ni_xSt (ni_ro [a, b, c, d, e, f] (1216, ni_sSt 0 6 1218) (ni_me85_13 [a, b, c, d, e, f] _ (List.mem_of_getElem? (i := 23) rfl))) rfl rfl ?_
  refine ni_xLd (ni_ro [a, b, c, d, e, f] (1218, ni_sLd 3 2 1219) (ni_me85_13 [a, b, c, d, e, f] _ (List.mem_of_getElem? (i := 24) rfl))) rfl rfl ?_
  refine ni_xLd (ni_ro [a, b, c, d, e, f] (1219, ni_sLd 3 0 1220) (ni_me85_13 [a, b, c, d, e, f] _ (List.mem_of_getElem? (i := 25) rfl))) rfl rfl ?_
  refine ni_xLd (ni_ro [a, b, c, d, e, f] (1220, ni_sLd 0 5 1222) (ni_me85_13 [a, b, c, d, e, f] _ (List.mem_of_getElem? (i := 26) rfl))) rfl rfl ?_
  refine ni_xP (g := ni_gPush (.int 1) 1223) (ni_ro [a, b, c, d, e, f] (1222, ni_sP (ni_gPush (.int 1) 1223)) (ni_me85_13 [a, b, c, d, e, f] _ (List.mem_of_getElem? (i := 27) rfl))) rfl ?_
  refine ni_xP (g := ni_gI (fun x y => x + y) 1224) (ni_ro [a, b, c, d, e, f] (1223, ni_sP (ni_gI (fun x y => x + y) 1224)) (ni_me85_13 [a, b, c, d, e, f] _ (List.mem_of_getElem? (i := 28) rfl))) rfl ?_
  refine ni_xSld (ni_ro [a, b, c, d, e, f] (1224, ni_sSld [a, b, c, d, e, f] 1225) (ni_me85_13 [a, b, c, d, e, f] _ (List.mem_of_getElem? (i := 29) rfl))) ⟨by decide, rfl⟩ ?_
  refine ni_xLd (ni_ro [a, b, c, d, e, f] (1225, ni_sLd 3 0 1226) (ni_me85_13 [a, b, c, d, e, f] _ (List.mem_of_getElem? (i := 30) rfl))) rfl rfl ?_
  refine ni_xLd (ni_ro [a, b, c, d, e, f] (1226, ni_sLd 0 5 1228) (ni_me85_13 [a, b, c, d, e, f] _ (List.mem_of_getElem? (i := 31) rfl))) rfl rfl ?_
  refine ni_xP (g := ni_gPush (.int 2) 1229) (ni_ro [a, b, c, d, e, f] (1228, ni_sP (ni_gPush (.int 2) 1229)) (ni_me85_13 [a, b, c, d, e, f] _ (List.mem_of_getElem? (i := 32) rfl))) rfl ?_
  refine ni_xP (g := ni_gI (fun x y => x + y) 1230) (ni_ro [a, b, c, d, e, f] (1229, ni_sP (ni_gI (fun x y => x + y) 1230)) (ni_me85_13 [a, b, c, d, e, f] _ (List.mem_of_getElem? (i := 33) rfl))) rfl ?_
  refine ni_xSld (ni_ro [a, b, c, d, e, f] (1230, ni_sSld [a, b, c, d, e, f] 1231) (ni_me85_13 [a, b, c, d, e, f] _ (List.mem_of_getElem? (i := 34) rfl))) ⟨by decide, rfl⟩ ?_
  refine ni_xLd (ni_ro [a, b, c, d, e, f] (1231, ni_sLd 3 0 1232) (ni_me85_13 [a, b, c, d, e, f] _ (List.mem_of_getElem? (i := 35) rfl))) rfl rfl ?_
  refine ni_xLd (ni_ro [a, b, c, d, e, f] (1232, ni_sLd 0 5 1234) (ni_me85_13 [a, b, c, d, e, f] _ (List.mem_of_getElem? (i := 36) rfl))) rfl rfl ?_
  refine ni_xP (g := ni_gPush (.int 3) 1235) (ni_ro [a, b, c, d, e, f] (1234, ni_sP (ni_gPush (.int 3) 1235)) (ni_me85_13 [a, b, c, d, e, f] _ (List.mem_of_getElem? (i := 37) rfl))) rfl ?_
  refine ni_xP (g := ni_gI (fun x y => x + y) 1236) (ni_ro [a, b, c, d, e, f] (1235, ni_sP (ni_gI (fun x y => x + y) 1236)) (ni_me85_13 [a, b, c, d, e, f] _ (List.mem_of_getElem? (i := 38) rfl))) rfl ?_
  refine ni_xSld (ni_ro [a, b, c, d, e, f] (1236, ni_sSld [a, b, c, d, e, f] 1237) (ni_me85_13 [a, b, c, d, e, f] _ (List.mem_of_getElem? (i := 39) rfl))) ⟨by decide, rfl⟩ ?_
  refine ni_xLd (ni_ro [a, b, c, d, e, f] (1237, ni_sLd 3 0 1238) (ni_me85_13 [a, b, c, d, e, f] _ (List.mem_of_getElem? (i := 40) rfl))) rfl rfl ?_
  refine ni_xLd (ni_ro [a, b, c, d, e, f] (1238, ni_sLd 0 5 1240) (ni_me85_13 [a, b, c, d, e, f] _ (List.mem_of_getElem? (i := 41) rfl))) rfl rfl ?_
  refine ni_xP (g := ni_gPush (.int 4) 1241) (ni_ro [a, b, c, d, e, f] (1240, ni_sP (ni_gPush (.int 4) 1241)) (ni_me85_13 [a, b, c, d, e, f] _ (List.mem_of_getElem? (i := 42) rfl))) rfl ?_
  refine ni_xP (g := ni_gI (fun x y => x + y) 1242) (ni_ro [a, b, c, d, e, f] (1241, ni_sP (ni_gI (fun x y => x + y) 1242)) (ni_me85_13 [a, b, c, d, e, f] _ (List.mem_of_getElem? (i := 43) rfl))) rfl ?_
  refine ni_xSld (ni_ro [a, b, c, d, e, f] (1242, ni_sSld [a, b, c, d, e, f] 1243) (ni_me85_13 [a, b, c, d, e, f] _ (List.mem_of_getElem? (i := 44) rfl))) ⟨by decide, rfl⟩ ?_
  refine ni_xV (ni_ro [a, b, c, d, e, f] (1243, ni_sV 154 4 18 1246) (ni_me85_13 [a, b, c, d, e, f] _ (List.mem_of_getElem? (i := 45) rfl))) rfl rfl rfl (Nat.le_of_ble_eq_true rfl) (ni_ofO (ni_km154 [a, b, c, d, e, f] _ _ _ _)) ?_
  refine ni_xSt (ni_ro [a, b, c, d, e, f] (1246, ni_sSt 0 7 1248) (ni_me85_13 [a, b, c, d, e, f] _ (List.mem_of_getElem? (i := 46) rfl))) rfl rfl ?_
  refine ni_xLd (ni_ro [a, b, c, d, e, f] (1248, ni_sLd 3 2 1249) (ni_me85_13 [a, b, c, d, e, f] _ (List.mem_of_getElem? (i := 47) rfl))) rfl rfl ?_
  refine ni_xV (ni_ro [a, b, c, d, e, f] (1249, ni_sV 167 0 18 1252) (ni_me85_13 [a, b, c, d, e, f] _ (List.mem_of_getElem? (i := 48) rfl))) rfl rfl rfl (Nat.le_of_ble_eq_true rfl) (ni_ofO (ni_k167 [a, b, c, d, e, f])) ?_
  refine ni_xLd (ni_ro [a, b, c, d, e, f] (1252, ni_sLd 0 6 1254) (ni_me85_13 [a, b, c, d, e, f] _ (List.mem_of_getElem? (i := 49) rfl))) rfl rfl ?_
  refine ni_xIc true (ni_ro [a, b, c, d, e, f] (1254, ni_sP (ni_gIc (fun x y => decide (x = y)) 1259 1257)) (ni_me85_13 [a, b, c, d, e, f] _ (List.mem_of_getElem? (i := 50) rfl))) rfl ?_
  refine ni_xLd (ni_ro [a, b, c, d, e, f] (1259, ni_sLd 0 6 1261) (ni_me85_13 [a, b, c, d, e, f] _ (List.mem_of_getElem? (i := 51) rfl))) rfl rfl ?_
  refine ni_xIf true (ni_ro [a, b, c, d, e, f] (1261, ni_sP (ni_gIf (fun x => decide (¬ x = 0)) 1276 1264)) (ni_me85_13 [a, b, c, d, e, f] _ (List.mem_of_getElem? (i := 52) rfl))) rfl ?_
  refine ni_xP (g := ni_gGo 3317) (ni_ro [a, b, c, d, e, f] (1276, ni_sP (ni_gGo 3317)) (ni_me85_13 [a, b, c, d, e, f] _ (List.mem_of_getElem? (i := 53) rfl))) rfl ?_
  refine ni_xInc (ni_ro [a, b, c, d, e, f] (3317, ni_sInc 5 (6) 3320) (ni_me85_52 [a, b, c, d, e, f] _ (List.mem_of_getElem? (i := 0) rfl))) rfl rfl ?_
  refine ni_xP (g := ni_gGo 28) (ni_ro [a, b, c, d, e, f] (3320, ni_sP (ni_gGo 28)) (ni_me85_52 [a, b, c, d, e, f] _ (List.mem_of_getElem? (i := 1) rfl))) rfl ?_
  refine ni_xLd (ni_ro [a, b, c, d, e, f] (28, ni_sLd 0 5 30) (ni_me85_1 [a, b, c, d, e, f] _ (List.mem_of_getElem? (i := 0) rfl))) rfl rfl ?_
  refine ni_xLd (ni_ro [a, b, c, d, e, f] (30, ni_sLd 3 0 31) (ni_me85_1 [a, b, c, d, e, f] _ (List.mem_of_getElem? (i := 1) rfl))) rfl rfl ?_
  refine ni_xSln (ni_ro [a, b, c, d, e, f] (31, ni_sSln [a, b, c, d, e, f] 32) (ni_me85_1 [a, b, c, d, e, f] _ (List.mem_of_getElem? (i := 2) rfl))) rfl ?_
  refine ni_xP (g := ni_gPush (.int 6) 34) (ni_ro [a, b, c, d, e, f] (32, ni_sP (ni_gPush (.int 6) 34)) (ni_me85_1 [a, b, c, d, e, f] _ (List.mem_of_getElem? (i := 3) rfl))) rfl ?_
  refine ni_xP (g := ni_gI (fun x y => x - y) 35) (ni_ro [a, b, c, d, e, f] (34, ni_sP (ni_gI (fun x y => x - y) 35)) (ni_me85_1 [a, b, c, d, e, f] _ (List.mem_of_getElem? (i := 4) rfl))) rfl ?_
  refine ni_xIc true (ni_ro [a, b, c, d, e, f] (35, ni_sP (ni_gIc (fun x y => decide (y < x)) 3323 38)) (ni_me85_1 [a, b, c, d, e, f] _ (List.mem_of_getElem? (i := 5) rfl))) (show decide (Int32.ofNat 6 - 6 < 0 + 6) = true from by decide) ?_
  refine ni_xP (g := ni_gPush (.int 1) 3324) (ni_ro [a, b, c, d, e, f] (3323, ni_sP (ni_gPush (.int 1) 3324)) (ni_me85_52 [a, b, c, d, e, f] _ (List.mem_of_getElem? (i := 2) rfl))) rfl ?_
  exact ni_xR (ni_ro [a, b, c, d, e, f] (3324, ni_sR (some .boolean)) (ni_me85_52 [a, b, c, d, e, f] _ (List.mem_of_getElem? (i := 3) rfl))) rfl
theorem ni_ca12 (a b c d e f : Int32) : ni_G [a, b, c, d, e, f] 9 85 1279 ni_ls0 [] (ni_P0, 0) (.inl (some (.int 1)), (ni_P1, 1)) := by
  refine ni_xLd (ni_ro [a, b, c, d, e, f] (1279, ni_sLd 3 1 1280) (ni_me85_14 [a, b, c, d, e, f] _ (List.mem_of_getElem? (i := 0) rfl))) rfl rfl ?_
  refine ni_xLd (ni_ro [a, b, c, d, e, f] (1280, ni_sLd 3 0 1281) (ni_me85_14 [a, b, c, d, e, f] _ (List.mem_of_getElem? (i := 1) rfl))) rfl rfl ?_
  refine ni_xLd (ni_ro [a, b, c, d, e, f] (1281, ni_sLd 0 5 1283) (ni_me85_14 [a, b, c, d, e, f] _ (List.mem_of_getElem? (i := 2) rfl))) rfl rfl ?_
  refine ni_xP (g := ni_gPush (.int 1) 1284) (ni_ro [a, b, c, d, e, f] (1283, ni_sP (ni_gPush (.int 1) 1284)) (ni_me85_14 [a, b, c, d, e, f] _ (List.mem_of_getElem? (i := 3) rfl))) rfl ?_
  refine ni_xP (g := ni_gI (fun x y => x + y) 1285) (ni_ro [a, b, c, d, e, f] (1284, ni_sP (ni_gI (fun x y => x + y) 1285)) (ni_me85_14 [a, b, c, d, e, f] _ (List.mem_of_getElem? (i := 4) rfl))) rfl ?_
  refine ni_xSld (ni_ro [a, b, c, d, e, f] (1285, ni_sSld [a, b, c, d, e, f] 1286) (ni_me85_14 [a, b, c, d, e, f] _ (List.mem_of_getElem? (i := 5) rfl))) ⟨by decide, rfl⟩ ?_
  refine ni_xLd (ni_ro [a, b, c, d, e, f] (1286, ni_sLd 3 0 1287) (ni_me85_14 [a, b, c, d, e, f] _ (List.mem_of_getElem? (i := 6) rfl))) rfl rfl ?_
  refine ni_xLd (ni_ro [a, b, c, d, e, f] (1287, ni_sLd 0 5 1289) (ni_me85_14 [a, b, c, d, e, f] _ (List.mem_of_getElem? (i := 7) rfl))) rfl rfl ?_
  refine ni_xP (g := ni_gPush (.int 2) 1290) (ni_ro [a, b, c, d, e, f] (1289, ni_sP (ni_gPush (.int 2) 1290)) (ni_me85_14 [a, b, c, d, e, f] _ (List.mem_of_getElem? (i := 8) rfl))) rfl ?_
  refine ni_xP (g := ni_gI (fun x y => x + y) 1291) (ni_ro [a, b, c, d, e, f] (1290, ni_sP (ni_gI (fun x y => x + y) 1291)) (ni_me85_14 [a, b, c, d, e, f] _ (List.mem_of_getElem? (i := 9) rfl))) rfl ?_
  refine ni_xSld (ni_ro [a, b, c, d, e, f] (1291, ni_sSld [a, b, c, d, e, f] 1292) (ni_me85_14 [a, b, c, d, e, f] _ (List.mem_of_getElem? (i := 10) rfl))) ⟨by decide, rfl⟩ ?_
  refine ni_xLd (ni_ro [a, b, c, d, e, f] (1292, ni_sLd 3 0 1293) (ni_me85_14 [a, b, c, d, e, f] _ (List.mem_of_getElem? (i := 11) rfl))) rfl rfl ?_
  refine ni_xLd (ni_ro [a, b, c, d, e, f] (1293, ni_sLd 0 5 1295) (ni_me85_14 [a, b, c, d, e, f] _ (List.mem_of_getElem? (i := 12) rfl))) rfl rfl ?_
  refine ni_xP (g := ni_gPush (.int 3) 1296) (ni_ro [a, b, c, d, e, f] (1295, ni_sP (ni_gPush (.int 3) 1296)) (ni_me85_14 [a, b, c, d, e, f] _ (List.mem_of_getElem? (i := 13) rfl))) rfl ?_
  refine ni_xP (g := ni_gI (fun x y => x + y) 1297) (ni_ro [a, b, c, d, e, f] (1296, ni_sP (ni_gI (fun x y => x + y) 1297)) (ni_me85_14 [a, b, c, d, e, f] _ (List.mem_of_getElem? (i := 14) rfl))) rfl ?_
  refine ni_xSld (ni_ro [a, b, c, d, e, f] (1297, ni_sSld [a, b, c, d, e, f] 1298) (ni_me85_14 [a, b, c, d, e, f] _ (List.mem_of_getElem? (i := 15) rfl))) ⟨by decide, rfl⟩ ?_
  refine ni_xLd (ni_ro [a, b, c, d, e, f] (1298, ni_sLd 3 3 1299) (ni_me85_14 [a, b, c, d, e, f] _ (List.mem_of_getElem? (i := 16) rfl))) rfl rfl ?_
  refine ni_xC (ni_ro [a, b, c, d, e, f] (1299, ni_sC 102 5 1302) (ni_me85_14 [a, b, c, d, e, f] _ (List.mem_of_getElem? (i := 17) rfl))) (Nat.le_of_ble_eq_true rfl) rfl rfl (Nat.le_of_ble_eq_true rfl) (ni_ofO (ni_kw102 [a, b, c, d, e, f] _ _ _)) ?_
  refine ni_xSt (ni_ro [a, b, c, d, e, f] (1302, ni_sSt 0 6 1304) (ni_me85_14 [a, b, c, d, e, f] _ (List.mem_of_getElem? (i := 18) rfl))) rfl rfl ?_
  refine ni_xLd (ni_ro [a, b, c, d, e, f] (1304, ni_sLd 3 2 1305) (ni_me85_14 [a, b, c, d, e, f] _ (List.mem_of_getElem? (i := 19) rfl))) rfl rfl ?_
  refine ni_xLd (ni_ro [a, b, c, d, e, f] (1305, ni_sLd 3 0 1306) (ni_me85_14 [a, b, c, d, e, f] _ (List.mem_of_getElem? (i := 20) rfl))) rfl rfl ?_
  refine ni_xLd (ni_ro [a, b, c, d, e, f] (1306, ni_sLd 0 5 1308) (ni_me85_14 [a, b, c, d, e, f] _ (List.mem_of_getElem? (i := 21) rfl))) rfl rfl ?_
  refine ni_xP (g := ni_gPush (.int 1) 1309) (ni_ro [a, b, c, d, e, f] (1308, ni_sP (ni_gPush (.int 1) 1309)) (ni_me85_14 [a, b, c, d, e, f] _ (List.mem_of_getElem? (i := 22) rfl))) rfl ?_
  refine ni_xP (g := ni_gI (fun x y => x + y) 1310) (ni_ro [a, b, c, d, e, f] (1309, ni_sP (ni_gI (fun x y => x + y) 1310)) (ni_me85_14 [a, b, c, d, e, f] _ (List.mem_of_getElem? (i := 23) rfl))) rfl ?_
  refine ni_xSld (ni_ro [a, b, c, d, e, f] (1310, ni_sSld [a, b, c, d, e, f] 1311) (ni_me85_14 [a, b, c, d, e, f] _ (List.mem_of_getElem? (i := 24) rfl))) ⟨by decide, rfl⟩ ?_
  refine ni_xLd (ni_ro [a, b, c, d, e, f] (1311, ni_sLd 3 0 1312) (ni_me85_14 [a, b, c, d, e, f] _ (List.mem_of_getElem? (i := 25) rfl))) rfl rfl ?_
  refine ni_xLd (ni_ro [a, b, c, d, e, f] (1312, ni_sLd 0 5 1314) (ni_me85_14 [a, b, c, d, e, f] _ (List.mem_of_getElem? (i := 26) rfl))) rfl rfl ?_
  refine ni_xP (g := ni_gPush (.int 2) 1315) (ni_ro [a, b, c, d, e, f] (1314, ni_sP (ni_gPush (.int 2) 1315)) (ni_me85_14 [a, b, c, d, e, f] _ (List.mem_of_getElem? (i := 27) rfl))) rfl ?_
  refine ni_xP (g := ni_gI (fun x y => x + y) 1316) (ni_ro [a, b, c, d, e, f] (1315, ni_sP (ni_gI (fun x y => x + y) 1316)) (ni_me85_14 [a, b, c, d, e, f] _ (List.mem_of_getElem? (i := 28) rfl))) rfl ?_
  refine ni_xSld (ni_ro [a, b, c, d, e, f] (1316, ni_sSld [a, b, c, d, e, f] 1317) (ni_me85_14 [a, b, c, d, e, f] _ (List.mem_of_getElem? (i := 29) rfl))) ⟨by decide, rfl⟩ ?_
  refine ni_xLd (ni_ro [a, b, c, d, e, f] (1317, ni_sLd 3 0 1318) (ni_me85_14 [a, b, c, d, e, f] _ (List.mem_of_getElem? (i := 30) rfl))) rfl rfl ?_
  refine ni_xLd (ni_ro [a, b, c, d, e, f] (1318, ni_sLd 0 5 1320) (ni_me85_14 [a, b, c, d, e, f] _ (List.mem_of_getElem? (i := 31) rfl))) rfl rfl ?_
  refine ni_xP (g := ni_gPush (.int 3) 1321) (ni_ro [a, b, c, d, e, f] (1320, ni_sP (ni_gPush (.int 3) 1321)) (ni_me85_14 [a, b, c, d, e, f] _ (List.mem_of_getElem? (i := 32) rfl))) rfl ?_
  refine ni_xP (g := ni_gI (fun x y => x + y) 1322) (ni_ro [a, b, c, d, e, f] (1321, ni_sP (ni_gI (fun x y => x + y) 1322)) (ni_me85_14 [a, b, c, d, e, f] _ (List.mem_of_getElem? (i := 33) rfl))) rfl ?_
  refine ni_xSld (ni_ro [a, b, c, d, e, f] (1322, ni_sSld [a, b, c, d, e, f] 1323) (ni_me85_14 [a, b, c, d, e, f] _ (List.mem_of_getElem? (i := 34) rfl))) ⟨by decide, rfl⟩ ?_
  refine ni_xV (ni_ro [a, b, c, d, e, f] (1323, ni_sV 161 3 18 1326) (ni_me85_14 [a, b, c, d, e, f] _ (List.mem_of_getElem? (i := 35) rfl))) rfl rfl rfl (Nat.le_of_ble_eq_true rfl) (ni_ofO (ni_km161 [a, b, c, d, e, f] _ _ _)) ?_
  refine ni_xSt (ni_ro [a, b, c, d, e, f] (1326, ni_sSt 0 7 1328) (ni_me85_14 [a, b, c, d, e, f] _ (List.mem_of_getElem? (i := 36) rfl))) rfl rfl ?_
  refine ni_xLd (ni_ro [a, b, c, d, e, f] (1328, ni_sLd 3 2 1329) (ni_me85_14 [a, b, c, d, e, f] _ (List.mem_of_getElem? (i := 37) rfl))) rfl rfl ?_
  refine ni_xV (ni_ro [a, b, c, d, e, f] (1329, ni_sV 167 0 18 1332) (ni_me85_14 [a, b, c, d, e, f] _ (List.mem_of_getElem? (i := 38) rfl))) rfl rfl rfl (Nat.le_of_ble_eq_true rfl) (ni_ofO (ni_k167 [a, b, c, d, e, f])) ?_
  refine ni_xLd (ni_ro [a, b, c, d, e, f] (1332, ni_sLd 0 6 1334) (ni_me85_14 [a, b, c, d, e, f] _ (List.mem_of_getElem? (i := 39) rfl))) rfl rfl ?_
  refine ni_xIc true (ni_ro [a, b, c, d, e, f] (1334, ni_sP (ni_gIc (fun x y => decide (x = y)) 1339 1337)) (ni_me85_14 [a, b, c, d, e, f] _ (List.mem_of_getElem? (i := 40) rfl))) rfl ?_
  refine ni_xLd (ni_ro [a, b, c, d, e, f] (1339, ni_sLd 0 6 1341) (ni_me85_14 [a, b, c, d, e, f] _ (List.mem_of_getElem? (i := 41) rfl))) rfl rfl ?_
  refine ni_xIf true (ni_ro [a, b, c, d, e, f] (1341, ni_sP (ni_gIf (fun x => decide (¬ x = 0)) 1356 1344)) (ni_me85_14 [a, b, c, d, e, f] _ (List.mem_of_getElem? (i := 42) rfl))) rfl ?_
  refine ni_xP (g := ni_gGo 3317) (ni_ro [a, b, c, d, e, f] (1356, ni_sP (ni_gGo 3317)) (ni_me85_14 [a, b, c, d, e, f] _ (List.mem_of_getElem? (i := 43) rfl))) rfl ?_
  refine ni_xInc (ni_ro [a, b, c, d, e, f] (3317, ni_sInc 5 (6) 3320) (ni_me85_52 [a, b, c, d, e, f] _ (List.mem_of_getElem? (i := 0) rfl))) rfl rfl ?_
  refine ni_xP (g := ni_gGo 28) (ni_ro [a, b, c, d, e, f] (3320, ni_sP (ni_gGo 28)) (ni_me85_52 [a, b, c, d, e, f] _ (List.mem_of_getElem? (i := 1) rfl))) rfl ?_
  refine ni_xLd (ni_ro [a, b, c, d, e, f] (28, ni_sLd 0 5 30) (ni_me85_1 [a, b, c, d, e, f] _ (List.mem_of_getElem? (i := 0) rfl))) rfl rfl ?_
  refine ni_xLd (ni_ro [a, b, c, d, e, f] (30, ni_sLd 3 0 31) (ni_me85_1 [a, b, c, d, e, f] _ (List.mem_of_getElem? (i := 1) rfl))) rfl rfl ?_
  refine ni_xSln (ni_ro [a, b, c, d, e, f] (31, ni_sSln [a, b, c, d, e, f] 32) (ni_me85_1 [a, b, c, d, e, f] _ (List.mem_of_getElem? (i := 2) rfl))) rfl ?_
  refine ni_xP (g := ni_gPush (.int 6) 34) (ni_ro [a, b, c, d, e, f] (32, ni_sP (ni_gPush (.int 6) 34)) (ni_me85_1 [a, b, c, d, e, f] _ (List.mem_of_getElem? (i := 3) rfl))) rfl ?_
  refine ni_xP (g := ni_gI (fun x y => x - y) 35) (ni_ro [a, b, c, d, e, f] (34, ni_sP (ni_gI (fun x y => x - y) 35)) (ni_me85_1 [a, b, c, d, e, f] _ (List.mem_of_getElem? (i := 4) rfl))) rfl ?_
  refine ni_xIc true (ni_ro [a, b, c, d, e, f] (35, ni_sP (ni_gIc (fun x y => decide (y < x)) 3323 38)) (ni_me85_1 [a, b, c, d, e, f] _ (List.mem_of_getElem? (i := 5) rfl))) (show decide (Int32.ofNat 6 - 6 < 0 + 6) = true from by decide) ?_
  refine ni_xP (g := ni_gPush (.int 1) 3324) (ni_ro [a, b, c, d, e, f] (3323, ni_sP (ni_gPush (.int 1) 3324)) (ni_me85_52 [a, b, c, d, e, f] _ (List.mem_of_getElem? (i := 2) rfl))) rfl ?_
  exact ni_xR (ni_ro [a, b, c, d, e, f] (3324, ni_sR (some .boolean)) (ni_me85_52 [a, b, c, d, e, f] _ (List.mem_of_getElem? (i := 3) rfl))) rfl
theorem ni_rd51 (xs : List Int32) : ni_clO ni_o7 (ni_exO ni_o7 (ni_prog xs) 300) 8 51 [.ref 0] (ni_P0, 0) = some (.inl (some (.int 0)), (ni_P0, 0)) := rfl
theorem ni_rd168 (xs : List Int32) : ni_clO ni_o7 (ni_exO ni_o7 (ni_prog xs) 300) 8 168 [.ref 14] (ni_P0, 0) = some (.inl (some (.int 0)), (ni_P0, 0)) := rfl
theorem ni_ca14 (a b c d e f : Int32) : ni_G [a, b, c, d, e, f] 9 85 1415 ni_ls0 [] (ni_P0, 0) (.inl (some (.int 1)), (ni_P0, 0)) := by
  refine ni_xLd (ni_ro [a, b, c, d, e, f] (1415, ni_sLd 3 1 1416) (ni_me85_16 [a, b, c, d, e, f] _ (List.mem_of_getElem? (i := 0) rfl))) rfl rfl ?_
  refine ni_xV (ni_ro [a, b, c, d, e, f] (1416, ni_sV 51 0 10 1419) (ni_me85_16 [a, b, c, d, e, f] _ (List.mem_of_getElem? (i := 1) rfl))) rfl rfl rfl (Nat.le_of_ble_eq_true rfl) (ni_ofO (ni_rd51 [a, b, c, d, e, f])) ?_
  refine ni_xLd (ni_ro [a, b, c, d, e, f] (1419, ni_sLd 3 2 1420) (ni_me85_16 [a, b, c, d, e, f] _ (List.mem_of_getElem? (i := 2) rfl))) rfl rfl ?_
  refine ni_xV (ni_ro [a, b, c, d, e, f] (1420, ni_sV 168 0 18 1423) (ni_me85_16 [a, b, c, d, e, f] _ (List.mem_of_getElem? (i := 3) rfl))) rfl rfl rfl (Nat.le_of_ble_eq_true rfl) (ni_ofO (ni_rd168 [a, b, c, d, e, f])) ?_
  refine ni_xIc true (ni_ro [a, b, c, d, e, f] (1423, ni_sP (ni_gIc (fun x y => decide (x = y)) 3317 1426)) (ni_me85_16 [a, b, c, d, e, f] _ (List.mem_of_getElem? (i := 4) rfl))) rfl ?_
  refine ni_xInc (ni_ro [a, b, c, d, e, f] (3317, ni_sInc 5 (6) 3320) (ni_me85_52 [a, b, c, d, e, f] _ (List.mem_of_getElem? (i := 0) rfl))) rfl rfl ?_
  refine ni_xP (g := ni_gGo 28) (ni_ro [a, b, c, d, e, f] (3320, ni_sP (ni_gGo 28)) (ni_me85_52 [a, b, c, d, e, f] _ (List.mem_of_getElem? (i := 1) rfl))) rfl ?_
  refine ni_xLd (ni_ro [a, b, c, d, e, f] (28, ni_sLd 0 5 30) (ni_me85_1 [a, b, c, d, e, f] _ (List.mem_of_getElem? (i := 0) rfl))) rfl rfl ?_
  refine ni_xLd (ni_ro [a, b, c, d, e, f] (30, ni_sLd 3 0 31) (ni_me85_1 [a, b, c, d, e, f] _ (List.mem_of_getElem? (i := 1) rfl))) rfl rfl ?_
  refine ni_xSln (ni_ro [a, b, c, d, e, f] (31, ni_sSln [a, b, c, d, e, f] 32) (ni_me85_1 [a, b, c, d, e, f] _ (List.mem_of_getElem? (i := 2) rfl))) rfl ?_
  refine ni_xP (g := ni_gPush (.int 6) 34) (ni_ro [a, b, c, d, e, f] (32, ni_sP (ni_gPush (.int 6) 34)) (ni_me85_1 [a, b, c, d, e, f] _ (List.mem_of_getElem? (i := 3) rfl))) rfl ?_
  refine ni_xP (g := ni_gI (fun x y => x - y) 35) (ni_ro [a, b, c, d, e, f] (34, ni_sP (ni_gI (fun x y => x - y) 35)) (ni_me85_1 [a, b, c, d, e, f] _ (List.mem_of_getElem? (i := 4) rfl))) rfl ?_
  refine ni_xIc true (ni_ro [a, b, c, d, e, f] (35, ni_sP (ni_gIc (fun x y => decide (y < x)) 3323 38)) (ni_me85_1 [a, b, c, d, e, f] _ (List.mem_of_getElem? (i := 5) rfl))) (show decide (Int32.ofNat 6 - 6 < 0 + 6) = true from by decide) ?_
  refine ni_xP (g := ni_gPush (.int 1) 3324) (ni_ro [a, b, c, d, e, f] (3323, ni_sP (ni_gPush (.int 1) 3324)) (ni_me85_52 [a, b, c, d, e, f] _ (List.mem_of_getElem? (i := 2) rfl))) rfl ?_
  exact ni_xR (ni_ro [a, b, c, d, e, f] (3324, ni_sR (some .boolean)) (ni_me85_52 [a, b, c, d, e, f] _ (List.mem_of_getElem? (i := 3) rfl))) rfl
theorem ni_rd38 (xs : List Int32) : ni_clO ni_o7 (ni_exO ni_o7 (ni_prog xs) 300) 8 38 [.ref 0] (ni_P0, 0) = some (.inl (some (.int 0)), (ni_P0, 0)) := rfl
theorem ni_rd153 (xs : List Int32) : ni_clO ni_o7 (ni_exO ni_o7 (ni_prog xs) 300) 8 153 [.ref 14] (ni_P0, 0) = some (.inl (some (.int 0)), (ni_P0, 0)) := rfl
theorem ni_ca15 (a b c d e f : Int32) : ni_G [a, b, c, d, e, f] 9 85 1428 ni_ls0 [] (ni_P0, 0) (.inl (some (.int 1)), (ni_P0, 0)) := by
  refine ni_xLd (ni_ro [a, b, c, d, e, f] (1428, ni_sLd 3 1 1429) (ni_me85_17 [a, b, c, d, e, f] _ (List.mem_of_getElem? (i := 0) rfl))) rfl rfl ?_
  refine ni_xV (ni_ro [a, b, c, d, e, f] (1429, ni_sV 38 0 10 1432) (ni_me85_17 [a, b, c, d, e, f] _ (List.mem_of_getElem? (i := 1) rfl))) rfl rfl rfl (Nat.le_of_ble_eq_true rfl) (ni_ofO (ni_rd38 [a, b, c, d, e, f])) ?_
  refine ni_xLd (ni_ro [a, b, c, d, e, f] (1432, ni_sLd 3 2 1433) (ni_me85_17 [a, b, c, d, e, f] _ (List.mem_of_getElem? (i := 2) rfl))) rfl rfl ?_
  refine ni_xV (ni_ro [a, b, c, d, e, f] (1433, ni_sV 153 0 18 1436) (ni_me85_17 [a, b, c, d, e, f] _ (List.mem_of_getElem? (i := 3) rfl))) rfl rfl rfl (Nat.le_of_ble_eq_true rfl) (ni_ofO (ni_rd153 [a, b, c, d, e, f])) ?_
  refine ni_xIc true (ni_ro [a, b, c, d, e, f] (1436, ni_sP (ni_gIc (fun x y => decide (x = y)) 3317 1439)) (ni_me85_17 [a, b, c, d, e, f] _ (List.mem_of_getElem? (i := 4) rfl))) rfl ?_
  refine ni_xInc (ni_ro [a, b, c, d, e, f] (3317, ni_sInc 5 (6) 3320) (ni_me85_52 [a, b, c, d, e, f] _ (List.mem_of_getElem? (i := 0) rfl))) rfl rfl ?_
  refine ni_xP (g := ni_gGo 28) (ni_ro [a, b, c, d, e, f] (3320, ni_sP (ni_gGo 28)) (ni_me85_52 [a, b, c, d, e, f] _ (List.mem_of_getElem? (i := 1) rfl))) rfl ?_
  refine ni_xLd (ni_ro [a, b, c, d, e, f] (28, ni_sLd 0 5 30) (ni_me85_1 [a, b, c, d, e, f] _ (List.mem_of_getElem? (i := 0) rfl))) rfl rfl ?_
  refine ni_xLd (ni_ro [a, b, c, d, e, f] (30, ni_sLd 3 0 31) (ni_me85_1 [a, b, c, d, e, f] _ (List.mem_of_getElem? (i := 1) rfl))) rfl rfl ?_
  refine ni_xSln (ni_ro [a, b, c, d, e, f] (31, ni_sSln [a, b, c, d, e, f] 32) (ni_me85_1 [a, b, c, d, e, f] _ (List.mem_of_getElem? (i := 2) rfl))) rfl ?_
  refine ni_xP (g := ni_gPush (.int 6) 34) (ni_ro [a, b, c, d, e, f] (32, ni_sP (ni_gPush (.int 6) 34)) (ni_me85_1 [a, b, c, d, e, f] _ (List.mem_of_getElem? (i := 3) rfl))) rfl ?_
  refine ni_xP (g := ni_gI (fun x y => x - y) 35) (ni_ro [a, b, c, d, e, f] (34, ni_sP (ni_gI (fun x y => x - y) 35)) (ni_me85_1 [a, b, c, d, e, f] _ (List.mem_of_getElem? (i := 4) rfl))) rfl ?_
  refine ni_xIc true (ni_ro [a, b, c, d, e, f] (35, ni_sP (ni_gIc (fun x y => decide (y < x)) 3323 38)) (ni_me85_1 [a, b, c, d, e, f] _ (List.mem_of_getElem? (i := 5) rfl))) (show decide (Int32.ofNat 6 - 6 < 0 + 6) = true from by decide) ?_
  refine ni_xP (g := ni_gPush (.int 1) 3324) (ni_ro [a, b, c, d, e, f] (3323, ni_sP (ni_gPush (.int 1) 3324)) (ni_me85_52 [a, b, c, d, e, f] _ (List.mem_of_getElem? (i := 2) rfl))) rfl ?_
  exact ni_xR (ni_ro [a, b, c, d, e, f] (3324, ni_sR (some .boolean)) (ni_me85_52 [a, b, c, d, e, f] _ (List.mem_of_getElem? (i := 3) rfl))) rfl
theorem ni_rd28 (xs : List Int32) : ni_clO ni_o7 (ni_exO ni_o7 (ni_prog xs) 300) 8 28 [.ref 0] (ni_P0, 0) = some (.inl (some (.int 0)), (ni_P0, 0)) := rfl
theorem ni_rd141 (xs : List Int32) : ni_clO ni_o7 (ni_exO ni_o7 (ni_prog xs) 300) 8 141 [.ref 14] (ni_P0, 0) = some (.inl (some (.int 0)), (ni_P0, 0)) := rfl
theorem ni_ca16 (a b c d e f : Int32) : ni_G [a, b, c, d, e, f] 9 85 1441 ni_ls0 [] (ni_P0, 0) (.inl (some (.int 1)), (ni_P0, 0)) := by
  refine ni_xLd (ni_ro [a, b, c, d, e, f] (1441, ni_sLd 3 1 1442) (ni_me85_18 [a, b, c, d, e, f] _ (List.mem_of_getElem? (i := 0) rfl))) rfl rfl ?_
  refine ni_xV (ni_ro [a, b, c, d, e, f] (1442, ni_sV 28 0 10 1445) (ni_me85_18 [a, b, c, d, e, f] _ (List.mem_of_getElem? (i := 1) rfl))) rfl rfl rfl (Nat.le_of_ble_eq_true rfl) (ni_ofO (ni_rd28 [a, b, c, d, e, f])) ?_
  refine ni_xLd (ni_ro [a, b, c, d, e, f] (1445, ni_sLd 3 2 1446) (ni_me85_18 [a, b, c, d, e, f] _ (List.mem_of_getElem? (i := 2) rfl))) rfl rfl ?_
  refine ni_xV (ni_ro [a, b, c, d, e, f] (1446, ni_sV 141 0 18 1449) (ni_me85_18 [a, b, c, d, e, f] _ (List.mem_of_getElem? (i := 3) rfl))) rfl rfl rfl (Nat.le_of_ble_eq_true rfl) (ni_ofO (ni_rd141 [a, b, c, d, e, f])) ?_
  refine ni_xIc true (ni_ro [a, b, c, d, e, f] (1449, ni_sP (ni_gIc (fun x y => decide (x = y)) 3317 1452)) (ni_me85_18 [a, b, c, d, e, f] _ (List.mem_of_getElem? (i := 4) rfl))) rfl ?_
  refine ni_xInc (ni_ro [a, b, c, d, e, f] (3317, ni_sInc 5 (6) 3320) (ni_me85_52 [a, b, c, d, e, f] _ (List.mem_of_getElem? (i := 0) rfl))) rfl rfl ?_
  refine ni_xP (g := ni_gGo 28) (ni_ro [a, b, c, d, e, f] (3320, ni_sP (ni_gGo 28)) (ni_me85_52 [a, b, c, d, e, f] _ (List.mem_of_getElem? (i := 1) rfl))) rfl ?_
  refine ni_xLd (ni_ro [a, b, c, d, e, f] (28, ni_sLd 0 5 30) (ni_me85_1 [a, b, c, d, e, f] _ (List.mem_of_getElem? (i := 0) rfl))) rfl rfl ?_
  refine ni_xLd (ni_ro [a, b, c, d, e, f] (30, ni_sLd 3 0 31) (ni_me85_1 [a, b, c, d, e, f] _ (List.mem_of_getElem? (i := 1) rfl))) rfl rfl ?_
  refine ni_xSln (ni_ro [a, b, c, d, e, f] (31, ni_sSln [a, b, c, d, e, f] 32) (ni_me85_1 [a, b, c, d, e, f] _ (List.mem_of_getElem? (i := 2) rfl))) rfl ?_
  refine ni_xP (g := ni_gPush (.int 6) 34) (ni_ro [a, b, c, d, e, f] (32, ni_sP (ni_gPush (.int 6) 34)) (ni_me85_1 [a, b, c, d, e, f] _ (List.mem_of_getElem? (i := 3) rfl))) rfl ?_
  refine ni_xP (g := ni_gI (fun x y => x - y) 35) (ni_ro [a, b, c, d, e, f] (34, ni_sP (ni_gI (fun x y => x - y) 35)) (ni_me85_1 [a, b, c, d, e, f] _ (List.mem_of_getElem? (i := 4) rfl))) rfl ?_
  refine ni_xIc true (ni_ro [a, b, c, d, e, f] (35, ni_sP (ni_gIc (fun x y => decide (y < x)) 3323 38)) (ni_me85_1 [a, b, c, d, e, f] _ (List.mem_of_getElem? (i := 5) rfl))) (show decide (Int32.ofNat 6 - 6 < 0 + 6) = true from by decide) ?_
  refine ni_xP (g := ni_gPush (.int 1) 3324) (ni_ro [a, b, c, d, e, f] (3323, ni_sP (ni_gPush (.int 1) 3324)) (ni_me85_52 [a, b, c, d, e, f] _ (List.mem_of_getElem? (i := 2) rfl))) rfl ?_
  exact ni_xR (ni_ro [a, b, c, d, e, f] (3324, ni_sR (some .boolean)) (ni_me85_52 [a, b, c, d, e, f] _ (List.mem_of_getElem? (i := 3) rfl))) rfl
theorem ni_rd31 (xs : List Int32) : ni_clO ni_o7 (ni_exO ni_o7 (ni_prog xs) 300) 8 31 [.ref 0] (ni_P0, 0) = some (.inl (some (.int 0)), (ni_P0, 0)) := rfl
theorem ni_rd144 (xs : List Int32) : ni_clO ni_o7 (ni_exO ni_o7 (ni_prog xs) 300) 8 144 [.ref 14] (ni_P0, 0) = some (.inl (some (.int 0)), (ni_P0, 0)) := rfl
theorem ni_ca17 (a b c d e f : Int32) : ni_G [a, b, c, d, e, f] 9 85 1454 ni_ls0 [] (ni_P0, 0) (.inl (some (.int 1)), (ni_P0, 0)) := by
  refine ni_xLd (ni_ro [a, b, c, d, e, f] (1454, ni_sLd 3 1 1455) (ni_me85_19 [a, b, c, d, e, f] _ (List.mem_of_getElem? (i := 0) rfl))) rfl rfl ?_
  refine ni_xV (ni_ro [a, b, c, d, e, f] (1455, ni_sV 31 0 10 1458) (ni_me85_19 [a, b, c, d, e, f] _ (List.mem_of_getElem? (i := 1) rfl))) rfl rfl rfl (Nat.le_of_ble_eq_true rfl) (ni_ofO (ni_rd31 [a, b, c, d, e, f])) ?_
  refine ni_xLd (ni_ro [a, b, c, d, e, f] (1458, ni_sLd 3 2 1459) (ni_me85_19 [a, b, c, d, e, f] _ (List.mem_of_getElem? (i := 2) rfl))) rfl rfl ?_
  refine ni_xV (ni_ro [a, b, c, d, e, f] (1459, ni_sV 144 0 18 1462) (ni_me85_19 [a, b, c, d, e, f] _ (List.mem_of_getElem? (i := 3) rfl))) rfl rfl rfl (Nat.le_of_ble_eq_true rfl) (ni_ofO (ni_rd144 [a, b, c, d, e, f])) ?_
  refine ni_xIc true (ni_ro [a, b, c, d, e, f] (1462, ni_sP (ni_gIc (fun x y => decide (x = y)) 3317 1465)) (ni_me85_19 [a, b, c, d, e, f] _ (List.mem_of_getElem? (i := 4) rfl))) rfl ?_
  refine ni_xInc (ni_ro [a, b, c, d, e, f] (3317, ni_sInc 5 (6) 3320) (ni_me85_52 [a, b, c, d, e, f] _ (List.mem_of_getElem? (i := 0) rfl))) rfl rfl ?_
  refine ni_xP (g := ni_gGo 28) (ni_ro [a, b, c, d, e, f] (3320, ni_sP (ni_gGo 28)) (ni_me85_52 [a, b, c, d, e, f] _ (List.mem_of_getElem? (i := 1) rfl))) rfl ?_
  refine ni_xLd (ni_ro [a, b, c, d, e, f] (28, ni_sLd 0 5 30) (ni_me85_1 [a, b, c, d, e, f] _ (List.mem_of_getElem? (i := 0) rfl))) rfl rfl ?_
  refine ni_xLd (ni_ro [a, b, c, d, e, f] (30, ni_sLd 3 0 31) (ni_me85_1 [a, b, c, d, e, f] _ (List.mem_of_getElem? (i := 1) rfl))) rfl rfl ?_
  refine ni_xSln (ni_ro [a, b, c, d, e, f] (31, ni_sSln [a, b, c, d, e, f] 32) (ni_me85_1 [a, b, c, d, e, f] _ (List.mem_of_getElem? (i := 2) rfl))) rfl ?_
  refine ni_xP (g := ni_gPush (.int 6) 34) (ni_ro [a, b, c, d, e, f] (32, ni_sP (ni_gPush (.int 6) 34)) (ni_me85_1 [a, b, c, d, e, f] _ (List.mem_of_getElem? (i := 3) rfl))) rfl ?_
  refine ni_xP (g := ni_gI (fun x y => x - y) 35) (ni_ro [a, b, c, d, e, f] (34, ni_sP (ni_gI (fun x y => x - y) 35)) (ni_me85_1 [a, b, c, d, e, f] _ (List.mem_of_getElem? (i := 4) rfl))) rfl ?_
  refine ni_xIc true (ni_ro [a, b, c, d, e, f] (35, ni_sP (ni_gIc (fun x y => decide (y < x)) 3323 38)) (ni_me85_1 [a, b, c, d, e, f] _ (List.mem_of_getElem? (i := 5) rfl))) (show decide (Int32.ofNat 6 - 6 < 0 + 6) = true from by decide) ?_
  refine ni_xP (g := ni_gPush (.int 1) 3324) (ni_ro [a, b, c, d, e, f] (3323, ni_sP (ni_gPush (.int 1) 3324)) (ni_me85_52 [a, b, c, d, e, f] _ (List.mem_of_getElem? (i := 2) rfl))) rfl ?_
  exact ni_xR (ni_ro [a, b, c, d, e, f] (3324, ni_sR (some .boolean)) (ni_me85_52 [a, b, c, d, e, f] _ (List.mem_of_getElem? (i := 3) rfl))) rfl
theorem ni_rd49 (xs : List Int32) : ni_clO ni_o7 (ni_exO ni_o7 (ni_prog xs) 300) 8 49 [.ref 0] (ni_P0, 0) = some (.inl (some (.int 0)), (ni_P0, 0)) := rfl
theorem ni_rd165 (xs : List Int32) : ni_clO ni_o7 (ni_exO ni_o7 (ni_prog xs) 300) 8 165 [.ref 14] (ni_P0, 0) = some (.inl (some (.int 0)), (ni_P0, 0)) := rfl
theorem ni_ca18 (a b c d e f : Int32) : ni_G [a, b, c, d, e, f] 9 85 1467 ni_ls0 [] (ni_P0, 0) (.inl (some (.int 1)), (ni_P0, 0)) := by
  refine ni_xLd (ni_ro [a, b, c, d, e, f] (1467, ni_sLd 3 1 1468) (ni_me85_20 [a, b, c, d, e, f] _ (List.mem_of_getElem? (i := 0) rfl))) rfl rfl ?_
  refine ni_xV (ni_ro [a, b, c, d, e, f] (1468, ni_sV 49 0 10 1471) (ni_me85_20 [a, b, c, d, e, f] _ (List.mem_of_getElem? (i := 1) rfl))) rfl rfl rfl (Nat.le_of_ble_eq_true rfl) (ni_ofO (ni_rd49 [a, b, c, d, e, f])) ?_
  refine ni_xLd (ni_ro [a, b, c, d, e, f] (1471, ni_sLd 3 2 1472) (ni_me85_20 [a, b, c, d, e, f] _ (List.mem_of_getElem? (i := 2) rfl))) rfl rfl ?_
  refine ni_xV (ni_ro [a, b, c, d, e, f] (1472, ni_sV 165 0 18 1475) (ni_me85_20 [a, b, c, d, e, f] _ (List.mem_of_getElem? (i := 3) rfl))) rfl rfl rfl (Nat.le_of_ble_eq_true rfl) (ni_ofO (ni_rd165 [a, b, c, d, e, f])) ?_
  refine ni_xIc true (ni_ro [a, b, c, d, e, f] (1475, ni_sP (ni_gIc (fun x y => decide (x = y)) 3317 1478)) (ni_me85_20 [a, b, c, d, e, f] _ (List.mem_of_getElem? (i := 4) rfl))) rfl ?_
  refine ni_xInc (ni_ro [a, b, c, d, e, f] (3317, ni_sInc 5 (6) 3320) (ni_me85_52 [a, b, c, d, e, f] _ (List.mem_of_getElem? (i := 0) rfl))) rfl rfl ?_
  refine ni_xP (g := ni_gGo 28) (ni_ro [a, b, c, d, e, f] (3320, ni_sP (ni_gGo 28)) (ni_me85_52 [a, b, c, d, e, f] _ (List.mem_of_getElem? (i := 1) rfl))) rfl ?_
  refine ni_xLd (ni_ro [a, b, c, d, e, f] (28, ni_sLd 0 5 30) (ni_me85_1 [a, b, c, d, e, f] _ (List.mem_of_getElem? (i := 0) rfl))) rfl rfl ?_
  refine ni_xLd (ni_ro [a, b, c, d, e, f] (30, ni_sLd 3 0 31) (ni_me85_1 [a, b, c, d, e, f] _ (List.mem_of_getElem? (i := 1) rfl))) rfl rfl ?_
  refine ni_xSln (ni_ro [a, b, c, d, e, f] (31, ni_sSln [a, b, c, d, e, f] 32) (ni_me85_1 [a, b, c, d, e, f] _ (List.mem_of_getElem? (i := 2) rfl))) rfl ?_
  refine ni_xP (g := ni_gPush (.int 6) 34) (ni_ro [a, b, c, d, e, f] (32, ni_sP (ni_gPush (.int 6) 34)) (ni_me85_1 [a, b, c, d, e, f] _ (List.mem_of_getElem? (i := 3) rfl))) rfl ?_
  refine ni_xP (g := ni_gI (fun x y => x - y) 35) (ni_ro [a, b, c, d, e, f] (34, ni_sP (ni_gI (fun x y => x - y) 35)) (ni_me85_1 [a, b, c, d, e, f] _ (List.mem_of_getElem? (i := 4) rfl))) rfl ?_
  refine ni_xIc true (ni_ro [a, b, c, d, e, f] (35, ni_sP (ni_gIc (fun x y => decide (y < x)) 3323 38)) (ni_me85_1 [a, b, c, d, e, f] _ (List.mem_of_getElem? (i := 5) rfl))) (show decide (Int32.ofNat 6 - 6 < 0 + 6) = true from by decide) ?_
  refine ni_xP (g := ni_gPush (.int 1) 3324) (ni_ro [a, b, c, d, e, f] (3323, ni_sP (ni_gPush (.int 1) 3324)) (ni_me85_52 [a, b, c, d, e, f] _ (List.mem_of_getElem? (i := 2) rfl))) rfl ?_
  exact ni_xR (ni_ro [a, b, c, d, e, f] (3324, ni_sR (some .boolean)) (ni_me85_52 [a, b, c, d, e, f] _ (List.mem_of_getElem? (i := 3) rfl))) rfl
theorem ni_rd21 (xs : List Int32) : ni_clO ni_o7 (ni_exO ni_o7 (ni_prog xs) 300) 8 21 [.ref 0] (ni_P0, 0) = some (.inl (some (.int 0)), (ni_P0, 0)) := rfl
theorem ni_rd128 (xs : List Int32) : ni_clO ni_o7 (ni_exO ni_o7 (ni_prog xs) 300) 8 128 [.ref 14] (ni_P0, 0) = some (.inl (some (.int 0)), (ni_P0, 0)) := rfl
theorem ni_ca19 (a b c d e f : Int32) : ni_G [a, b, c, d, e, f] 9 85 1480 ni_ls0 [] (ni_P0, 0) (.inl (some (.int 1)), (ni_P0, 0)) := by
  refine ni_xLd (ni_ro [a, b, c, d, e, f] (1480, ni_sLd 3 1 1481) (ni_me85_21 [a, b, c, d, e, f] _ (List.mem_of_getElem? (i := 0) rfl))) rfl rfl ?_
  refine ni_xV (ni_ro [a, b, c, d, e, f] (1481, ni_sV 21 0 10 1484) (ni_me85_21 [a, b, c, d, e, f] _ (List.mem_of_getElem? (i := 1) rfl))) rfl rfl rfl (Nat.le_of_ble_eq_true rfl) (ni_ofO (ni_rd21 [a, b, c, d, e, f])) ?_
  refine ni_xLd (ni_ro [a, b, c, d, e, f] (1484, ni_sLd 3 2 1485) (ni_me85_21 [a, b, c, d, e, f] _ (List.mem_of_getElem? (i := 2) rfl))) rfl rfl ?_
  refine ni_xV (ni_ro [a, b, c, d, e, f] (1485, ni_sV 128 0 18 1488) (ni_me85_21 [a, b, c, d, e, f] _ (List.mem_of_getElem? (i := 3) rfl))) rfl rfl rfl (Nat.le_of_ble_eq_true rfl) (ni_ofO (ni_rd128 [a, b, c, d, e, f])) ?_
  refine ni_xIc true (ni_ro [a, b, c, d, e, f] (1488, ni_sP (ni_gIc (fun x y => decide (x = y)) 3317 1491)) (ni_me85_21 [a, b, c, d, e, f] _ (List.mem_of_getElem? (i := 4) rfl))) rfl ?_
  refine ni_xInc (ni_ro [a, b, c, d, e, f] (3317, ni_sInc 5 (6) 3320) (ni_me85_52 [a, b, c, d, e, f] _ (List.mem_of_getElem? (i := 0) rfl))) rfl rfl ?_
  refine ni_xP (g := ni_gGo 28) (ni_ro [a, b, c, d, e, f] (3320, ni_sP (ni_gGo 28)) (ni_me85_52 [a, b, c, d, e, f] _ (List.mem_of_getElem? (i := 1) rfl))) rfl ?_
  refine ni_xLd (ni_ro [a, b, c, d, e, f] (28, ni_sLd 0 5 30) (ni_me85_1 [a, b, c, d, e, f] _ (List.mem_of_getElem? (i := 0) rfl))) rfl rfl ?_
  refine ni_xLd (ni_ro [a, b, c, d, e, f] (30, ni_sLd 3 0 31) (ni_me85_1 [a, b, c, d, e, f] _ (List.mem_of_getElem? (i := 1) rfl))) rfl rfl ?_
  refine ni_xSln (ni_ro [a, b, c, d, e, f] (31, ni_sSln [a, b, c, d, e, f] 32) (ni_me85_1 [a, b, c, d, e, f] _ (List.mem_of_getElem? (i := 2) rfl))) rfl ?_
  refine ni_xP (g := ni_gPush (.int 6) 34) (ni_ro [a, b, c, d, e, f] (32, ni_sP (ni_gPush (.int 6) 34)) (ni_me85_1 [a, b, c, d, e, f] _ (List.mem_of_getElem? (i := 3) rfl))) rfl ?_
  refine ni_xP (g := ni_gI (fun x y => x - y) 35) (ni_ro [a, b, c, d, e, f] (34, ni_sP (ni_gI (fun x y => x - y) 35)) (ni_me85_1 [a, b, c, d, e, f] _ (List.mem_of_getElem? (i := 4) rfl))) rfl ?_
  refine ni_xIc true (ni_ro [a, b, c, d, e, f] (35, ni_sP (ni_gIc (fun x y => decide (y < x)) 3323 38)) (ni_me85_1 [a, b, c, d, e, f] _ (List.mem_of_getElem? (i := 5) rfl))) (show decide (Int32.ofNat 6 - 6 < 0 + 6) = true from by decide) ?_
  refine ni_xP (g := ni_gPush (.int 1) 3324) (ni_ro [a, b, c, d, e, f] (3323, ni_sP (ni_gPush (.int 1) 3324)) (ni_me85_52 [a, b, c, d, e, f] _ (List.mem_of_getElem? (i := 2) rfl))) rfl ?_
  exact ni_xR (ni_ro [a, b, c, d, e, f] (3324, ni_sR (some .boolean)) (ni_me85_52 [a, b, c, d, e, f] _ (List.mem_of_getElem? (i := 3) rfl))) rfl
theorem ni_ca20 (a b c d e f : Int32) : ni_G [a, b, c, d, e, f] 9 85 1493 ni_ls0 [] (ni_P0, 0) (.inl (some (.int 1)), (ni_P1, 1)) := by
  refine ni_xLd (ni_ro [a, b, c, d, e, f] (1493, ni_sLd 3 1 1494) (ni_me85_22 [a, b, c, d, e, f] _ (List.mem_of_getElem? (i := 0) rfl))) rfl rfl ?_
  refine ni_xLd (ni_ro [a, b, c, d, e, f] (1494, ni_sLd 3 0 1495) (ni_me85_22 [a, b, c, d, e, f] _ (List.mem_of_getElem? (i := 1) rfl))) rfl rfl ?_
  refine ni_xLd (ni_ro [a, b, c, d, e, f] (1495, ni_sLd 0 5 1497) (ni_me85_22 [a, b, c, d, e, f] _ (List.mem_of_getElem? (i := 2) rfl))) rfl rfl ?_
  refine ni_xP (g := ni_gPush (.int 1) 1498) (ni_ro [a, b, c, d, e, f] (1497, ni_sP (ni_gPush (.int 1) 1498)) (ni_me85_22 [a, b, c, d, e, f] _ (List.mem_of_getElem? (i := 3) rfl))) rfl ?_
  refine ni_xP (g := ni_gI (fun x y => x + y) 1499) (ni_ro [a, b, c, d, e, f] (1498, ni_sP (ni_gI (fun x y => x + y) 1499)) (ni_me85_22 [a, b, c, d, e, f] _ (List.mem_of_getElem? (i := 4) rfl))) rfl ?_
  refine ni_xSld (ni_ro [a, b, c, d, e, f] (1499, ni_sSld [a, b, c, d, e, f] 1500) (ni_me85_22 [a, b, c, d, e, f] _ (List.mem_of_getElem? (i := 5) rfl))) ⟨by decide, rfl⟩ ?_
  refine ni_xLd (ni_ro [a, b, c, d, e, f] (1500, ni_sLd 3 3 1501) (ni_me85_22 [a, b, c, d, e, f] _ (List.mem_of_getElem? (i := 6) rfl))) rfl rfl ?_
  refine ni_xC (ni_ro [a, b, c, d, e, f] (1501, ni_sC 83 3 1504) (ni_me85_22 [a, b, c, d, e, f] _ (List.mem_of_getElem? (i := 7) rfl))) (Nat.le_of_ble_eq_true rfl) rfl rfl (Nat.le_of_ble_eq_true rfl) (ni_ofO (ni_kw83 [a, b, c, d, e, f] _)) ?_
  refine ni_xSt (ni_ro [a, b, c, d, e, f] (1504, ni_sSt 0 6 1506) (ni_me85_22 [a, b, c, d, e, f] _ (List.mem_of_getElem? (i := 8) rfl))) rfl rfl ?_
  refine ni_xLd (ni_ro [a, b, c, d, e, f] (1506, ni_sLd 3 2 1507) (ni_me85_22 [a, b, c, d, e, f] _ (List.mem_of_getElem? (i := 9) rfl))) rfl rfl ?_
  refine ni_xLd (ni_ro [a, b, c, d, e, f] (1507, ni_sLd 3 0 1508) (ni_me85_22 [a, b, c, d, e, f] _ (List.mem_of_getElem? (i := 10) rfl))) rfl rfl ?_
  refine ni_xLd (ni_ro [a, b, c, d, e, f] (1508, ni_sLd 0 5 1510) (ni_me85_22 [a, b, c, d, e, f] _ (List.mem_of_getElem? (i := 11) rfl))) rfl rfl ?_
  refine ni_xP (g := ni_gPush (.int 1) 1511) (ni_ro [a, b, c, d, e, f] (1510, ni_sP (ni_gPush (.int 1) 1511)) (ni_me85_22 [a, b, c, d, e, f] _ (List.mem_of_getElem? (i := 12) rfl))) rfl ?_
  refine ni_xP (g := ni_gI (fun x y => x + y) 1512) (ni_ro [a, b, c, d, e, f] (1511, ni_sP (ni_gI (fun x y => x + y) 1512)) (ni_me85_22 [a, b, c, d, e, f] _ (List.mem_of_getElem? (i := 13) rfl))) rfl ?_
  refine ni_xSld (ni_ro [a, b, c, d, e, f] (1512, ni_sSld [a, b, c, d, e, f] 1513) (ni_me85_22 [a, b, c, d, e, f] _ (List.mem_of_getElem? (i := 14) rfl))) ⟨by decide, rfl⟩ ?_
  refine ni_xV (ni_ro [a, b, c, d, e, f] (1513, ni_sV 137 1 18 1516) (ni_me85_22 [a, b, c, d, e, f] _ (List.mem_of_getElem? (i := 15) rfl))) rfl rfl rfl (Nat.le_of_ble_eq_true rfl) (ni_ofO (ni_km137 [a, b, c, d, e, f] _)) ?_
  refine ni_xSt (ni_ro [a, b, c, d, e, f] (1516, ni_sSt 0 7 1518) (ni_me85_22 [a, b, c, d, e, f] _ (List.mem_of_getElem? (i := 16) rfl))) rfl rfl ?_
  refine ni_xLd (ni_ro [a, b, c, d, e, f] (1518, ni_sLd 3 2 1519) (ni_me85_22 [a, b, c, d, e, f] _ (List.mem_of_getElem? (i := 17) rfl))) rfl rfl ?_
  refine ni_xV (ni_ro [a, b, c, d, e, f] (1519, ni_sV 167 0 18 1522) (ni_me85_22 [a, b, c, d, e, f] _ (List.mem_of_getElem? (i := 18) rfl))) rfl rfl rfl (Nat.le_of_ble_eq_true rfl) (ni_ofO (ni_k167 [a, b, c, d, e, f])) ?_
  refine ni_xLd (ni_ro [a, b, c, d, e, f] (1522, ni_sLd 0 6 1524) (ni_me85_22 [a, b, c, d, e, f] _ (List.mem_of_getElem? (i := 19) rfl))) rfl rfl ?_
  refine ni_xIc true (ni_ro [a, b, c, d, e, f] (1524, ni_sP (ni_gIc (fun x y => decide (x = y)) 1529 1527)) (ni_me85_22 [a, b, c, d, e, f] _ (List.mem_of_getElem? (i := 20) rfl))) rfl ?_
  refine ni_xLd (ni_ro [a, b, c, d, e, f] (1529, ni_sLd 0 6 1531) (ni_me85_22 [a, b, c, d, e, f] _ (List.mem_of_getElem? (i := 21) rfl))) rfl rfl ?_
  refine ni_xIf true (ni_ro [a, b, c, d, e, f] (1531, ni_sP (ni_gIf (fun x => decide (¬ x = 0)) 1553 1534)) (ni_me85_22 [a, b, c, d, e, f] _ (List.mem_of_getElem? (i := 22) rfl))) rfl ?_
  refine ni_xP (g := ni_gGo 3317) (ni_ro [a, b, c, d, e, f] (1553, ni_sP (ni_gGo 3317)) (ni_me85_22 [a, b, c, d, e, f] _ (List.mem_of_getElem? (i := 23) rfl))) rfl ?_
  refine ni_xInc (ni_ro [a, b, c, d, e, f] (3317, ni_sInc 5 (6) 3320) (ni_me85_52 [a, b, c, d, e, f] _ (List.mem_of_getElem? (i := 0) rfl))) rfl rfl ?_
  refine ni_xP (g := ni_gGo 28) (ni_ro [a, b, c, d, e, f] (3320, ni_sP (ni_gGo 28)) (ni_me85_52 [a, b, c, d, e, f] _ (List.mem_of_getElem? (i := 1) rfl))) rfl ?_
  refine ni_xLd (ni_ro [a, b, c, d, e, f] (28, ni_sLd 0 5 30) (ni_me85_1 [a, b, c, d, e, f] _ (List.mem_of_getElem? (i := 0) rfl))) rfl rfl ?_
  refine ni_xLd (ni_ro [a, b, c, d, e, f] (30, ni_sLd 3 0 31) (ni_me85_1 [a, b, c, d, e, f] _ (List.mem_of_getElem? (i := 1) rfl))) rfl rfl ?_
  refine ni_xSln (ni_ro [a, b, c, d, e, f] (31, ni_sSln [a, b, c, d, e, f] 32) (ni_me85_1 [a, b, c, d, e, f] _ (List.mem_of_getElem? (i := 2) rfl))) rfl ?_
  refine ni_xP (g := ni_gPush (.int 6) 34) (ni_ro [a, b, c, d, e, f] (32, ni_sP (ni_gPush (.int 6) 34)) (ni_me85_1 [a, b, c, d, e, f] _ (List.mem_of_getElem? (i := 3) rfl))) rfl ?_
  refine ni_xP (g := ni_gI (fun x y => x - y) 35) (ni_ro [a, b, c, d, e, f] (34, ni_sP (ni_gI (fun x y => x - y) 35)) (ni_me85_1 [a, b, c, d, e, f] _ (List.mem_of_getElem? (i := 4) rfl))) rfl ?_
  refine ni_xIc true (ni_ro [a, b, c, d, e, f] (35, ni_sP (ni_gIc (fun x y => decide (y < x)) 3323 38)) (ni_me85_1 [a, b, c, d, e, f] _ (List.mem_of_getElem? (i := 5) rfl))) (show decide (Int32.ofNat 6 - 6 < 0 + 6) = true from by decide) ?_
  refine ni_xP (g := ni_gPush (.int 1) 3324) (ni_ro [a, b, c, d, e, f] (3323, ni_sP (ni_gPush (.int 1) 3324)) (ni_me85_52 [a, b, c, d, e, f] _ (List.mem_of_getElem? (i := 2) rfl))) rfl ?_
  exact ni_xR (ni_ro [a, b, c, d, e, f] (3324, ni_sR (some .boolean)) (ni_me85_52 [a, b, c, d, e, f] _ (List.mem_of_getElem? (i := 3) rfl))) rfl
theorem ni_ca21 (a b c d e f : Int32) : ni_G [a, b, c, d, e, f] 9 85 1556 ni_ls0 [] (ni_P0, 0) (.inl (some (.int 1)), (ni_P1, 1)) := by
  refine ni_xLd (ni_ro [a, b, c, d, e, f] (1556, ni_sLd 3 1 1557) (ni_me85_23 [a, b, c, d, e, f] _ (List.mem_of_getElem? (i := 0) rfl))) rfl rfl ?_
  refine ni_xLd (ni_ro [a, b, c, d, e, f] (1557, ni_sLd 3 0 1558) (ni_me85_23 [a, b, c, d, e, f] _ (List.mem_of_getElem? (i := 1) rfl))) rfl rfl ?_
  refine ni_xLd (ni_ro [a, b, c, d, e, f] (1558, ni_sLd 0 5 1560) (ni_me85_23 [a, b, c, d, e, f] _ (List.mem_of_getElem? (i := 2) rfl))) rfl rfl ?_
  refine ni_xP (g := ni_gPush (.int 1) 1561) (ni_ro [a, b, c, d, e, f] (1560, ni_sP (ni_gPush (.int 1) 1561)) (ni_me85_23 [a, b, c, d, e, f] _ (List.mem_of_getElem? (i := 3) rfl))) rfl ?_
  refine ni_xP (g := ni_gI (fun x y => x + y) 1562) (ni_ro [a, b, c, d, e, f] (1561, ni_sP (ni_gI (fun x y => x + y) 1562)) (ni_me85_23 [a, b, c, d, e, f] _ (List.mem_of_getElem? (i := 4) rfl))) rfl ?_
  refine ni_xSld (ni_ro [a, b, c, d, e, f] (1562, ni_sSld [a, b, c, d, e, f] 1563) (ni_me85_23 [a, b, c, d, e, f] _ (List.mem_of_getElem? (i := 5) rfl))) ⟨by decide, rfl⟩ ?_
  refine ni_xLd (ni_ro [a, b, c, d, e, f] (1563, ni_sLd 3 0 1564) (ni_me85_23 [a, b, c, d, e, f] _ (List.mem_of_getElem? (i := 6) rfl))) rfl rfl ?_
  refine ni_xLd (ni_ro [a, b, c, d, e, f] (1564, ni_sLd 0 5 1566) (ni_me85_23 [a, b, c, d, e, f] _ (List.mem_of_getElem? (i := 7) rfl))) rfl rfl ?_
  refine ni_xP (g := ni_gPush (.int 2) 1567) (ni_ro [a, b, c, d, e, f] (1566, ni_sP (ni_gPush (.int 2) 1567)) (ni_me85_23 [a, b, c, d, e, f] _ (List.mem_of_getElem? (i := 8) rfl))) rfl ?_
  refine ni_xP (g := ni_gI (fun x y => x + y) 1568) (ni_ro [a, b, c, d, e, f] (1567, ni_sP (ni_gI (fun x y => x + y) 1568)) (ni_me85_23 [a, b, c, d, e, f] _ (List.mem_of_getElem? (i := 9) rfl))) rfl ?_
  refine ni_xSld (ni_ro [a, b, c, d, e, f] (1568, ni_sSld [a, b, c, d, e, f] 1569) (ni_me85_23 [a, b, c, d, e, f] _ (List.mem_of_getElem? (i := 10) rfl))) ⟨by decide, rfl⟩ ?_
  refine ni_xLd (ni_ro [a, b, c, d, e, f] (1569, ni_sLd 3 3 1570) (ni_me85_23 [a, b, c, d, e, f] _ (List.mem_of_getElem? (i := 11) rfl))) rfl rfl ?_
  refine ni_xC (ni_ro [a, b, c, d, e, f] (1570, ni_sC 86 4 1573) (ni_me85_23 [a, b, c, d, e, f] _ (List.mem_of_getElem? (i := 12) rfl))) (Nat.le_of_ble_eq_true rfl) rfl rfl (Nat.le_of_ble_eq_true rfl) (ni_ofO (ni_kw86 [a, b, c, d, e, f] _ _)) ?_
  refine ni_xSt (ni_ro [a, b, c, d, e, f] (1573, ni_sSt 0 6 1575) (ni_me85_23 [a, b, c, d, e, f] _ (List.mem_of_getElem? (i := 13) rfl))) rfl rfl ?_
  refine ni_xLd (ni_ro [a, b, c, d, e, f] (1575, ni_sLd 3 2 1576) (ni_me85_23 [a, b, c, d, e, f] _ (List.mem_of_getElem? (i := 14) rfl))) rfl rfl ?_
  refine ni_xLd (ni_ro [a, b, c, d, e, f] (1576, ni_sLd 3 0 1577) (ni_me85_23 [a, b, c, d, e, f] _ (List.mem_of_getElem? (i := 15) rfl))) rfl rfl ?_
  refine ni_xLd (ni_ro [a, b, c, d, e, f] (1577, ni_sLd 0 5 1579) (ni_me85_23 [a, b, c, d, e, f] _ (List.mem_of_getElem? (i := 16) rfl))) rfl rfl ?_
  refine ni_xP (g := ni_gPush (.int 1) 1580) (ni_ro [a, b, c, d, e, f] (1579, ni_sP (ni_gPush (.int 1) 1580)) (ni_me85_23 [a, b, c, d, e, f] _ (List.mem_of_getElem? (i := 17) rfl))) rfl ?_
  refine ni_xP (g := ni_gI (fun x y => x + y) 1581) (ni_ro [a, b, c, d, e, f] (1580, ni_sP (ni_gI (fun x y => x + y) 1581)) (ni_me85_23 [a, b, c, d, e, f] _ (List.mem_of_getElem? (i := 18) rfl))) rfl ?_
  refine ni_xSld (ni_ro [a, b, c, d, e, f] (1581, ni_sSld [a, b, c, d, e, f] 1582) (ni_me85_23 [a, b, c, d, e, f] _ (List.mem_of_getElem? (i := 19) rfl))) ⟨by decide, rfl⟩ ?_
  refine ni_xLd (ni_ro [a, b, c, d, e, f] (1582, ni_sLd 3 0 1583) (ni_me85_23 [a, b, c, d, e, f] _ (List.mem_of_getElem? (i := 20) rfl))) rfl rfl ?_
  refine ni_xLd (ni_ro [a, b, c, d, e, f] (1583, ni_sLd 0 5 1585) (ni_me85_23 [a, b, c, d, e, f] _ (List.mem_of_getElem? (i := 21) rfl))) rfl rfl ?_
  refine ni_xP (g := ni_gPush (.int 2) 1586) (ni_ro [a, b, c, d, e, f] (1585, ni_sP (ni_gPush (.int 2) 1586)) (ni_me85_23 [a, b, c, d, e, f] _ (List.mem_of_getElem? (i := 22) rfl))) rfl ?_
  refine ni_xP (g := ni_gI (fun x y => x + y) 1587) (ni_ro [a, b, c, d, e, f] (1586, ni_sP (ni_gI (fun x y => x + y) 1587)) (ni_me85_23 [a, b, c, d, e, f] _ (List.mem_of_getElem? (i := 23) rfl))) rfl ?_
  refine ni_xSld (ni_ro [a, b, c, d, e, f] (1587, ni_sSld [a, b, c, d, e, f] 1588) (ni_me85_23 [a, b, c, d, e, f] _ (List.mem_of_getElem? (i := 24) rfl))) ⟨by decide, rfl⟩ ?_
  refine ni_xV (ni_ro [a, b, c, d, e, f] (1588, ni_sV 139 2 18 1591) (ni_me85_23 [a, b, c, d, e, f] _ (List.mem_of_getElem? (i := 25) rfl))) rfl rfl rfl (Nat.le_of_ble_eq_true rfl) (ni_ofO (ni_km139 [a, b, c, d, e, f] _ _)) ?_
  refine ni_xSt (ni_ro [a, b, c, d, e, f] (1591, ni_sSt 0 7 1593) (ni_me85_23 [a, b, c, d, e, f] _ (List.mem_of_getElem? (i := 26) rfl))) rfl rfl ?_
  refine ni_xLd (ni_ro [a, b, c, d, e, f] (1593, ni_sLd 3 2 1594) (ni_me85_23 [a, b, c, d, e, f] _ (List.mem_of_getElem? (i := 27) rfl))) rfl rfl ?_
  refine ni_xV (ni_ro [a, b, c, d, e, f] (1594, ni_sV 167 0 18 1597) (ni_me85_23 [a, b, c, d, e, f] _ (List.mem_of_getElem? (i := 28) rfl))) rfl rfl rfl (Nat.le_of_ble_eq_true rfl) (ni_ofO (ni_k167 [a, b, c, d, e, f])) ?_
  refine ni_xLd (ni_ro [a, b, c, d, e, f] (1597, ni_sLd 0 6 1599) (ni_me85_23 [a, b, c, d, e, f] _ (List.mem_of_getElem? (i := 29) rfl))) rfl rfl ?_
  refine ni_xIc true (ni_ro [a, b, c, d, e, f] (1599, ni_sP (ni_gIc (fun x y => decide (x = y)) 1604 1602)) (ni_me85_23 [a, b, c, d, e, f] _ (List.mem_of_getElem? (i := 30) rfl))) rfl ?_
  refine ni_xLd (ni_ro [a, b, c, d, e, f] (1604, ni_sLd 0 6 1606) (ni_me85_23 [a, b, c, d, e, f] _ (List.mem_of_getElem? (i := 31) rfl))) rfl rfl ?_
  refine ni_xIf true (ni_ro [a, b, c, d, e, f] (1606, ni_sP (ni_gIf (fun x => decide (¬ x = 0)) 1621 1609)) (ni_me85_23 [a, b, c, d, e, f] _ (List.mem_of_getElem? (i := 32) rfl))) rfl ?_
  refine ni_xP (g := ni_gGo 3317) (ni_ro [a, b, c, d, e, f] (1621, ni_sP (ni_gGo 3317)) (ni_me85_23 [a, b, c, d, e, f] _ (List.mem_of_getElem? (i := 33) rfl))) rfl ?_
  refine ni_xInc (ni_ro [a, b, c, d, e, f] (3317, ni_sInc 5 (6) 3320) (ni_me85_52 [a, b, c, d, e, f] _ (List.mem_of_getElem? (i := 0) rfl))) rfl rfl ?_
  refine ni_xP (g := ni_gGo 28) (ni_ro [a, b, c, d, e, f] (3320, ni_sP (ni_gGo 28)) (ni_me85_52 [a, b, c, d, e, f] _ (List.mem_of_getElem? (i := 1) rfl))) rfl ?_
  refine ni_xLd (ni_ro [a, b, c, d, e, f] (28, ni_sLd 0 5 30) (ni_me85_1 [a, b, c, d, e, f] _ (List.mem_of_getElem? (i := 0) rfl))) rfl rfl ?_
  refine ni_xLd (ni_ro [a, b, c, d, e, f] (30, ni_sLd 3 0 31) (ni_me85_1 [a, b, c, d, e, f] _ (List.mem_of_getElem? (i := 1) rfl))) rfl rfl ?_
  refine ni_xSln (ni_ro [a, b, c, d, e, f] (31, ni_sSln [a, b, c, d, e, f] 32) (ni_me85_1 [a, b, c, d, e, f] _ (List.mem_of_getElem? (i := 2) rfl))) rfl ?_
  refine ni_xP (g := ni_gPush (.int 6) 34) (ni_ro [a, b, c, d, e, f] (32, ni_sP (ni_gPush (.int 6) 34)) (ni_me85_1 [a, b, c, d, e, f] _ (List.mem_of_getElem? (i := 3) rfl))) rfl ?_
  refine ni_xP (g := ni_gI (fun x y => x - y) 35) (ni_ro [a, b, c, d, e, f] (34, ni_sP (ni_gI (fun x y => x - y) 35)) (ni_me85_1 [a, b, c, d, e, f] _ (List.mem_of_getElem? (i := 4) rfl))) rfl ?_
  refine ni_xIc true (ni_ro [a, b, c, d, e, f] (35, ni_sP (ni_gIc (fun x y => decide (y < x)) 3323 38)) (ni_me85_1 [a, b, c, d, e, f] _ (List.mem_of_getElem? (i := 5) rfl))) (show decide (Int32.ofNat 6 - 6 < 0 + 6) = true from by decide) ?_
  refine ni_xP (g := ni_gPush (.int 1) 3324) (ni_ro [a, b, c, d, e, f] (3323, ni_sP (ni_gPush (.int 1) 3324)) (ni_me85_52 [a, b, c, d, e, f] _ (List.mem_of_getElem? (i := 2) rfl))) rfl ?_
  exact ni_xR (ni_ro [a, b, c, d, e, f] (3324, ni_sR (some .boolean)) (ni_me85_52 [a, b, c, d, e, f] _ (List.mem_of_getElem? (i := 3) rfl))) rfl
theorem ni_rd27 (xs : List Int32) : ni_clO ni_o7 (ni_exO ni_o7 (ni_prog xs) 300) 8 27 [.ref 0] (ni_P0, 0) = some (.inl (some (.int 0)), (ni_P0, 0)) := rfl
theorem ni_rd140 (xs : List Int32) : ni_clO ni_o7 (ni_exO ni_o7 (ni_prog xs) 300) 8 140 [.ref 14] (ni_P0, 0) = some (.inl (some (.int 0)), (ni_P0, 0)) := rfl
theorem ni_ca22 (a b c d e f : Int32) : ni_G [a, b, c, d, e, f] 9 85 1624 ni_ls0 [] (ni_P0, 0) (.inl (some (.int 1)), (ni_P0, 0)) := by
  refine ni_xLd (ni_ro [a, b, c, d, e, f] (1624, ni_sLd 3 1 1625) (ni_me85_24 [a, b, c, d, e, f] _ (List.mem_of_getElem? (i := 0) rfl))) rfl rfl ?_
  refine ni_xV (ni_ro [a, b, c, d, e, f] (1625, ni_sV 27 0 10 1628) (ni_me85_24 [a, b, c, d, e, f] _ (List.mem_of_getElem? (i := 1) rfl))) rfl rfl rfl (Nat.le_of_ble_eq_true rfl) (ni_ofO (ni_rd27 [a, b, c, d, e, f])) ?_
  refine ni_xLd (ni_ro [a, b, c, d, e, f] (1628, ni_sLd 3 2 1629) (ni_me85_24 [a, b, c, d, e, f] _ (List.mem_of_getElem? (i := 2) rfl))) rfl rfl ?_
  refine ni_xV (ni_ro [a, b, c, d, e, f] (1629, ni_sV 140 0 18 1632) (ni_me85_24 [a, b, c, d, e, f] _ (List.mem_of_getElem? (i := 3) rfl))) rfl rfl rfl (Nat.le_of_ble_eq_true rfl) (ni_ofO (ni_rd140 [a, b, c, d, e, f])) ?_
  refine ni_xIc true (ni_ro [a, b, c, d, e, f] (1632, ni_sP (ni_gIc (fun x y => decide (x = y)) 3317 1635)) (ni_me85_24 [a, b, c, d, e, f] _ (List.mem_of_getElem? (i := 4) rfl))) rfl ?_
  refine ni_xInc (ni_ro [a, b, c, d, e, f] (3317, ni_sInc 5 (6) 3320) (ni_me85_52 [a, b, c, d, e, f] _ (List.mem_of_getElem? (i := 0) rfl))) rfl rfl ?_
  refine ni_xP (g := ni_gGo 28) (ni_ro [a, b, c, d, e, f] (3320, ni_sP (ni_gGo 28)) (ni_me85_52 [a, b, c, d, e, f] _ (List.mem_of_getElem? (i := 1) rfl))) rfl ?_
  refine ni_xLd (ni_ro [a, b, c, d, e, f] (28, ni_sLd 0 5 30) (ni_me85_1 [a, b, c, d, e, f] _ (List.mem_of_getElem? (i := 0) rfl))) rfl rfl ?_
  refine ni_xLd (ni_ro [a, b, c, d, e, f] (30, ni_sLd 3 0 31) (ni_me85_1 [a, b, c, d, e, f] _ (List.mem_of_getElem? (i := 1) rfl))) rfl rfl ?_
  refine ni_xSln (ni_ro [a, b, c, d, e, f] (31, ni_sSln [a, b, c, d, e, f] 32) (ni_me85_1 [a, b, c, d, e, f] _ (List.mem_of_getElem? (i := 2) rfl))) rfl ?_
  refine ni_xP (g := ni_gPush (.int 6) 34) (ni_ro [a, b, c, d, e, f] (32, ni_sP (ni_gPush (.int 6) 34)) (ni_me85_1 [a, b, c, d, e, f] _ (List.mem_of_getElem? (i := 3) rfl))) rfl ?_
  refine ni_xP (g := ni_gI (fun x y => x - y) 35) (ni_ro [a, b, c, d, e, f] (34, ni_sP (ni_gI (fun x y => x - y) 35)) (ni_me85_1 [a, b, c, d, e, f] _ (List.mem_of_getElem? (i := 4) rfl))) rfl ?_
  refine ni_xIc true (ni_ro [a, b, c, d, e, f] (35, ni_sP (ni_gIc (fun x y => decide (y < x)) 3323 38)) (ni_me85_1 [a, b, c, d, e, f] _ (List.mem_of_getElem? (i := 5) rfl))) (show decide (Int32.ofNat 6 - 6 < 0 + 6) = true from by decide) ?_
  refine ni_xP (g := ni_gPush (.int 1) 3324) (ni_ro [a, b, c, d, e, f] (3323, ni_sP (ni_gPush (.int 1) 3324)) (ni_me85_52 [a, b, c, d, e, f] _ (List.mem_of_getElem? (i := 2) rfl))) rfl ?_
  exact ni_xR (ni_ro [a, b, c, d, e, f] (3324, ni_sR (some .boolean)) (ni_me85_52 [a, b, c, d, e, f] _ (List.mem_of_getElem? (i := 3) rfl))) rfl
theorem ni_rd23 (xs : List Int32) : ni_clO ni_o7 (ni_exO ni_o7 (ni_prog xs) 300) 8 23 [.ref 0] (ni_P0, 0) = some (.inl (some (.int 1)), (ni_P0, 0)) := rfl
theorem ni_rd136 (xs : List Int32) : ni_clO ni_o7 (ni_exO ni_o7 (ni_prog xs) 300) 8 136 [.ref 14] (ni_P0, 0) = some (.inl (some (.int 1)), (ni_P0, 0)) := rfl
theorem ni_ca23 (a b c d e f : Int32) : ni_G [a, b, c, d, e, f] 9 85 1637 ni_ls0 [] (ni_P0, 0) (.inl (some (.int 1)), (ni_P0, 0)) := by
  refine ni_xLd (ni_ro [a, b, c, d, e, f] (1637, ni_sLd 3 1 1638) (ni_me85_25 [a, b, c, d, e, f] _ (List.mem_of_getElem? (i := 0) rfl))) rfl rfl ?_
  refine ni_xV (ni_ro [a, b, c, d, e, f] (1638, ni_sV 23 0 10 1641) (ni_me85_25 [a, b, c, d, e, f] _ (List.mem_of_getElem? (i := 1) rfl))) rfl rfl rfl (Nat.le_of_ble_eq_true rfl) (ni_ofO (ni_rd23 [a, b, c, d, e, f])) ?_
  refine ni_xLd (ni_ro [a, b, c, d, e, f] (1641, ni_sLd 3 2 1642) (ni_me85_25 [a, b, c, d, e, f] _ (List.mem_of_getElem? (i := 2) rfl))) rfl rfl ?_
  refine ni_xV (ni_ro [a, b, c, d, e, f] (1642, ni_sV 136 0 18 1645) (ni_me85_25 [a, b, c, d, e, f] _ (List.mem_of_getElem? (i := 3) rfl))) rfl rfl rfl (Nat.le_of_ble_eq_true rfl) (ni_ofO (ni_rd136 [a, b, c, d, e, f])) ?_
  refine ni_xIc true (ni_ro [a, b, c, d, e, f] (1645, ni_sP (ni_gIc (fun x y => decide (x = y)) 3317 1648)) (ni_me85_25 [a, b, c, d, e, f] _ (List.mem_of_getElem? (i := 4) rfl))) rfl ?_
  refine ni_xInc (ni_ro [a, b, c, d, e, f] (3317, ni_sInc 5 (6) 3320) (ni_me85_52 [a, b, c, d, e, f] _ (List.mem_of_getElem? (i := 0) rfl))) rfl rfl ?_
  refine ni_xP (g := ni_gGo 28) (ni_ro [a, b, c, d, e, f] (3320, ni_sP (ni_gGo 28)) (ni_me85_52 [a, b, c, d, e, f] _ (List.mem_of_getElem? (i := 1) rfl))) rfl ?_
  refine ni_xLd (ni_ro [a, b, c, d, e, f] (28, ni_sLd 0 5 30) (ni_me85_1 [a, b, c, d, e, f] _ (List.mem_of_getElem? (i := 0) rfl))) rfl rfl ?_
  refine ni_xLd (ni_ro [a, b, c, d, e, f] (30, ni_sLd 3 0 31) (ni_me85_1 [a, b, c, d, e, f] _ (List.mem_of_getElem? (i := 1) rfl))) rfl rfl ?_
  refine ni_xSln (ni_ro [a, b, c, d, e, f] (31, ni_sSln [a, b, c, d, e, f] 32) (ni_me85_1 [a, b, c, d, e, f] _ (List.mem_of_getElem? (i := 2) rfl))) rfl ?_
  refine ni_xP (g := ni_gPush (.int 6) 34) (ni_ro [a, b, c, d, e, f] (32, ni_sP (ni_gPush (.int 6) 34)) (ni_me85_1 [a, b, c, d, e, f] _ (List.mem_of_getElem? (i := 3) rfl))) rfl ?_
  refine ni_xP (g := ni_gI (fun x y => x - y) 35) (ni_ro [a, b, c, d, e, f] (34, ni_sP (ni_gI (fun x y => x - y) 35)) (ni_me85_1 [a, b, c, d, e, f] _ (List.mem_of_getElem? (i := 4) rfl))) rfl ?_
  refine ni_xIc true (ni_ro [a, b, c, d, e, f] (35, ni_sP (ni_gIc (fun x y => decide (y < x)) 3323 38)) (ni_me85_1 [a, b, c, d, e, f] _ (List.mem_of_getElem? (i := 5) rfl))) (show decide (Int32.ofNat 6 - 6 < 0 + 6) = true from by decide) ?_
  refine ni_xP (g := ni_gPush (.int 1) 3324) (ni_ro [a, b, c, d, e, f] (3323, ni_sP (ni_gPush (.int 1) 3324)) (ni_me85_52 [a, b, c, d, e, f] _ (List.mem_of_getElem? (i := 2) rfl))) rfl ?_
  exact ni_xR (ni_ro [a, b, c, d, e, f] (3324, ni_sR (some .boolean)) (ni_me85_52 [a, b, c, d, e, f] _ (List.mem_of_getElem? (i := 3) rfl))) rfl
theorem ni_ca24 (a b c d e f : Int32) : ni_G [a, b, c, d, e, f] 9 85 1650 ni_ls0 [] (ni_P0, 0) (.inl (some (.int 1)), (ni_P1, 1)) := by
  refine ni_xLd (ni_ro [a, b, c, d, e, f] (1650, ni_sLd 3 1 1651) (ni_me85_26 [a, b, c, d, e, f] _ (List.mem_of_getElem? (i := 0) rfl))) rfl rfl ?_
  refine ni_xLd (ni_ro [a, b, c, d, e, f] (1651, ni_sLd 3 0 1652) (ni_me85_26 [a, b, c, d, e, f] _ (List.mem_of_getElem? (i := 1) rfl))) rfl rfl ?_
  refine ni_xLd (ni_ro [a, b, c, d, e, f] (1652, ni_sLd 0 5 1654) (ni_me85_26 [a, b, c, d, e, f] _ (List.mem_of_getElem? (i := 2) rfl))) rfl rfl ?_
  refine ni_xP (g := ni_gPush (.int 1) 1655) (ni_ro [a, b, c, d, e, f] (1654, ni_sP (ni_gPush (.int 1) 1655)) (ni_me85_26 [a, b, c, d, e, f] _ (List.mem_of_getElem? (i := 3) rfl))) rfl ?_
  refine ni_xP (g := ni_gI (fun x y => x + y) 1656) (ni_ro [a, b, c, d, e, f] (1655, ni_sP (ni_gI (fun x y => x + y) 1656)) (ni_me85_26 [a, b, c, d, e, f] _ (List.mem_of_getElem? (i := 4) rfl))) rfl ?_
  refine ni_xSld (ni_ro [a, b, c, d, e, f] (1656, ni_sSld [a, b, c, d, e, f] 1657) (ni_me85_26 [a, b, c, d, e, f] _ (List.mem_of_getElem? (i := 5) rfl))) ⟨by decide, rfl⟩ ?_
  refine ni_xLd (ni_ro [a, b, c, d, e, f] (1657, ni_sLd 3 0 1658) (ni_me85_26 [a, b, c, d, e, f] _ (List.mem_of_getElem? (i := 6) rfl))) rfl rfl ?_
  refine ni_xLd (ni_ro [a, b, c, d, e, f] (1658, ni_sLd 0 5 1660) (ni_me85_26 [a, b, c, d, e, f] _ (List.mem_of_getElem? (i := 7) rfl))) rfl rfl ?_
  refine ni_xP (g := ni_gPush (.int 2) 1661) (ni_ro [a, b, c, d, e, f] (1660, ni_sP (ni_gPush (.int 2) 1661)) (ni_me85_26 [a, b, c, d, e, f] _ (List.mem_of_getElem? (i := 8) rfl))) rfl ?_
  refine ni_xP (g := ni_gI (fun x y => x + y) 1662) (ni_ro [a, b, c, d, e, f] (1661, ni_sP (ni_gI (fun x y => x + y) 1662)) (ni_me85_26 [a, b, c, d, e, f] _ (List.mem_of_getElem? (i := 9) rfl))) rfl ?_
  refine ni_xSld (ni_ro [a, b, c, d, e, f] (1662, ni_sSld [a, b, c, d, e, f] 1663) (ni_me85_26 [a, b, c, d, e, f] _ (List.mem_of_getElem? (i := 10) rfl))) ⟨by decide, rfl⟩ ?_
  refine ni_xLd (ni_ro [a, b, c, d, e, f] (1663, ni_sLd 3 3 1664) (ni_me85_26 [a, b, c, d, e, f] _ (List.mem_of_getElem? (i := 11) rfl))) rfl rfl ?_
  refine ni_xC (ni_ro [a, b, c, d, e, f] (1664, ni_sC 76 4 1667) (ni_me85_26 [a, b, c, d, e, f] _ (List.mem_of_getElem? (i := 12) rfl))) (Nat.le_of_ble_eq_true rfl) rfl rfl (Nat.le_of_ble_eq_true rfl) (ni_ofO (ni_kw76 [a, b, c, d, e, f] _ _)) ?_
  refine ni_xSt (ni_ro [a, b, c, d, e, f] (1667, ni_sSt 0 6 1669) (ni_me85_26 [a, b, c, d, e, f] _ (List.mem_of_getElem? (i := 13) rfl))) rfl rfl ?_
  refine ni_xLd (ni_ro [a, b, c, d, e, f] (1669, ni_sLd 3 2 1670) (ni_me85_26 [a, b, c, d, e, f] _ (List.mem_of_getElem? (i := 14) rfl))) rfl rfl ?_
  refine ni_xLd (ni_ro [a, b, c, d, e, f] (1670, ni_sLd 3 0 1671) (ni_me85_26 [a, b, c, d, e, f] _ (List.mem_of_getElem? (i := 15) rfl))) rfl rfl ?_
  refine ni_xLd (ni_ro [a, b, c, d, e, f] (1671, ni_sLd 0 5 1673) (ni_me85_26 [a, b, c, d, e, f] _ (List.mem_of_getElem? (i := 16) rfl))) rfl rfl ?_
  refine ni_xP (g := ni_gPush (.int 1) 1674) (ni_ro [a, b, c, d, e, f] (1673, ni_sP (ni_gPush (.int 1) 1674)) (ni_me85_26 [a, b, c, d, e, f] _ (List.mem_of_getElem? (i := 17) rfl))) rfl ?_
  refine ni_xP (g := ni_gI (fun x y => x + y) 1675) (ni_ro [a, b, c, d, e, f] (1674, ni_sP (ni_gI (fun x y => x + y) 1675)) (ni_me85_26 [a, b, c, d, e, f] _ (List.mem_of_getElem? (i := 18) rfl))) rfl ?_
  refine ni_xSld (ni_ro [a, b, c, d, e, f] (1675, ni_sSld [a, b, c, d, e, f] 1676) (ni_me85_26 [a, b, c, d, e, f] _ (List.mem_of_getElem? (i := 19) rfl))) ⟨by decide, rfl⟩ ?_
  refine ni_xLd (ni_ro [a, b, c, d, e, f] (1676, ni_sLd 3 0 1677) (ni_me85_26 [a, b, c, d, e, f] _ (List.mem_of_getElem? (i := 20) rfl))) rfl rfl ?_
  refine ni_xLd (ni_ro [a, b, c, d, e, f] (1677, ni_sLd 0 5 1679) (ni_me85_26 [a, b, c, d, e, f] _ (List.mem_of_getElem? (i := 21) rfl))) rfl rfl ?_
  refine ni_xP (g := ni_gPush (.int 2) 1680) (ni_ro [a, b, c, d, e, f] (1679, ni_sP (ni_gPush (.int 2) 1680)) (ni_me85_26 [a, b, c, d, e, f] _ (List.mem_of_getElem? (i := 22) rfl))) rfl ?_
  refine ni_xP (g := ni_gI (fun x y => x + y) 1681) (ni_ro [a, b, c, d, e, f] (1680, ni_sP (ni_gI (fun x y => x + y) 1681)) (ni_me85_26 [a, b, c, d, e, f] _ (List.mem_of_getElem? (i := 23) rfl))) rfl ?_
  refine ni_xSld (ni_ro [a, b, c, d, e, f] (1681, ni_sSld [a, b, c, d, e, f] 1682) (ni_me85_26 [a, b, c, d, e, f] _ (List.mem_of_getElem? (i := 24) rfl))) ⟨by decide, rfl⟩ ?_
  refine ni_xV (ni_ro [a, b, c, d, e, f] (1682, ni_sV 122 2 18 1685) (ni_me85_26 [a, b, c, d, e, f] _ (List.mem_of_getElem? (i := 25) rfl))) rfl rfl rfl (Nat.le_of_ble_eq_true rfl) (ni_ofO (ni_km122 [a, b, c, d, e, f] _ _)) ?_
  refine ni_xSt (ni_ro [a, b, c, d, e, f] (1685, ni_sSt 0 7 1687) (ni_me85_26 [a, b, c, d, e, f] _ (List.mem_of_getElem? (i := 26) rfl))) rfl rfl ?_
  refine ni_xLd (ni_ro [a, b, c, d, e, f] (1687, ni_sLd 3 2 1688) (ni_me85_26 [a, b, c, d, e, f] _ (List.mem_of_getElem? (i := 27) rfl))) rfl rfl ?_
  refine ni_xV (ni_ro [a, b, c, d, e, f] (1688, ni_sV 167 0 18 1691) (ni_me85_26 [a, b, c, d, e, f] _ (List.mem_of_getElem? (i := 28) rfl))) rfl rfl rfl (Nat.le_of_ble_eq_true rfl) (ni_ofO (ni_k167 [a, b, c, d, e, f])) ?_
  refine ni_xLd (ni_ro [a, b, c, d, e, f] (1691, ni_sLd 0 6 1693) (ni_me85_26 [a, b, c, d, e, f] _ (List.mem_of_getElem? (i := 29) rfl))) rfl rfl ?_
  refine ni_xIc true (ni_ro [a, b, c, d, e, f] (1693, ni_sP (ni_gIc (fun x y => decide (x = y)) 1698 1696)) (ni_me85_26 [a, b, c, d, e, f] _ (List.mem_of_getElem? (i := 30) rfl))) rfl ?_
  refine ni_xLd (ni_ro [a, b, c, d, e, f] (1698, ni_sLd 0 6 1700) (ni_me85_26 [a, b, c, d, e, f] _ (List.mem_of_getElem? (i := 31) rfl))) rfl rfl ?_
  refine ni_xIf true (ni_ro [a, b, c, d, e, f] (1700, ni_sP (ni_gIf (fun x => decide (¬ x = 0)) 1715 1703)) (ni_me85_26 [a, b, c, d, e, f] _ (List.mem_of_getElem? (i := 32) rfl))) rfl ?_
  refine ni_xP (g := ni_gGo 3317) (ni_ro [a, b, c, d, e, f] (1715, ni_sP (ni_gGo 3317)) (ni_me85_26 [a, b, c, d, e, f] _ (List.mem_of_getElem? (i := 33) rfl))) rfl ?_
  refine ni_xInc (ni_ro [a, b, c, d, e, f] (3317, ni_sInc 5 (6) 3320) (ni_me85_52 [a, b, c, d, e, f] _ (List.mem_of_getElem? (i := 0) rfl))) rfl rfl ?_
  refine ni_xP (g := ni_gGo 28) (ni_ro [a, b, c, d, e, f] (3320, ni_sP (ni_gGo 28)) (ni_me85_52 [a, b, c, d, e, f] _ (List.mem_of_getElem? (i := 1) rfl))) rfl ?_
  refine ni_xLd (ni_ro [a, b, c, d, e, f] (28, ni_sLd 0 5 30) (ni_me85_1 [a, b, c, d, e, f] _ (List.mem_of_getElem? (i := 0) rfl))) rfl rfl ?_
  refine ni_xLd (ni_ro [a, b, c, d, e, f] (30, ni_sLd 3 0 31) (ni_me85_1 [a, b, c, d, e, f] _ (List.mem_of_getElem? (i := 1) rfl))) rfl rfl ?_
  refine ni_xSln (ni_ro [a, b, c, d, e, f] (31, ni_sSln [a, b, c, d, e, f] 32) (ni_me85_1 [a, b, c, d, e, f] _ (List.mem_of_getElem? (i := 2) rfl))) rfl ?_
  refine ni_xP (g := ni_gPush (.int 6) 34) (ni_ro [a, b, c, d, e, f] (32, ni_sP (ni_gPush (.int 6) 34)) (ni_me85_1 [a, b, c, d, e, f] _ (List.mem_of_getElem? (i := 3) rfl))) rfl ?_
  refine ni_xP (g := ni_gI (fun x y => x - y) 35) (ni_ro [a, b, c, d, e, f] (34, ni_sP (ni_gI (fun x y => x - y) 35)) (ni_me85_1 [a, b, c, d, e, f] _ (List.mem_of_getElem? (i := 4) rfl))) rfl ?_
  refine ni_xIc true (ni_ro [a, b, c, d, e, f] (35, ni_sP (ni_gIc (fun x y => decide (y < x)) 3323 38)) (ni_me85_1 [a, b, c, d, e, f] _ (List.mem_of_getElem? (i := 5) rfl))) (show decide (Int32.ofNat 6 - 6 < 0 + 6) = true from by decide) ?_
  refine ni_xP (g := ni_gPush (.int 1) 3324) (ni_ro [a, b, c, d, e, f] (3323, ni_sP (ni_gPush (.int 1) 3324)) (ni_me85_52 [a, b, c, d, e, f] _ (List.mem_of_getElem? (i := 2) rfl))) rfl ?_
  exact ni_xR (ni_ro [a, b, c, d, e, f] (3324, ni_sR (some .boolean)) (ni_me85_52 [a, b, c, d, e, f] _ (List.mem_of_getElem? (i := 3) rfl))) rfl
theorem ni_ca25 (a b c d e f : Int32) : ni_G [a, b, c, d, e, f] 9 85 1718 ni_ls0 [] (ni_P0, 0) (.inl (some (.int 1)), (ni_P1, 1)) := by
  refine ni_xLd (ni_ro [a, b, c, d, e, f] (1718, ni_sLd 3 1 1719) (ni_me85_27 [a, b, c, d, e, f] _ (List.mem_of_getElem? (i := 0) rfl))) rfl rfl ?_
  refine ni_xLd (ni_ro [a, b, c, d, e, f] (1719, ni_sLd 3 0 1720) (ni_me85_27 [a, b, c, d, e, f] _ (List.mem_of_getElem? (i := 1) rfl))) rfl rfl ?_
  refine ni_xLd (ni_ro [a, b, c, d, e, f] (1720, ni_sLd 0 5 1722) (ni_me85_27 [a, b, c, d, e, f] _ (List.mem_of_getElem? (i := 2) rfl))) rfl rfl ?_
  refine ni_xP (g := ni_gPush (.int 1) 1723) (ni_ro [a, b, c, d, e, f] (1722, ni_sP (ni_gPush (.int 1) 1723)) (ni_me85_27 [a, b, c, d, e, f] _ (List.mem_of_getElem? (i := 3) rfl))) rfl ?_
  refine ni_xP (g := ni_gI (fun x y => x + y) 1724) (ni_ro [a, b, c, d, e, f] (1723, ni_sP (ni_gI (fun x y => x + y) 1724)) (ni_me85_27 [a, b, c, d, e, f] _ (List.mem_of_getElem? (i := 4) rfl))) rfl ?_
  refine ni_xSld (ni_ro [a, b, c, d, e, f] (1724, ni_sSld [a, b, c, d, e, f] 1725) (ni_me85_27 [a, b, c, d, e, f] _ (List.mem_of_getElem? (i := 5) rfl))) ⟨by decide, rfl⟩ ?_
  refine ni_xLd (ni_ro [a, b, c, d, e, f] (1725, ni_sLd 3 0 1726) (ni_me85_27 [a, b, c, d, e, f] _ (List.mem_of_getElem? (i := 6) rfl))) rfl rfl ?_
  refine ni_xLd (ni_ro [a, b, c, d, e, f] (1726, ni_sLd 0 5 1728) (ni_me85_27 [a, b, c, d, e, f] _ (List.mem_of_getElem? (i := 7) rfl))) rfl rfl ?_
  refine ni_xP (g := ni_gPush (.int 2) 1729) (ni_ro [a, b, c, d, e, f] (1728, ni_sP (ni_gPush (.int 2) 1729)) (ni_me85_27 [a, b, c, d, e, f] _ (List.mem_of_getElem? (i := 8) rfl))) rfl ?_
  refine ni_xP (g := ni_gI (fun x y => x + y) 1730) (ni_ro [a, b, c, d, e, f] (1729, ni_sP (ni_gI (fun x y => x + y) 1730)) (ni_me85_27 [a, b, c, d, e, f] _ (List.mem_of_getElem? (i := 9) rfl))) rfl ?_
  refine ni_xSld (ni_ro [a, b, c, d, e, f] (1730, ni_sSld [a, b, c, d, e, f] 1731) (ni_me85_27 [a, b, c, d, e, f] _ (List.mem_of_getElem? (i := 10) rfl))) ⟨by decide, rfl⟩ ?_
  refine ni_xLd (ni_ro [a, b, c, d, e, f] (1731, ni_sLd 3 3 1732) (ni_me85_27 [a, b, c, d, e, f] _ (List.mem_of_getElem? (i := 11) rfl))) rfl rfl ?_
  refine ni_xC (ni_ro [a, b, c, d, e, f] (1732, ni_sC 81 4 1735) (ni_me85_27 [a, b, c, d, e, f] _ (List.mem_of_getElem? (i := 12) rfl))) (Nat.le_of_ble_eq_true rfl) rfl rfl (Nat.le_of_ble_eq_true rfl) (ni_ofO (ni_kw81 [a, b, c, d, e, f] _ _)) ?_
  refine ni_xSt (ni_ro [a, b, c, d, e, f] (1735, ni_sSt 0 6 1737) (ni_me85_27 [a, b, c, d, e, f] _ (List.mem_of_getElem? (i := 13) rfl))) rfl rfl ?_
  refine ni_xLd (ni_ro [a, b, c, d, e, f] (1737, ni_sLd 3 2 1738) (ni_me85_27 [a, b, c, d, e, f] _ (List.mem_of_getElem? (i := 14) rfl))) rfl rfl ?_
  refine ni_xLd (ni_ro [a, b, c, d, e, f] (1738, ni_sLd 3 0 1739) (ni_me85_27 [a, b, c, d, e, f] _ (List.mem_of_getElem? (i := 15) rfl))) rfl rfl ?_
  refine ni_xLd (ni_ro [a, b, c, d, e, f] (1739, ni_sLd 0 5 1741) (ni_me85_27 [a, b, c, d, e, f] _ (List.mem_of_getElem? (i := 16) rfl))) rfl rfl ?_
  refine ni_xP (g := ni_gPush (.int 1) 1742) (ni_ro [a, b, c, d, e, f] (1741, ni_sP (ni_gPush (.int 1) 1742)) (ni_me85_27 [a, b, c, d, e, f] _ (List.mem_of_getElem? (i := 17) rfl))) rfl ?_
  refine ni_xP (g := ni_gI (fun x y => x + y) 1743) (ni_ro [a, b, c, d, e, f] (1742, ni_sP (ni_gI (fun x y => x + y) 1743)) (ni_me85_27 [a, b, c, d, e, f] _ (List.mem_of_getElem? (i := 18) rfl))) rfl ?_
  refine ni_xSld (ni_ro [a, b, c, d, e, f] (1743, ni_sSld [a, b, c, d, e, f] 1744) (ni_me85_27 [a, b, c, d, e, f] _ (List.mem_of_getElem? (i := 19) rfl))) ⟨by decide, rfl⟩ ?_
  refine ni_xLd (ni_ro [a, b, c, d, e, f] (1744, ni_sLd 3 0 1745) (ni_me85_27 [a, b, c, d, e, f] _ (List.mem_of_getElem? (i := 20) rfl))) rfl rfl ?_
  refine ni_xLd (ni_ro [a, b, c, d, e, f] (1745, ni_sLd 0 5 1747) (ni_me85_27 [a, b, c, d, e, f] _ (List.mem_of_getElem? (i := 21) rfl))) rfl rfl ?_
  refine ni_xP (g := ni_gPush (.int 2) 1748) (ni_ro [a, b, c, d, e, f] (1747, ni_sP (ni_gPush (.int 2) 1748)) (ni_me85_27 [a, b, c, d, e, f] _ (List.mem_of_getElem? (i := 22) rfl))) rfl ?_
  refine ni_xP (g := ni_gI (fun x y => x + y) 1749) (ni_ro [a, b, c, d, e, f] (1748, ni_sP (ni_gI (fun x y => x + y) 1749)) (ni_me85_27 [a, b, c, d, e, f] _ (List.mem_of_getElem? (i := 23) rfl))) rfl ?_
  refine ni_xSld (ni_ro [a, b, c, d, e, f] (1749, ni_sSld [a, b, c, d, e, f] 1750) (ni_me85_27 [a, b, c, d, e, f] _ (List.mem_of_getElem? (i := 24) rfl))) ⟨by decide, rfl⟩ ?_
  refine ni_xV (ni_ro [a, b, c, d, e, f] (1750, ni_sV 127 2 18 1753) (ni_me85_27 [a, b, c, d, e, f] _ (List.mem_of_getElem? (i := 25) rfl))) rfl rfl rfl (Nat.le_of_ble_eq_true rfl) (ni_ofO (ni_km127 [a, b, c, d, e, f] _ _)) ?_
  refine ni_xSt (ni_ro [a, b, c, d, e, f] (1753, ni_sSt 0 7 1755) (ni_me85_27 [a, b, c, d, e, f] _ (List.mem_of_getElem? (i := 26) rfl))) rfl rfl ?_
  refine ni_xLd (ni_ro [a, b, c, d, e, f] (1755, ni_sLd 3 2 1756) (ni_me85_27 [a, b, c, d, e, f] _ (List.mem_of_getElem? (i := 27) rfl))) rfl rfl ?_
  refine ni_xV (ni_ro [a, b, c, d, e, f] (1756, ni_sV 167 0 18 1759) (ni_me85_27 [a, b, c, d, e, f] _ (List.mem_of_getElem? (i := 28) rfl))) rfl rfl rfl (Nat.le_of_ble_eq_true rfl) (ni_ofO (ni_k167 [a, b, c, d, e, f])) ?_
  refine ni_xLd (ni_ro [a, b, c, d, e, f] (1759, ni_sLd 0 6 1761) (ni_me85_27 [a, b, c, d, e, f] _ (List.mem_of_getElem? (i := 29) rfl))) rfl rfl ?_
  refine ni_xIc true (ni_ro [a, b, c, d, e, f] (1761, ni_sP (ni_gIc (fun x y => decide (x = y)) 1766 1764)) (ni_me85_27 [a, b, c, d, e, f] _ (List.mem_of_getElem? (i := 30) rfl))) rfl ?_
  refine ni_xLd (ni_ro [a, b, c, d, e, f] (1766, ni_sLd 0 6 1768) (ni_me85_27 [a, b, c, d, e, f] _ (List.mem_of_getElem? (i := 31) rfl))) rfl rfl ?_
  refine ni_xIf true (ni_ro [a, b, c, d, e, f] (1768, ni_sP (ni_gIf (fun x => decide (¬ x = 0)) 1783 1771)) (ni_me85_27 [a, b, c, d, e, f] _ (List.mem_of_getElem? (i := 32) rfl))) rfl ?_
  refine ni_xP (g := ni_gGo 3317) (ni_ro [a, b, c, d, e, f] (1783, ni_sP (ni_gGo 3317)) (ni_me85_27 [a, b, c, d, e, f] _ (List.mem_of_getElem? (i := 33) rfl))) rfl ?_
  refine ni_xInc (ni_ro [a, b, c, d, e, f] (3317, ni_sInc 5 (6) 3320) (ni_me85_52 [a, b, c, d, e, f] _ (List.mem_of_getElem? (i := 0) rfl))) rfl rfl ?_
  refine ni_xP (g := ni_gGo 28) (ni_ro [a, b, c, d, e, f] (3320, ni_sP (ni_gGo 28)) (ni_me85_52 [a, b, c, d, e, f] _ (List.mem_of_getElem? (i := 1) rfl))) rfl ?_
  refine ni_xLd (ni_ro [a, b, c, d, e, f] (28, ni_sLd 0 5 30) (ni_me85_1 [a, b, c, d, e, f] _ (List.mem_of_getElem? (i := 0) rfl))) rfl rfl ?_
  refine ni_xLd (ni_ro [a, b, c, d, e, f] (30, ni_sLd 3 0 31) (ni_me85_1 [a, b, c, d, e, f] _ (List.mem_of_getElem? (i := 1) rfl))) rfl rfl ?_
  refine ni_xSln (ni_ro [a, b, c, d, e, f] (31, ni_sSln [a, b, c, d, e, f] 32) (ni_me85_1 [a, b, c, d, e, f] _ (List.mem_of_getElem? (i := 2) rfl))) rfl ?_
  refine ni_xP (g := ni_gPush (.int 6) 34) (ni_ro [a, b, c, d, e, f] (32, ni_sP (ni_gPush (.int 6) 34)) (ni_me85_1 [a, b, c, d, e, f] _ (List.mem_of_getElem? (i := 3) rfl))) rfl ?_
  refine ni_xP (g := ni_gI (fun x y => x - y) 35) (ni_ro [a, b, c, d, e, f] (34, ni_sP (ni_gI (fun x y => x - y) 35)) (ni_me85_1 [a, b, c, d, e, f] _ (List.mem_of_getElem? (i := 4) rfl))) rfl ?_
  refine ni_xIc true (ni_ro [a, b, c, d, e, f] (35, ni_sP (ni_gIc (fun x y => decide (y < x)) 3323 38)) (ni_me85_1 [a, b, c, d, e, f] _ (List.mem_of_getElem? (i := 5) rfl))) (show decide (Int32.ofNat 6 - 6 < 0 + 6) = true from by decide) ?_
  refine ni_xP (g := ni_gPush (.int 1) 3324) (ni_ro [a, b, c, d, e, f] (3323, ni_sP (ni_gPush (.int 1) 3324)) (ni_me85_52 [a, b, c, d, e, f] _ (List.mem_of_getElem? (i := 2) rfl))) rfl ?_
  exact ni_xR (ni_ro [a, b, c, d, e, f] (3324, ni_sR (some .boolean)) (ni_me85_52 [a, b, c, d, e, f] _ (List.mem_of_getElem? (i := 3) rfl))) rfl
theorem ni_ca26 (a b c d e f : Int32) : ni_G [a, b, c, d, e, f] 9 85 1786 ni_ls0 [] (ni_P0, 0) (.inl (some (.int 1)), (ni_P1, 1)) := by
  refine ni_xLd (ni_ro [a, b, c, d, e, f] (1786, ni_sLd 3 1 1787) (ni_me85_28 [a, b, c, d, e, f] _ (List.mem_of_getElem? (i := 0) rfl))) rfl rfl ?_
  refine ni_xLd (ni_ro [a, b, c, d, e, f] (1787, ni_sLd 3 0 1788) (ni_me85_28 [a, b, c, d, e, f] _ (List.mem_of_getElem? (i := 1) rfl))) rfl rfl ?_
  refine ni_xLd (ni_ro [a, b, c, d, e, f] (1788, ni_sLd 0 5 1790) (ni_me85_28 [a, b, c, d, e, f] _ (List.mem_of_getElem? (i := 2) rfl))) rfl rfl ?_
  refine ni_xP (g := ni_gPush (.int 1) 1791) (ni_ro [a, b, c, d, e, f] (1790, ni_sP (ni_gPush (.int 1) 1791)) (ni_me85_28 [a, b, c, d, e, f] _ (List.mem_of_getElem? (i := 3) rfl))) rfl ?_
  refine ni_xP (g := ni_gI (fun x y => x + y) 1792) (ni_ro [a, b, c, d, e, f] (1791, ni_sP (ni_gI (fun x y => x + y) 1792)) (ni_me85_28 [a, b, c, d, e, f] _ (List.mem_of_getElem? (i := 4) rfl))) rfl ?_
  refine ni_xSld (ni_ro [a, b, c, d, e, f] (1792, ni_sSld [a, b, c, d, e, f] 1793) (ni_me85_28 [a, b, c, d, e, f] _ (List.mem_of_getElem? (i := 5) rfl))) ⟨by decide, rfl⟩ ?_
  refine ni_xLd (ni_ro [a, b, c, d, e, f] (1793, ni_sLd 3 3 1794) (ni_me85_28 [a, b, c, d, e, f] _ (List.mem_of_getElem? (i := 6) rfl))) rfl rfl ?_
  refine ni_xC (ni_ro [a, b, c, d, e, f] (1794, ni_sC 80 3 1797) (ni_me85_28 [a, b, c, d, e, f] _ (List.mem_of_getElem? (i := 7) rfl))) (Nat.le_of_ble_eq_true rfl) rfl rfl (Nat.le_of_ble_eq_true rfl) (ni_ofO (ni_kw80 [a, b, c, d, e, f] _)) ?_
  refine ni_xSt (ni_ro [a, b, c, d, e, f] (1797, ni_sSt 0 6 1799) (ni_me85_28 [a, b, c, d, e, f] _ (List.mem_of_getElem? (i := 8) rfl))) rfl rfl ?_
  refine ni_xLd (ni_ro [a, b, c, d, e, f] (1799, ni_sLd 3 2 1800) (ni_me85_28 [a, b, c, d, e, f] _ (List.mem_of_getElem? (i := 9) rfl))) rfl rfl ?_
  refine ni_xLd (ni_ro [a, b, c, d, e, f] (1800, ni_sLd 3 0 1801) (ni_me85_28 [a, b, c, d, e, f] _ (List.mem_of_getElem? (i := 10) rfl))) rfl rfl ?_
  refine ni_xLd (ni_ro [a, b, c, d, e, f] (1801, ni_sLd 0 5 1803) (ni_me85_28 [a, b, c, d, e, f] _ (List.mem_of_getElem? (i := 11) rfl))) rfl rfl ?_
  refine ni_xP (g := ni_gPush (.int 1) 1804) (ni_ro [a, b, c, d, e, f] (1803, ni_sP (ni_gPush (.int 1) 1804)) (ni_me85_28 [a, b, c, d, e, f] _ (List.mem_of_getElem? (i := 12) rfl))) rfl ?_
  refine ni_xP (g := ni_gI (fun x y => x + y) 1805) (ni_ro [a, b, c, d, e, f] (1804, ni_sP (ni_gI (fun x y => x + y) 1805)) (ni_me85_28 [a, b, c, d, e, f] _ (List.mem_of_getElem? (i := 13) rfl))) rfl ?_
  refine ni_xSld (ni_ro [a, b, c, d, e, f] (1805, ni_sSld [a, b, c, d, e, f] 1806) (ni_me85_28 [a, b, c, d, e, f] _ (List.mem_of_getElem? (i := 14) rfl))) ⟨by decide, rfl⟩ ?_
  refine ni_xV (ni_ro [a, b, c, d, e, f] (1806, ni_sV 126 1 18 1809) (ni_me85_28 [a, b, c, d, e, f] _ (List.mem_of_getElem? (i := 15) rfl))) rfl rfl rfl (Nat.le_of_ble_eq_true rfl) (ni_ofO (ni_km126 [a, b, c, d, e, f] _)) ?_
  refine ni_xSt (ni_ro [a, b, c, d, e, f] (1809, ni_sSt 0 7 1811) (ni_me85_28 [a, b, c, d, e, f] _ (List.mem_of_getElem? (i := 16) rfl))) rfl rfl ?_
  refine ni_xLd (ni_ro [a, b, c, d, e, f] (1811, ni_sLd 3 2 1812) (ni_me85_28 [a, b, c, d, e, f] _ (List.mem_of_getElem? (i := 17) rfl))) rfl rfl ?_
  refine ni_xV (ni_ro [a, b, c, d, e, f] (1812, ni_sV 167 0 18 1815) (ni_me85_28 [a, b, c, d, e, f] _ (List.mem_of_getElem? (i := 18) rfl))) rfl rfl rfl (Nat.le_of_ble_eq_true rfl) (ni_ofO (ni_k167 [a, b, c, d, e, f])) ?_
  refine ni_xLd (ni_ro [a, b, c, d, e, f] (1815, ni_sLd 0 6 1817) (ni_me85_28 [a, b, c, d, e, f] _ (List.mem_of_getElem? (i := 19) rfl))) rfl rfl ?_
  refine ni_xIc true (ni_ro [a, b, c, d, e, f] (1817, ni_sP (ni_gIc (fun x y => decide (x = y)) 1822 1820)) (ni_me85_28 [a, b, c, d, e, f] _ (List.mem_of_getElem? (i := 20) rfl))) rfl ?_
  refine ni_xLd (ni_ro [a, b, c, d, e, f] (1822, ni_sLd 0 6 1824) (ni_me85_28 [a, b, c, d, e, f] _ (List.mem_of_getElem? (i := 21) rfl))) rfl rfl ?_
  refine ni_xIf true (ni_ro [a, b, c, d, e, f] (1824, ni_sP (ni_gIf (fun x => decide (¬ x = 0)) 1839 1827)) (ni_me85_28 [a, b, c, d, e, f] _ (List.mem_of_getElem? (i := 22) rfl))) rfl ?_
  refine ni_xP (g := ni_gGo 3317) (ni_ro [a, b, c, d, e, f] (1839, ni_sP (ni_gGo 3317)) (ni_me85_28 [a, b, c, d, e, f] _ (List.mem_of_getElem? (i := 23) rfl))) rfl ?_
  refine ni_xInc (ni_ro [a, b, c, d, e, f] (3317, ni_sInc 5 (6) 3320) (ni_me85_52 [a, b, c, d, e, f] _ (List.mem_of_getElem? (i := 0) rfl))) rfl rfl ?_
  refine ni_xP (g := ni_gGo 28) (ni_ro [a, b, c, d, e, f] (3320, ni_sP (ni_gGo 28)) (ni_me85_52 [a, b, c, d, e, f] _ (List.mem_of_getElem? (i := 1) rfl))) rfl ?_
  refine ni_xLd (ni_ro [a, b, c, d, e, f] (28, ni_sLd 0 5 30) (ni_me85_1 [a, b, c, d, e, f] _ (List.mem_of_getElem? (i := 0) rfl))) rfl rfl ?_
  refine ni_xLd (ni_ro [a, b, c, d, e, f] (30, ni_sLd 3 0 31) (ni_me85_1 [a, b, c, d, e, f] _ (List.mem_of_getElem? (i := 1) rfl))) rfl rfl ?_
  refine ni_xSln (ni_ro [a, b, c, d, e, f] (31, ni_sSln [a, b, c, d, e, f] 32) (ni_me85_1 [a, b, c, d, e, f] _ (List.mem_of_getElem? (i := 2) rfl))) rfl ?_
  refine ni_xP (g := ni_gPush (.int 6) 34) (ni_ro [a, b, c, d, e, f] (32, ni_sP (ni_gPush (.int 6) 34)) (ni_me85_1 [a, b, c, d, e, f] _ (List.mem_of_getElem? (i := 3) rfl))) rfl ?_
  refine ni_xP (g := ni_gI (fun x y => x - y) 35) (ni_ro [a, b, c, d, e, f] (34, ni_sP (ni_gI (fun x y => x - y) 35)) (ni_me85_1 [a, b, c, d, e, f] _ (List.mem_of_getElem? (i := 4) rfl))) rfl ?_
  refine ni_xIc true (ni_ro [a, b, c, d, e, f] (35, ni_sP (ni_gIc (fun x y => decide (y < x)) 3323 38)) (ni_me85_1 [a, b, c, d, e, f] _ (List.mem_of_getElem? (i := 5) rfl))) (show decide (Int32.ofNat 6 - 6 < 0 + 6) = true from by decide) ?_
  refine ni_xP (g := ni_gPush (.int 1) 3324) (ni_ro [a, b, c, d, e, f] (3323, ni_sP (ni_gPush (.int 1) 3324)) (ni_me85_52 [a, b, c, d, e, f] _ (List.mem_of_getElem? (i := 2) rfl))) rfl ?_
  exact ni_xR (ni_ro [a, b, c, d, e, f] (3324, ni_sR (some .boolean)) (ni_me85_52 [a, b, c, d, e, f] _ (List.mem_of_getElem? (i := 3) rfl))) rfl
theorem ni_ca27 (a b c d e f : Int32) : ni_G [a, b, c, d, e, f] 9 85 1842 ni_ls0 [] (ni_P0, 0) (.inl (some (.int 1)), (ni_P1, 1)) := by
  refine ni_xLd (ni_ro [a, b, c, d, e, f] (1842, ni_sLd 3 1 1843) (ni_me85_29 [a, b, c, d, e, f] _ (List.mem_of_getElem? (i := 0) rfl))) rfl rfl ?_
  refine ni_xLd (ni_ro [a, b, c, d, e, f] (1843, ni_sLd 3 0 1844) (ni_me85_29 [a, b, c, d, e, f] _ (List.mem_of_getElem? (i := 1) rfl))) rfl rfl ?_
  refine ni_xLd (ni_ro [a, b, c, d, e, f] (1844, ni_sLd 0 5 1846) (ni_me85_29 [a, b, c, d, e, f] _ (List.mem_of_getElem? (i := 2) rfl))) rfl rfl ?_
  refine ni_xP (g := ni_gPush (.int 1) 1847) (ni_ro [a, b, c, d, e, f] (1846, ni_sP (ni_gPush (.int 1) 1847)) (ni_me85_29 [a, b, c, d, e, f] _ (List.mem_of_getElem? (i := 3) rfl))) rfl ?_
  refine ni_xP (g := ni_gI (fun x y => x + y) 1848) (ni_ro [a, b, c, d, e, f] (1847, ni_sP (ni_gI (fun x y => x + y) 1848)) (ni_me85_29 [a, b, c, d, e, f] _ (List.mem_of_getElem? (i := 4) rfl))) rfl ?_
  refine ni_xSld (ni_ro [a, b, c, d, e, f] (1848, ni_sSld [a, b, c, d, e, f] 1849) (ni_me85_29 [a, b, c, d, e, f] _ (List.mem_of_getElem? (i := 5) rfl))) ⟨by decide, rfl⟩ ?_
  refine ni_xLd (ni_ro [a, b, c, d, e, f] (1849, ni_sLd 3 3 1850) (ni_me85_29 [a, b, c, d, e, f] _ (List.mem_of_getElem? (i := 6) rfl))) rfl rfl ?_
  refine ni_xC (ni_ro [a, b, c, d, e, f] (1850, ni_sC 108 3 1853) (ni_me85_29 [a, b, c, d, e, f] _ (List.mem_of_getElem? (i := 7) rfl))) (Nat.le_of_ble_eq_true rfl) rfl rfl (Nat.le_of_ble_eq_true rfl) (ni_ofO (ni_kw108 [a, b, c, d, e, f] _)) ?_
  refine ni_xSt (ni_ro [a, b, c, d, e, f] (1853, ni_sSt 0 6 1855) (ni_me85_29 [a, b, c, d, e, f] _ (List.mem_of_getElem? (i := 8) rfl))) rfl rfl ?_
  refine ni_xLd (ni_ro [a, b, c, d, e, f] (1855, ni_sLd 3 2 1856) (ni_me85_29 [a, b, c, d, e, f] _ (List.mem_of_getElem? (i := 9) rfl))) rfl rfl ?_
  refine ni_xLd (ni_ro [a, b, c, d, e, f] (1856, ni_sLd 3 0 1857) (ni_me85_29 [a, b, c, d, e, f] _ (List.mem_of_getElem? (i := 10) rfl))) rfl rfl ?_
  refine ni_xLd (ni_ro [a, b, c, d, e, f] (1857, ni_sLd 0 5 1859) (ni_me85_29 [a, b, c, d, e, f] _ (List.mem_of_getElem? (i := 11) rfl))) rfl rfl ?_
  refine ni_xP (g := ni_gPush (.int 1) 1860) (ni_ro [a, b, c, d, e, f] (1859, ni_sP (ni_gPush (.int 1) 1860)) (ni_me85_29 [a, b, c, d, e, f] _ (List.mem_of_getElem? (i := 12) rfl))) rfl ?_
  refine ni_xP (g := ni_gI (fun x y => x + y) 1861) (ni_ro [a, b, c, d, e, f] (1860, ni_sP (ni_gI (fun x y => x + y) 1861)) (ni_me85_29 [a, b, c, d, e, f] _ (List.mem_of_getElem? (i := 13) rfl))) rfl ?_
  refine ni_xSld (ni_ro [a, b, c, d, e, f] (1861, ni_sSld [a, b, c, d, e, f] 1862) (ni_me85_29 [a, b, c, d, e, f] _ (List.mem_of_getElem? (i := 14) rfl))) ⟨by decide, rfl⟩ ?_
  refine ni_xV (ni_ro [a, b, c, d, e, f] (1862, ni_sV 171 1 18 1865) (ni_me85_29 [a, b, c, d, e, f] _ (List.mem_of_getElem? (i := 15) rfl))) rfl rfl rfl (Nat.le_of_ble_eq_true rfl) (ni_ofO (ni_km171 [a, b, c, d, e, f] _)) ?_
  refine ni_xSt (ni_ro [a, b, c, d, e, f] (1865, ni_sSt 0 7 1867) (ni_me85_29 [a, b, c, d, e, f] _ (List.mem_of_getElem? (i := 16) rfl))) rfl rfl ?_
  refine ni_xLd (ni_ro [a, b, c, d, e, f] (1867, ni_sLd 3 2 1868) (ni_me85_29 [a, b, c, d, e, f] _ (List.mem_of_getElem? (i := 17) rfl))) rfl rfl ?_
  refine ni_xV (ni_ro [a, b, c, d, e, f] (1868, ni_sV 167 0 18 1871) (ni_me85_29 [a, b, c, d, e, f] _ (List.mem_of_getElem? (i := 18) rfl))) rfl rfl rfl (Nat.le_of_ble_eq_true rfl) (ni_ofO (ni_k167 [a, b, c, d, e, f])) ?_
  refine ni_xLd (ni_ro [a, b, c, d, e, f] (1871, ni_sLd 0 6 1873) (ni_me85_29 [a, b, c, d, e, f] _ (List.mem_of_getElem? (i := 19) rfl))) rfl rfl ?_
  refine ni_xIc true (ni_ro [a, b, c, d, e, f] (1873, ni_sP (ni_gIc (fun x y => decide (x = y)) 1878 1876)) (ni_me85_29 [a, b, c, d, e, f] _ (List.mem_of_getElem? (i := 20) rfl))) rfl ?_
  refine ni_xLd (ni_ro [a, b, c, d, e, f] (1878, ni_sLd 0 6 1880) (ni_me85_29 [a, b, c, d, e, f] _ (List.mem_of_getElem? (i := 21) rfl))) rfl rfl ?_
  refine ni_xIf true (ni_ro [a, b, c, d, e, f] (1880, ni_sP (ni_gIf (fun x => decide (¬ x = 0)) 1895 1883)) (ni_me85_29 [a, b, c, d, e, f] _ (List.mem_of_getElem? (i := 22) rfl))) rfl ?_
  refine ni_xP (g := ni_gGo 3317) (ni_ro [a, b, c, d, e, f] (1895, ni_sP (ni_gGo 3317)) (ni_me85_29 [a, b, c, d, e, f] _ (List.mem_of_getElem? (i := 23) rfl))) rfl ?_
  refine ni_xInc (ni_ro [a, b, c, d, e, f] (3317, ni_sInc 5 (6) 3320) (ni_me85_52 [a, b, c, d, e, f] _ (List.mem_of_getElem? (i := 0) rfl))) rfl rfl ?_
  refine ni_xP (g := ni_gGo 28) (ni_ro [a, b, c, d, e, f] (3320, ni_sP (ni_gGo 28)) (ni_me85_52 [a, b, c, d, e, f] _ (List.mem_of_getElem? (i := 1) rfl))) rfl ?_
  refine ni_xLd (ni_ro [a, b, c, d, e, f] (28, ni_sLd 0 5 30) (ni_me85_1 [a, b, c, d, e, f] _ (List.mem_of_getElem? (i := 0) rfl))) rfl rfl ?_
  refine ni_xLd (ni_ro [a, b, c, d, e, f] (30, ni_sLd 3 0 31) (ni_me85_1 [a, b, c, d, e, f] _ (List.mem_of_getElem? (i := 1) rfl))) rfl rfl ?_
  refine ni_xSln (ni_ro [a, b, c, d, e, f] (31, ni_sSln [a, b, c, d, e, f] 32) (ni_me85_1 [a, b, c, d, e, f] _ (List.mem_of_getElem? (i := 2) rfl))) rfl ?_
  refine ni_xP (g := ni_gPush (.int 6) 34) (ni_ro [a, b, c, d, e, f] (32, ni_sP (ni_gPush (.int 6) 34)) (ni_me85_1 [a, b, c, d, e, f] _ (List.mem_of_getElem? (i := 3) rfl))) rfl ?_
  refine ni_xP (g := ni_gI (fun x y => x - y) 35) (ni_ro [a, b, c, d, e, f] (34, ni_sP (ni_gI (fun x y => x - y) 35)) (ni_me85_1 [a, b, c, d, e, f] _ (List.mem_of_getElem? (i := 4) rfl))) rfl ?_
  refine ni_xIc true (ni_ro [a, b, c, d, e, f] (35, ni_sP (ni_gIc (fun x y => decide (y < x)) 3323 38)) (ni_me85_1 [a, b, c, d, e, f] _ (List.mem_of_getElem? (i := 5) rfl))) (show decide (Int32.ofNat 6 - 6 < 0 + 6) = true from by decide) ?_
  refine ni_xP (g := ni_gPush (.int 1) 3324) (ni_ro [a, b, c, d, e, f] (3323, ni_sP (ni_gPush (.int 1) 3324)) (ni_me85_52 [a, b, c, d, e, f] _ (List.mem_of_getElem? (i := 2) rfl))) rfl ?_
  exact ni_xR (ni_ro [a, b, c, d, e, f] (3324, ni_sR (some .boolean)) (ni_me85_52 [a, b, c, d, e, f] _ (List.mem_of_getElem? (i := 3) rfl))) rfl
theorem ni_ca28 (a b c d e f : Int32) : ni_G [a, b, c, d, e, f] 9 85 1898 ni_ls0 [] (ni_P0, 0) (.inl (some (.int 1)), (ni_P1, 1)) := by
  refine ni_xLd (ni_ro [a, b, c, d, e, f] (1898, ni_sLd 3 1 1899) (ni_me85_30 [a, b, c, d, e, f] _ (List.mem_of_getElem? (i := 0) rfl))) rfl rfl ?_
  refine ni_xLd (ni_ro [a, b, c, d, e, f] (1899, ni_sLd 3 0 1900) (ni_me85_30 [a, b, c, d, e, f] _ (List.mem_of_getElem? (i := 1) rfl))) rfl rfl ?_
  refine ni_xLd (ni_ro [a, b, c, d, e, f] (1900, ni_sLd 0 5 1902) (ni_me85_30 [a, b, c, d, e, f] _ (List.mem_of_getElem? (i := 2) rfl))) rfl rfl ?_
  refine ni_xP (g := ni_gPush (.int 1) 1903) (ni_ro [a, b, c, d, e, f] (1902, ni_sP (ni_gPush (.int 1) 1903)) (ni_me85_30 [a, b, c, d, e, f] _ (List.mem_of_getElem? (i := 3) rfl))) rfl ?_
  refine ni_xP (g := ni_gI (fun x y => x + y) 1904) (ni_ro [a, b, c, d, e, f] (1903, ni_sP (ni_gI (fun x y => x + y) 1904)) (ni_me85_30 [a, b, c, d, e, f] _ (List.mem_of_getElem? (i := 4) rfl))) rfl ?_
  refine ni_xSld (ni_ro [a, b, c, d, e, f] (1904, ni_sSld [a, b, c, d, e, f] 1905) (ni_me85_30 [a, b, c, d, e, f] _ (List.mem_of_getElem? (i := 5) rfl))) ⟨by decide, rfl⟩ ?_
  refine ni_xLd (ni_ro [a, b, c, d, e, f] (1905, ni_sLd 3 3 1906) (ni_me85_30 [a, b, c, d, e, f] _ (List.mem_of_getElem? (i := 6) rfl))) rfl rfl ?_
  refine ni_xC (ni_ro [a, b, c, d, e, f] (1906, ni_sC 107 3 1909) (ni_me85_30 [a, b, c, d, e, f] _ (List.mem_of_getElem? (i := 7) rfl))) (Nat.le_of_ble_eq_true rfl) rfl rfl (Nat.le_of_ble_eq_true rfl) (ni_ofO (ni_kw107 [a, b, c, d, e, f] _)) ?_
  refine ni_xSt (ni_ro [a, b, c, d, e, f] (1909, ni_sSt 0 6 1911) (ni_me85_30 [a, b, c, d, e, f] _ (List.mem_of_getElem? (i := 8) rfl))) rfl rfl ?_
  refine ni_xLd (ni_ro [a, b, c, d, e, f] (1911, ni_sLd 3 2 1912) (ni_me85_30 [a, b, c, d, e, f] _ (List.mem_of_getElem? (i := 9) rfl))) rfl rfl ?_
  refine ni_xLd (ni_ro [a, b, c, d, e, f] (1912, ni_sLd 3 0 1913) (ni_me85_30 [a, b, c, d, e, f] _ (List.mem_of_getElem? (i := 10) rfl))) rfl rfl ?_
  refine ni_xLd (ni_ro [a, b, c, d, e, f] (1913, ni_sLd 0 5 1915) (ni_me85_30 [a, b, c, d, e, f] _ (List.mem_of_getElem? (i := 11) rfl))) rfl rfl ?_
  refine ni_xP (g := ni_gPush (.int 1) 1916) (ni_ro [a, b, c, d, e, f] (1915, ni_sP (ni_gPush (.int 1) 1916)) (ni_me85_30 [a, b, c, d, e, f] _ (List.mem_of_getElem? (i := 12) rfl))) rfl ?_
  refine ni_xP (g := ni_gI (fun x y => x + y) 1917) (ni_ro [a, b, c, d, e, f] (1916, ni_sP (ni_gI (fun x y => x + y) 1917)) (ni_me85_30 [a, b, c, d, e, f] _ (List.mem_of_getElem? (i := 13) rfl))) rfl ?_
  refine ni_xSld (ni_ro [a, b, c, d, e, f] (1917, ni_sSld [a, b, c, d, e, f] 1918) (ni_me85_30 [a, b, c, d, e, f] _ (List.mem_of_getElem? (i := 14) rfl))) ⟨by decide, rfl⟩ ?_
  refine ni_xV (ni_ro [a, b, c, d, e, f] (1918, ni_sV 170 1 18 1921) (ni_me85_30 [a, b, c, d, e, f] _ (List.mem_of_getElem? (i := 15) rfl))) rfl rfl rfl (Nat.le_of_ble_eq_true rfl) (ni_ofO (ni_km170 [a, b, c, d, e, f] _)) ?_
  refine ni_xSt (ni_ro [a, b, c, d, e, f] (1921, ni_sSt 0 7 1923) (ni_me85_30 [a, b, c, d, e, f] _ (List.mem_of_getElem? (i := 16) rfl))) rfl rfl ?_
  refine ni_xLd (ni_ro [a, b, c, d, e, f] (1923, ni_sLd 3 2 1924) (ni_me85_30 [a, b, c, d, e, f] _ (List.mem_of_getElem? (i := 17) rfl))) rfl rfl ?_
  refine ni_xV (ni_ro [a, b, c, d, e, f] (1924, ni_sV 167 0 18 1927) (ni_me85_30 [a, b, c, d, e, f] _ (List.mem_of_getElem? (i := 18) rfl))) rfl rfl rfl (Nat.le_of_ble_eq_true rfl) (ni_ofO (ni_k167 [a, b, c, d, e, f])) ?_
  refine ni_xLd (ni_ro [a, b, c, d, e, f] (1927, ni_sLd 0 6 1929) (ni_me85_30 [a, b, c, d, e, f] _ (List.mem_of_getElem? (i := 19) rfl))) rfl rfl ?_
  refine ni_xIc true (ni_ro [a, b, c, d, e, f] (1929, ni_sP (ni_gIc (fun x y => decide (x = y)) 1934 1932)) (ni_me85_30 [a, b, c, d, e, f] _ (List.mem_of_getElem? (i := 20) rfl))) rfl ?_
  refine ni_xLd (ni_ro [a, b, c, d, e, f] (1934, ni_sLd 0 6 1936) (ni_me85_30 [a, b, c, d, e, f] _ (List.mem_of_getElem? (i := 21) rfl))) rfl rfl ?_
  refine ni_xIf true (ni_ro [a, b, c, d, e, f] (1936, ni_sP (ni_gIf (fun x => decide (¬ x = 0)) 1951 1939)) (ni_me85_30 [a, b, c, d, e, f] _ (List.mem_of_getElem? (i := 22) rfl))) rfl ?_
  refine ni_xP (g := ni_gGo 3317) (ni_ro [a, b, c, d, e, f] (1951, ni_sP (ni_gGo 3317)) (ni_me85_30 [a, b, c, d, e, f] _ (List.mem_of_getElem? (i := 23) rfl))) rfl ?_
  refine ni_xInc (ni_ro [a, b, c, d, e, f] (3317, ni_sInc 5 (6) 3320) (ni_me85_52 [a, b, c, d, e, f] _ (List.mem_of_getElem? (i := 0) rfl))) rfl rfl ?_
  refine ni_xP (g := ni_gGo 28) (ni_ro [a, b, c, d, e, f] (3320, ni_sP (ni_gGo 28)) (ni_me85_52 [a, b, c, d, e, f] _ (List.mem_of_getElem? (i := 1) rfl))) rfl ?_
  refine ni_xLd (ni_ro [a, b, c, d, e, f] (28, ni_sLd 0 5 30) (ni_me85_1 [a, b, c, d, e, f] _ (List.mem_of_getElem? (i := 0) rfl))) rfl rfl ?_
  refine ni_xLd (ni_ro [a, b, c, d, e, f] (30, ni_sLd 3 0 31) (ni_me85_1 [a, b, c, d, e, f] _ (List.mem_of_getElem? (i := 1) rfl))) rfl rfl ?_
  refine ni_xSln (ni_ro [a, b, c, d, e, f] (31, ni_sSln [a, b, c, d, e, f] 32) (ni_me85_1 [a, b, c, d, e, f] _ (List.mem_of_getElem? (i := 2) rfl))) rfl ?_
  refine ni_xP (g := ni_gPush (.int 6) 34) (ni_ro [a, b, c, d, e, f] (32, ni_sP (ni_gPush (.int 6) 34)) (ni_me85_1 [a, b, c, d, e, f] _ (List.mem_of_getElem? (i := 3) rfl))) rfl ?_
  refine ni_xP (g := ni_gI (fun x y => x - y) 35) (ni_ro [a, b, c, d, e, f] (34, ni_sP (ni_gI (fun x y => x - y) 35)) (ni_me85_1 [a, b, c, d, e, f] _ (List.mem_of_getElem? (i := 4) rfl))) rfl ?_
  refine ni_xIc true (ni_ro [a, b, c, d, e, f] (35, ni_sP (ni_gIc (fun x y => decide (y < x)) 3323 38)) (ni_me85_1 [a, b, c, d, e, f] _ (List.mem_of_getElem? (i := 5) rfl))) (show decide (Int32.ofNat 6 - 6 < 0 + 6) = true from by decide) ?_
  refine ni_xP (g := ni_gPush (.int 1) 3324) (ni_ro [a, b, c, d, e, f] (3323, ni_sP (ni_gPush (.int 1) 3324)) (ni_me85_52 [a, b, c, d, e, f] _ (List.mem_of_getElem? (i := 2) rfl))) rfl ?_
  exact ni_xR (ni_ro [a, b, c, d, e, f] (3324, ni_sR (some .boolean)) (ni_me85_52 [a, b, c, d, e, f] _ (List.mem_of_getElem? (i := 3) rfl))) rfl
theorem ni_ca29 (a b c d e f : Int32) : ni_G [a, b, c, d, e, f] 9 85 1954 ni_ls0 [] (ni_P0, 0) (.inl (some (.int 1)), (ni_P1, 1)) := by
  refine ni_xLd (ni_ro [a, b, c, d, e, f] (1954, ni_sLd 3 1 1955) (ni_me85_31 [a, b, c, d, e, f] _ (List.mem_of_getElem? (i := 0) rfl))) rfl rfl ?_
  refine ni_xLd (ni_ro [a, b, c, d, e, f] (1955, ni_sLd 3 0 1956) (ni_me85_31 [a, b, c, d, e, f] _ (List.mem_of_getElem? (i := 1) rfl))) rfl rfl ?_
  refine ni_xLd (ni_ro [a, b, c, d, e, f] (1956, ni_sLd 0 5 1958) (ni_me85_31 [a, b, c, d, e, f] _ (List.mem_of_getElem? (i := 2) rfl))) rfl rfl ?_
  refine ni_xP (g := ni_gPush (.int 1) 1959) (ni_ro [a, b, c, d, e, f] (1958, ni_sP (ni_gPush (.int 1) 1959)) (ni_me85_31 [a, b, c, d, e, f] _ (List.mem_of_getElem? (i := 3) rfl))) rfl ?_
  refine ni_xP (g := ni_gI (fun x y => x + y) 1960) (ni_ro [a, b, c, d, e, f] (1959, ni_sP (ni_gI (fun x y => x + y) 1960)) (ni_me85_31 [a, b, c, d, e, f] _ (List.mem_of_getElem? (i := 4) rfl))) rfl ?_
  refine ni_xSld (ni_ro [a, b, c, d, e, f] (1960, ni_sSld [a, b, c, d, e, f] 1961) (ni_me85_31 [a, b, c, d, e, f] _ (List.mem_of_getElem? (i := 5) rfl))) ⟨by decide, rfl⟩ ?_
  refine ni_xLd (ni_ro [a, b, c, d, e, f] (1961, ni_sLd 3 0 1962) (ni_me85_31 [a, b, c, d, e, f] _ (List.mem_of_getElem? (i := 6) rfl))) rfl rfl ?_
  refine ni_xLd (ni_ro [a, b, c, d, e, f] (1962, ni_sLd 0 5 1964) (ni_me85_31 [a, b, c, d, e, f] _ (List.mem_of_getElem? (i := 7) rfl))) rfl rfl ?_
  refine ni_xP (g := ni_gPush (.int 2) 1965) (ni_ro [a, b, c, d, e, f] (1964, ni_sP (ni_gPush (.int 2) 1965)) (ni_me85_31 [a, b, c, d, e, f] _ (List.mem_of_getElem? (i := 8) rfl))) rfl ?_
  refine ni_xP (g := ni_gI (fun x y => x + y) 1966) (ni_ro [a, b, c, d, e, f] (1965, ni_sP (ni_gI (fun x y => x + y) 1966)) (ni_me85_31 [a, b, c, d, e, f] _ (List.mem_of_getElem? (i := 9) rfl))) rfl ?_
  refine ni_xSld (ni_ro [a, b, c, d, e, f] (1966, ni_sSld [a, b, c, d, e, f] 1967) (ni_me85_31 [a, b, c, d, e, f] _ (List.mem_of_getElem? (i := 10) rfl))) ⟨by decide, rfl⟩ ?_
  refine ni_xLd (ni_ro [a, b, c, d, e, f] (1967, ni_sLd 3 3 1968) (ni_me85_31 [a, b, c, d, e, f] _ (List.mem_of_getElem? (i := 11) rfl))) rfl rfl ?_
  refine ni_xC (ni_ro [a, b, c, d, e, f] (1968, ni_sC 87 4 1971) (ni_me85_31 [a, b, c, d, e, f] _ (List.mem_of_getElem? (i := 12) rfl))) (Nat.le_of_ble_eq_true rfl) rfl rfl (Nat.le_of_ble_eq_true rfl) (ni_ofO (ni_kw87 [a, b, c, d, e, f] _ _)) ?_
  refine ni_xSt (ni_ro [a, b, c, d, e, f] (1971, ni_sSt 0 6 1973) (ni_me85_31 [a, b, c, d, e, f] _ (List.mem_of_getElem? (i := 13) rfl))) rfl rfl ?_
  refine ni_xLd (ni_ro [a, b, c, d, e, f] (1973, ni_sLd 3 2 1974) (ni_me85_31 [a, b, c, d, e, f] _ (List.mem_of_getElem? (i := 14) rfl))) rfl rfl ?_
  refine ni_xLd (ni_ro [a, b, c, d, e, f] (1974, ni_sLd 3 0 1975) (ni_me85_31 [a, b, c, d, e, f] _ (List.mem_of_getElem? (i := 15) rfl))) rfl rfl ?_
  refine ni_xLd (ni_ro [a, b, c, d, e, f] (1975, ni_sLd 0 5 1977) (ni_me85_31 [a, b, c, d, e, f] _ (List.mem_of_getElem? (i := 16) rfl))) rfl rfl ?_
  refine ni_xP (g := ni_gPush (.int 1) 1978) (ni_ro [a, b, c, d, e, f] (1977, ni_sP (ni_gPush (.int 1) 1978)) (ni_me85_31 [a, b, c, d, e, f] _ (List.mem_of_getElem? (i := 17) rfl))) rfl ?_
  refine ni_xP (g := ni_gI (fun x y => x + y) 1979) (ni_ro [a, b, c, d, e, f] (1978, ni_sP (ni_gI (fun x y => x + y) 1979)) (ni_me85_31 [a, b, c, d, e, f] _ (List.mem_of_getElem? (i := 18) rfl))) rfl ?_
  refine ni_xSld (ni_ro [a, b, c, d, e, f] (1979, ni_sSld [a, b, c, d, e, f] 1980) (ni_me85_31 [a, b, c, d, e, f] _ (List.mem_of_getElem? (i := 19) rfl))) ⟨by decide, rfl⟩ ?_
  refine ni_xLd (ni_ro [a, b, c, d, e, f] (1980, ni_sLd 3 0 1981) (ni_me85_31 [a, b, c, d, e, f] _ (List.mem_of_getElem? (i := 20) rfl))) rfl rfl ?_
  refine ni_xLd (ni_ro [a, b, c, d, e, f] (1981, ni_sLd 0 5 1983) (ni_me85_31 [a, b, c, d, e, f] _ (List.mem_of_getElem? (i := 21) rfl))) rfl rfl ?_
  refine ni_xP (g := ni_gPush (.int 2) 1984) (ni_ro [a, b, c, d, e, f] (1983, ni_sP (ni_gPush (.int 2) 1984)) (ni_me85_31 [a, b, c, d, e, f] _ (List.mem_of_getElem? (i := 22) rfl))) rfl ?_
  refine ni_xP (g := ni_gI (fun x y => x + y) 1985) (ni_ro [a, b, c, d, e, f] (1984, ni_sP (ni_gI (fun x y => x + y) 1985)) (ni_me85_31 [a, b, c, d, e, f] _ (List.mem_of_getElem? (i := 23) rfl))) rfl ?_
  refine ni_xSld (ni_ro [a, b, c, d, e, f] (1985, ni_sSld [a, b, c, d, e, f] 1986) (ni_me85_31 [a, b, c, d, e, f] _ (List.mem_of_getElem? (i := 24) rfl))) ⟨by decide, rfl⟩ ?_
  refine ni_xV (ni_ro [a, b, c, d, e, f] (1986, ni_sV 142 2 18 1989) (ni_me85_31 [a, b, c, d, e, f] _ (List.mem_of_getElem? (i := 25) rfl))) rfl rfl rfl (Nat.le_of_ble_eq_true rfl) (ni_ofO (ni_km142 [a, b, c, d, e, f] _ _)) ?_
  refine ni_xSt (ni_ro [a, b, c, d, e, f] (1989, ni_sSt 0 7 1991) (ni_me85_31 [a, b, c, d, e, f] _ (List.mem_of_getElem? (i := 26) rfl))) rfl rfl ?_
  refine ni_xLd (ni_ro [a, b, c, d, e, f] (1991, ni_sLd 3 2 1992) (ni_me85_31 [a, b, c, d, e, f] _ (List.mem_of_getElem? (i := 27) rfl))) rfl rfl ?_
  refine ni_xV (ni_ro [a, b, c, d, e, f] (1992, ni_sV 167 0 18 1995) (ni_me85_31 [a, b, c, d, e, f] _ (List.mem_of_getElem? (i := 28) rfl))) rfl rfl rfl (Nat.le_of_ble_eq_true rfl) (ni_ofO (ni_k167 [a, b, c, d, e, f])) ?_
  refine ni_xLd (ni_ro [a, b, c, d, e, f] (1995, ni_sLd 0 6 1997) (ni_me85_31 [a, b, c, d, e, f] _ (List.mem_of_getElem? (i := 29) rfl))) rfl rfl ?_
  refine ni_xIc true (ni_ro [a, b, c, d, e, f] (1997, ni_sP (ni_gIc (fun x y => decide (x = y)) 2002 2000)) (ni_me85_31 [a, b, c, d, e, f] _ (List.mem_of_getElem? (i := 30) rfl))) rfl ?_
  refine ni_xLd (ni_ro [a, b, c, d, e, f] (2002, ni_sLd 0 6 2004) (ni_me85_31 [a, b, c, d, e, f] _ (List.mem_of_getElem? (i := 31) rfl))) rfl rfl ?_
  refine ni_xIf true (ni_ro [a, b, c, d, e, f] (2004, ni_sP (ni_gIf (fun x => decide (¬ x = 0)) 2019 2007)) (ni_me85_31 [a, b, c, d, e, f] _ (List.mem_of_getElem? (i := 32) rfl))) rfl ?_
  refine ni_xP (g := ni_gGo 3317) (ni_ro [a, b, c, d, e, f] (2019, ni_sP (ni_gGo 3317)) (ni_me85_31 [a, b, c, d, e, f] _ (List.mem_of_getElem? (i := 33) rfl))) rfl ?_
  refine ni_xInc (ni_ro [a, b, c, d, e, f] (3317, ni_sInc 5 (6) 3320) (ni_me85_52 [a, b, c, d, e, f] _ (List.mem_of_getElem? (i := 0) rfl))) rfl rfl ?_
  refine ni_xP (g := ni_gGo 28) (ni_ro [a, b, c, d, e, f] (3320, ni_sP (ni_gGo 28)) (ni_me85_52 [a, b, c, d, e, f] _ (List.mem_of_getElem? (i := 1) rfl))) rfl ?_
  refine ni_xLd (ni_ro [a, b, c, d, e, f] (28, ni_sLd 0 5 30) (ni_me85_1 [a, b, c, d, e, f] _ (List.mem_of_getElem? (i := 0) rfl))) rfl rfl ?_
  refine ni_xLd (ni_ro [a, b, c, d, e, f] (30, ni_sLd 3 0 31) (ni_me85_1 [a, b, c, d, e, f] _ (List.mem_of_getElem? (i := 1) rfl))) rfl rfl ?_
  refine ni_xSln (ni_ro [a, b, c, d, e, f] (31, ni_sSln [a, b, c, d, e, f] 32) (ni_me85_1 [a, b, c, d, e, f] _ (List.mem_of_getElem? (i := 2) rfl))) rfl ?_
  refine ni_xP (g := ni_gPush (.int 6) 34) (ni_ro [a, b, c, d, e, f] (32, ni_sP (ni_gPush (.int 6) 34)) (ni_me85_1 [a, b, c, d, e, f] _ (List.mem_of_getElem? (i := 3) rfl))) rfl ?_
  refine ni_xP (g := ni_gI (fun x y => x - y) 35) (ni_ro [a, b, c, d, e, f] (34, ni_sP (ni_gI (fun x y => x - y) 35)) (ni_me85_1 [a, b, c, d, e, f] _ (List.mem_of_getElem? (i := 4) rfl))) rfl ?_
  refine ni_xIc true (ni_ro [a, b, c, d, e, f] (35, ni_sP (ni_gIc (fun x y => decide (y < x)) 3323 38)) (ni_me85_1 [a, b, c, d, e, f] _ (List.mem_of_getElem? (i := 5) rfl))) (show decide (Int32.ofNat 6 - 6 < 0 + 6) = true from by decide) ?_
  refine ni_xP (g := ni_gPush (.int 1) 3324) (ni_ro [a, b, c, d, e, f] (3323, ni_sP (ni_gPush (.int 1) 3324)) (ni_me85_52 [a, b, c, d, e, f] _ (List.mem_of_getElem? (i := 2) rfl))) rfl ?_
  exact ni_xR (ni_ro [a, b, c, d, e, f] (3324, ni_sR (some .boolean)) (ni_me85_52 [a, b, c, d, e, f] _ (List.mem_of_getElem? (i := 3) rfl))) rfl
theorem ni_ca30 (a b c d e f : Int32) : ni_G [a, b, c, d, e, f] 9 85 2022 ni_ls0 [] (ni_P0, 0) (.inl (some (.int 1)), (ni_P1, 1)) := by
  refine ni_xLd (ni_ro [a, b, c, d, e, f] (2022, ni_sLd 3 1 2023) (ni_me85_32 [a, b, c, d, e, f] _ (List.mem_of_getElem? (i := 0) rfl))) rfl rfl ?_
  refine ni_xLd (ni_ro [a, b, c, d, e, f] (2023, ni_sLd 3 0 2024) (ni_me85_32 [a, b, c, d, e, f] _ (List.mem_of_getElem? (i := 1) rfl))) rfl rfl ?_
  refine ni_xLd (ni_ro [a, b, c, d, e, f] (2024, ni_sLd 0 5 2026) (ni_me85_32 [a, b, c, d, e, f] _ (List.mem_of_getElem? (i := 2) rfl))) rfl rfl ?_
  refine ni_xP (g := ni_gPush (.int 1) 2027) (ni_ro [a, b, c, d, e, f] (2026, ni_sP (ni_gPush (.int 1) 2027)) (ni_me85_32 [a, b, c, d, e, f] _ (List.mem_of_getElem? (i := 3) rfl))) rfl ?_
  refine ni_xP (g := ni_gI (fun x y => x + y) 2028) (ni_ro [a, b, c, d, e, f] (2027, ni_sP (ni_gI (fun x y => x + y) 2028)) (ni_me85_32 [a, b, c, d, e, f] _ (List.mem_of_getElem? (i := 4) rfl))) rfl ?_
  refine ni_xSld (ni_ro [a, b, c, d, e, f] (2028, ni_sSld [a, b, c, d, e, f] 2029) (ni_me85_32 [a, b, c, d, e, f] _ (List.mem_of_getElem? (i := 5) rfl))) ⟨by decide, rfl⟩ ?_
  refine ni_xLd (ni_ro [a, b, c, d, e, f] (2029, ni_sLd 3 0 2030) (ni_me85_32 [a, b, c, d, e, f] _ (List.mem_of_getElem? (i := 6) rfl))) rfl rfl ?_
  refine ni_xLd (ni_ro [a, b, c, d, e, f] (2030, ni_sLd 0 5 2032) (ni_me85_32 [a, b, c, d, e, f] _ (List.mem_of_getElem? (i := 7) rfl))) rfl rfl ?_
  refine ni_xP (g := ni_gPush (.int 2) 2033) (ni_ro [a, b, c, d, e, f] (2032, ni_sP (ni_gPush (.int 2) 2033)) (ni_me85_32 [a, b, c, d, e, f] _ (List.mem_of_getElem? (i := 8) rfl))) rfl ?_
  refine ni_xP (g := ni_gI (fun x y => x + y) 2034) (ni_ro [a, b, c, d, e, f] (2033, ni_sP (ni_gI (fun x y => x + y) 2034)) (ni_me85_32 [a, b, c, d, e, f] _ (List.mem_of_getElem? (i := 9) rfl))) rfl ?_
  refine ni_xSld (ni_ro [a, b, c, d, e, f] (2034, ni_sSld [a, b, c, d, e, f] 2035) (ni_me85_32 [a, b, c, d, e, f] _ (List.mem_of_getElem? (i := 10) rfl))) ⟨by decide, rfl⟩ ?_
  refine ni_xLd (ni_ro [a, b, c, d, e, f] (2035, ni_sLd 3 3 2036) (ni_me85_32 [a, b, c, d, e, f] _ (List.mem_of_getElem? (i := 11) rfl))) rfl rfl ?_
  refine ni_xC (ni_ro [a, b, c, d, e, f] (2036, ni_sC 82 4 2039) (ni_me85_32 [a, b, c, d, e, f] _ (List.mem_of_getElem? (i := 12) rfl))) (Nat.le_of_ble_eq_true rfl) rfl rfl (Nat.le_of_ble_eq_true rfl) (ni_ofO (ni_kw82 [a, b, c, d, e, f] _ _)) ?_
  refine ni_xSt (ni_ro [a, b, c, d, e, f] (2039, ni_sSt 0 6 2041) (ni_me85_32 [a, b, c, d, e, f] _ (List.mem_of_getElem? (i := 13) rfl))) rfl rfl ?_
  refine ni_xLd (ni_ro [a, b, c, d, e, f] (2041, ni_sLd 3 2 2042) (ni_me85_32 [a, b, c, d, e, f] _ (List.mem_of_getElem? (i := 14) rfl))) rfl rfl ?_
  refine ni_xLd (ni_ro [a, b, c, d, e, f] (2042, ni_sLd 3 0 2043) (ni_me85_32 [a, b, c, d, e, f] _ (List.mem_of_getElem? (i := 15) rfl))) rfl rfl ?_
  refine ni_xLd (ni_ro [a, b, c, d, e, f] (2043, ni_sLd 0 5 2045) (ni_me85_32 [a, b, c, d, e, f] _ (List.mem_of_getElem? (i := 16) rfl))) rfl rfl ?_
  refine ni_xP (g := ni_gPush (.int 1) 2046) (ni_ro [a, b, c, d, e, f] (2045, ni_sP (ni_gPush (.int 1) 2046)) (ni_me85_32 [a, b, c, d, e, f] _ (List.mem_of_getElem? (i := 17) rfl))) rfl ?_
  refine ni_xP (g := ni_gI (fun x y => x + y) 2047) (ni_ro [a, b, c, d, e, f] (2046, ni_sP (ni_gI (fun x y => x + y) 2047)) (ni_me85_32 [a, b, c, d, e, f] _ (List.mem_of_getElem? (i := 18) rfl))) rfl ?_
  refine ni_xSld (ni_ro [a, b, c, d, e, f] (2047, ni_sSld [a, b, c, d, e, f] 2048) (ni_me85_32 [a, b, c, d, e, f] _ (List.mem_of_getElem? (i := 19) rfl))) ⟨by decide, rfl⟩ ?_
  refine ni_xLd (ni_ro [a, b, c, d, e, f] (2048, ni_sLd 3 0 2049) (ni_me85_32 [a, b, c, d, e, f] _ (List.mem_of_getElem? (i := 20) rfl))) rfl rfl ?_
  refine ni_xLd (ni_ro [a, b, c, d, e, f] (2049, ni_sLd 0 5 2051) (ni_me85_32 [a, b, c, d, e, f] _ (List.mem_of_getElem? (i := 21) rfl))) rfl rfl ?_
  refine ni_xP (g := ni_gPush (.int 2) 2052) (ni_ro [a, b, c, d, e, f] (2051, ni_sP (ni_gPush (.int 2) 2052)) (ni_me85_32 [a, b, c, d, e, f] _ (List.mem_of_getElem? (i := 22) rfl))) rfl ?_
  refine ni_xP (g := ni_gI (fun x y => x + y) 2053) (ni_ro [a, b, c, d, e, f] (2052, ni_sP (ni_gI (fun x y => x + y) 2053)) (ni_me85_32 [a, b, c, d, e, f] _ (List.mem_of_getElem? (i := 23) rfl))) rfl ?_
  refine ni_xSld (ni_ro [a, b, c, d, e, f] (2053, ni_sSld [a, b, c, d, e, f] 2054) (ni_me85_32 [a, b, c, d, e, f] _ (List.mem_of_getElem? (i := 24) rfl))) ⟨by decide, rfl⟩ ?_
  refine ni_xV (ni_ro [a, b, c, d, e, f] (2054, ni_sV 129 2 18 2057) (ni_me85_32 [a, b, c, d, e, f] _ (List.mem_of_getElem? (i := 25) rfl))) rfl rfl rfl (Nat.le_of_ble_eq_true rfl) (ni_ofO (ni_km129 [a, b, c, d, e, f] _ _)) ?_
  refine ni_xSt (ni_ro [a, b, c, d, e, f] (2057, ni_sSt 0 7 2059) (ni_me85_32 [a, b, c, d, e, f] _ (List.mem_of_getElem? (i := 26) rfl))) rfl rfl ?_
  refine ni_xLd (ni_ro [a, b, c, d, e, f] (2059, ni_sLd 3 2 2060) (ni_me85_32 [a, b, c, d, e, f] _ (List.mem_of_getElem? (i := 27) rfl))) rfl rfl ?_
  refine ni_xV (ni_ro [a, b, c, d, e, f] (2060, ni_sV 167 0 18 2063) (ni_me85_32 [a, b, c, d, e, f] _ (List.mem_of_getElem? (i := 28) rfl))) rfl rfl rfl (Nat.le_of_ble_eq_true rfl) (ni_ofO (ni_k167 [a, b, c, d, e, f])) ?_
  refine ni_xLd (ni_ro [a, b, c, d, e, f] (2063, ni_sLd 0 6 2065) (ni_me85_32 [a, b, c, d, e, f] _ (List.mem_of_getElem? (i := 29) rfl))) rfl rfl ?_
  refine ni_xIc true (ni_ro [a, b, c, d, e, f] (2065, ni_sP (ni_gIc (fun x y => decide (x = y)) 2070 2068)) (ni_me85_32 [a, b, c, d, e, f] _ (List.mem_of_getElem? (i := 30) rfl))) rfl ?_
  refine ni_xLd (ni_ro [a, b, c, d, e, f] (2070, ni_sLd 0 6 2072) (ni_me85_32 [a, b, c, d, e, f] _ (List.mem_of_getElem? (i := 31) rfl))) rfl rfl ?_
  refine ni_xIf true (ni_ro [a, b, c, d, e, f] (2072, ni_sP (ni_gIf (fun x => decide (¬ x = 0)) 2087 2075)) (ni_me85_32 [a, b, c, d, e, f] _ (List.mem_of_getElem? (i := 32) rfl))) rfl ?_
  refine ni_xP (g := ni_gGo 3317) (ni_ro [a, b, c, d, e, f] (2087, ni_sP (ni_gGo 3317)) (ni_me85_32 [a, b, c, d, e, f] _ (List.mem_of_getElem? (i := 33) rfl))) rfl ?_
  refine ni_xInc (ni_ro [a, b, c, d, e, f] (3317, ni_sInc 5 (6) 3320) (ni_me85_52 [a, b, c, d, e, f] _ (List.mem_of_getElem? (i := 0) rfl))) rfl rfl ?_
  refine ni_xP (g := ni_gGo 28) (ni_ro [a, b, c, d, e, f] (3320, ni_sP (ni_gGo 28)) (ni_me85_52 [a, b, c, d, e, f] _ (List.mem_of_getElem? (i := 1) rfl))) rfl ?_
  refine ni_xLd (ni_ro [a, b, c, d, e, f] (28, ni_sLd 0 5 30) (ni_me85_1 [a, b, c, d, e, f] _ (List.mem_of_getElem? (i := 0) rfl))) rfl rfl ?_
  refine ni_xLd (ni_ro [a, b, c, d, e, f] (30, ni_sLd 3 0 31) (ni_me85_1 [a, b, c, d, e, f] _ (List.mem_of_getElem? (i := 1) rfl))) rfl rfl ?_
  refine ni_xSln (ni_ro [a, b, c, d, e, f] (31, ni_sSln [a, b, c, d, e, f] 32) (ni_me85_1 [a, b, c, d, e, f] _ (List.mem_of_getElem? (i := 2) rfl))) rfl ?_
  refine ni_xP (g := ni_gPush (.int 6) 34) (ni_ro [a, b, c, d, e, f] (32, ni_sP (ni_gPush (.int 6) 34)) (ni_me85_1 [a, b, c, d, e, f] _ (List.mem_of_getElem? (i := 3) rfl))) rfl ?_
  refine ni_xP (g := ni_gI (fun x y => x - y) 35) (ni_ro [a, b, c, d, e, f] (34, ni_sP (ni_gI (fun x y => x - y) 35)) (ni_me85_1 [a, b, c, d, e, f] _ (List.mem_of_getElem? (i := 4) rfl))) rfl ?_
  refine ni_xIc true (ni_ro [a, b, c, d, e, f] (35, ni_sP (ni_gIc (fun x y => decide (y < x)) 3323 38)) (ni_me85_1 [a, b, c, d, e, f] _ (List.mem_of_getElem? (i := 5) rfl))) (show decide (Int32.ofNat 6 - 6 < 0 + 6) = true from by decide) ?_
  refine ni_xP (g := ni_gPush (.int 1) 3324) (ni_ro [a, b, c, d, e, f] (3323, ni_sP (ni_gPush (.int 1) 3324)) (ni_me85_52 [a, b, c, d, e, f] _ (List.mem_of_getElem? (i := 2) rfl))) rfl ?_
  exact ni_xR (ni_ro [a, b, c, d, e, f] (3324, ni_sR (some .boolean)) (ni_me85_52 [a, b, c, d, e, f] _ (List.mem_of_getElem? (i := 3) rfl))) rfl
theorem ni_ca31 (a b c d e f : Int32) : ni_G [a, b, c, d, e, f] 9 85 2090 ni_ls0 [] (ni_P0, 0) (.inl (some (.int 1)), (ni_P1, 1)) := by
  refine ni_xLd (ni_ro [a, b, c, d, e, f] (2090, ni_sLd 3 1 2091) (ni_me85_33 [a, b, c, d, e, f] _ (List.mem_of_getElem? (i := 0) rfl))) rfl rfl ?_
  refine ni_xLd (ni_ro [a, b, c, d, e, f] (2091, ni_sLd 3 0 2092) (ni_me85_33 [a, b, c, d, e, f] _ (List.mem_of_getElem? (i := 1) rfl))) rfl rfl ?_
  refine ni_xLd (ni_ro [a, b, c, d, e, f] (2092, ni_sLd 0 5 2094) (ni_me85_33 [a, b, c, d, e, f] _ (List.mem_of_getElem? (i := 2) rfl))) rfl rfl ?_
  refine ni_xP (g := ni_gPush (.int 1) 2095) (ni_ro [a, b, c, d, e, f] (2094, ni_sP (ni_gPush (.int 1) 2095)) (ni_me85_33 [a, b, c, d, e, f] _ (List.mem_of_getElem? (i := 3) rfl))) rfl ?_
  refine ni_xP (g := ni_gI (fun x y => x + y) 2096) (ni_ro [a, b, c, d, e, f] (2095, ni_sP (ni_gI (fun x y => x + y) 2096)) (ni_me85_33 [a, b, c, d, e, f] _ (List.mem_of_getElem? (i := 4) rfl))) rfl ?_
  refine ni_xSld (ni_ro [a, b, c, d, e, f] (2096, ni_sSld [a, b, c, d, e, f] 2097) (ni_me85_33 [a, b, c, d, e, f] _ (List.mem_of_getElem? (i := 5) rfl))) ⟨by decide, rfl⟩ ?_
  refine ni_xLd (ni_ro [a, b, c, d, e, f] (2097, ni_sLd 3 0 2098) (ni_me85_33 [a, b, c, d, e, f] _ (List.mem_of_getElem? (i := 6) rfl))) rfl rfl ?_
  refine ni_xLd (ni_ro [a, b, c, d, e, f] (2098, ni_sLd 0 5 2100) (ni_me85_33 [a, b, c, d, e, f] _ (List.mem_of_getElem? (i := 7) rfl))) rfl rfl ?_
  refine ni_xP (g := ni_gPush (.int 2) 2101) (ni_ro [a, b, c, d, e, f] (2100, ni_sP (ni_gPush (.int 2) 2101)) (ni_me85_33 [a, b, c, d, e, f] _ (List.mem_of_getElem? (i := 8) rfl))) rfl ?_
  refine ni_xP (g := ni_gI (fun x y => x + y) 2102) (ni_ro [a, b, c, d, e, f] (2101, ni_sP (ni_gI (fun x y => x + y) 2102)) (ni_me85_33 [a, b, c, d, e, f] _ (List.mem_of_getElem? (i := 9) rfl))) rfl ?_
  refine ni_xSld (ni_ro [a, b, c, d, e, f] (2102, ni_sSld [a, b, c, d, e, f] 2103) (ni_me85_33 [a, b, c, d, e, f] _ (List.mem_of_getElem? (i := 10) rfl))) ⟨by decide, rfl⟩ ?_
  refine ni_xLd (ni_ro [a, b, c, d, e, f] (2103, ni_sLd 3 3 2104) (ni_me85_33 [a, b, c, d, e, f] _ (List.mem_of_getElem? (i := 11) rfl))) rfl rfl ?_
  refine ni_xC (ni_ro [a, b, c, d, e, f] (2104, ni_sC 104 4 2107) (ni_me85_33 [a, b, c, d, e, f] _ (List.mem_of_getElem? (i := 12) rfl))) (Nat.le_of_ble_eq_true rfl) rfl rfl (Nat.le_of_ble_eq_true rfl) (ni_ofO (ni_kw104 [a, b, c, d, e, f] _ _)) ?_
  refine ni_xSt (ni_ro [a, b, c, d, e, f] (2107, ni_sSt 0 6 2109) (ni_me85_33 [a, b, c, d, e, f] _ (List.mem_of_getElem? (i := 13) rfl))) rfl rfl ?_
  refine ni_xLd (ni_ro [a, b, c, d, e, f] (2109, ni_sLd 3 2 2110) (ni_me85_33 [a, b, c, d, e, f] _ (List.mem_of_getElem? (i := 14) rfl))) rfl rfl ?_
  refine ni_xLd (ni_ro [a, b, c, d, e, f] (2110, ni_sLd 3 0 2111) (ni_me85_33 [a, b, c, d, e, f] _ (List.mem_of_getElem? (i := 15) rfl))) rfl rfl ?_
  refine ni_xLd (ni_ro [a, b, c, d, e, f] (2111, ni_sLd 0 5 2113) (ni_me85_33 [a, b, c, d, e, f] _ (List.mem_of_getElem? (i := 16) rfl))) rfl rfl ?_
  refine ni_xP (g := ni_gPush (.int 1) 2114) (ni_ro [a, b, c, d, e, f] (2113, ni_sP (ni_gPush (.int 1) 2114)) (ni_me85_33 [a, b, c, d, e, f] _ (List.mem_of_getElem? (i := 17) rfl))) rfl ?_
  refine ni_xP (g := ni_gI (fun x y => x + y) 2115) (ni_ro [a, b, c, d, e, f] (2114, ni_sP (ni_gI (fun x y => x + y) 2115)) (ni_me85_33 [a, b, c, d, e, f] _ (List.mem_of_getElem? (i := 18) rfl))) rfl ?_
  refine ni_xSld (ni_ro [a, b, c, d, e, f] (2115, ni_sSld [a, b, c, d, e, f] 2116) (ni_me85_33 [a, b, c, d, e, f] _ (List.mem_of_getElem? (i := 19) rfl))) ⟨by decide, rfl⟩ ?_
  refine ni_xLd (ni_ro [a, b, c, d, e, f] (2116, ni_sLd 3 0 2117) (ni_me85_33 [a, b, c, d, e, f] _ (List.mem_of_getElem? (i := 20) rfl))) rfl rfl ?_
  refine ni_xLd (ni_ro [a, b, c, d, e, f] (2117, ni_sLd 0 5 2119) (ni_me85_33 [a, b, c, d, e, f] _ (List.mem_of_getElem? (i := 21) rfl))) rfl rfl ?_
  refine ni_xP (g := ni_gPush (.int 2) 2120) (ni_ro [a, b, c, d, e, f] (2119, ni_sP (ni_gPush (.int 2) 2120)) (ni_me85_33 [a, b, c, d, e, f] _ (List.mem_of_getElem? (i := 22) rfl))) rfl ?_
  refine ni_xP (g := ni_gI (fun x y => x + y) 2121) (ni_ro [a, b, c, d, e, f] (2120, ni_sP (ni_gI (fun x y => x + y) 2121)) (ni_me85_33 [a, b, c, d, e, f] _ (List.mem_of_getElem? (i := 23) rfl))) rfl ?_
  refine ni_xSld (ni_ro [a, b, c, d, e, f] (2121, ni_sSld [a, b, c, d, e, f] 2122) (ni_me85_33 [a, b, c, d, e, f] _ (List.mem_of_getElem? (i := 24) rfl))) ⟨by decide, rfl⟩ ?_
  refine ni_xV (ni_ro [a, b, c, d, e, f] (2122, ni_sV 163 2 18 2125) (ni_me85_33 [a, b, c, d, e, f] _ (List.mem_of_getElem? (i := 25) rfl))) rfl rfl rfl (Nat.le_of_ble_eq_true rfl) (ni_ofO (ni_km163 [a, b, c, d, e, f] _ _)) ?_
  refine ni_xSt (ni_ro [a, b, c, d, e, f] (2125, ni_sSt 0 7 2127) (ni_me85_33 [a, b, c, d, e, f] _ (List.mem_of_getElem? (i := 26) rfl))) rfl rfl ?_
  refine ni_xLd (ni_ro [a, b, c, d, e, f] (2127, ni_sLd 3 2 2128) (ni_me85_33 [a, b, c, d, e, f] _ (List.mem_of_getElem? (i := 27) rfl))) rfl rfl ?_
  refine ni_xV (ni_ro [a, b, c, d, e, f] (2128, ni_sV 167 0 18 2131) (ni_me85_33 [a, b, c, d, e, f] _ (List.mem_of_getElem? (i := 28) rfl))) rfl rfl rfl (Nat.le_of_ble_eq_true rfl) (ni_ofO (ni_k167 [a, b, c, d, e, f])) ?_
  refine ni_xLd (ni_ro [a, b, c, d, e, f] (2131, ni_sLd 0 6 2133) (ni_me85_33 [a, b, c, d, e, f] _ (List.mem_of_getElem? (i := 29) rfl))) rfl rfl ?_
  refine ni_xIc true (ni_ro [a, b, c, d, e, f] (2133, ni_sP (ni_gIc (fun x y => decide (x = y)) 2138 2136)) (ni_me85_33 [a, b, c, d, e, f] _ (List.mem_of_getElem? (i := 30) rfl))) rfl ?_
  refine ni_xLd (ni_ro [a, b, c, d, e, f] (2138, ni_sLd 0 6 2140) (ni_me85_33 [a, b, c, d, e, f] _ (List.mem_of_getElem? (i := 31) rfl))) rfl rfl ?_
  refine ni_xIf true (ni_ro [a, b, c, d, e, f] (2140, ni_sP (ni_gIf (fun x => decide (¬ x = 0)) 2155 2143)) (ni_me85_33 [a, b, c, d, e, f] _ (List.mem_of_getElem? (i := 32) rfl))) rfl ?_
  refine ni_xP (g := ni_gGo 3317) (ni_ro [a, b, c, d, e, f] (2155, ni_sP (ni_gGo 3317)) (ni_me85_33 [a, b, c, d, e, f] _ (List.mem_of_getElem? (i := 33) rfl))) rfl ?_
  refine ni_xInc (ni_ro [a, b, c, d, e, f] (3317, ni_sInc 5 (6) 3320) (ni_me85_52 [a, b, c, d, e, f] _ (List.mem_of_getElem? (i := 0) rfl))) rfl rfl ?_
  refine ni_xP (g := ni_gGo 28) (ni_ro [a, b, c, d, e, f] (3320, ni_sP (ni_gGo 28)) (ni_me85_52 [a, b, c, d, e, f] _ (List.mem_of_getElem? (i := 1) rfl))) rfl ?_
  refine ni_xLd (ni_ro [a, b, c, d, e, f] (28, ni_sLd 0 5 30) (ni_me85_1 [a, b, c, d, e, f] _ (List.mem_of_getElem? (i := 0) rfl))) rfl rfl ?_
  refine ni_xLd (ni_ro [a, b, c, d, e, f] (30, ni_sLd 3 0 31) (ni_me85_1 [a, b, c, d, e, f] _ (List.mem_of_getElem? (i := 1) rfl))) rfl rfl ?_
  refine ni_xSln (ni_ro [a, b, c, d, e, f] (31, ni_sSln [a, b, c, d, e, f] 32) (ni_me85_1 [a, b, c, d, e, f] _ (List.mem_of_getElem? (i := 2) rfl))) rfl ?_
  refine ni_xP (g := ni_gPush (.int 6) 34) (ni_ro [a, b, c, d, e, f] (32, ni_sP (ni_gPush (.int 6) 34)) (ni_me85_1 [a, b, c, d, e, f] _ (List.mem_of_getElem? (i := 3) rfl))) rfl ?_
  refine ni_xP (g := ni_gI (fun x y => x - y) 35) (ni_ro [a, b, c, d, e, f] (34, ni_sP (ni_gI (fun x y => x - y) 35)) (ni_me85_1 [a, b, c, d, e, f] _ (List.mem_of_getElem? (i := 4) rfl))) rfl ?_
  refine ni_xIc true (ni_ro [a, b, c, d, e, f] (35, ni_sP (ni_gIc (fun x y => decide (y < x)) 3323 38)) (ni_me85_1 [a, b, c, d, e, f] _ (List.mem_of_getElem? (i := 5) rfl))) (show decide (Int32.ofNat 6 - 6 < 0 + 6) = true from by decide) ?_
  refine ni_xP (g := ni_gPush (.int 1) 3324) (ni_ro [a, b, c, d, e, f] (3323, ni_sP (ni_gPush (.int 1) 3324)) (ni_me85_52 [a, b, c, d, e, f] _ (List.mem_of_getElem? (i := 2) rfl))) rfl ?_
  exact ni_xR (ni_ro [a, b, c, d, e, f] (3324, ni_sR (some .boolean)) (ni_me85_52 [a, b, c, d, e, f] _ (List.mem_of_getElem? (i := 3) rfl))) rfl
theorem ni_ca32 (a b c d e f : Int32) : ni_G [a, b, c, d, e, f] 9 85 2158 ni_ls0 [] (ni_P0, 0) (.inl (some (.int 1)), (ni_P1, 1)) := by
  refine ni_xLd (ni_ro [a, b, c, d, e, f] (2158, ni_sLd 3 1 2159) (ni_me85_34 [a, b, c, d, e, f] _ (List.mem_of_getElem? (i := 0) rfl))) rfl rfl ?_
  refine ni_xLd (ni_ro [a, b, c, d, e, f] (2159, ni_sLd 3 0 2160) (ni_me85_34 [a, b, c, d, e, f] _ (List.mem_of_getElem? (i := 1) rfl))) rfl rfl ?_
  refine ni_xLd (ni_ro [a, b, c, d, e, f] (2160, ni_sLd 0 5 2162) (ni_me85_34 [a, b, c, d, e, f] _ (List.mem_of_getElem? (i := 2) rfl))) rfl rfl ?_
  refine ni_xP (g := ni_gPush (.int 1) 2163) (ni_ro [a, b, c, d, e, f] (2162, ni_sP (ni_gPush (.int 1) 2163)) (ni_me85_34 [a, b, c, d, e, f] _ (List.mem_of_getElem? (i := 3) rfl))) rfl ?_
  refine ni_xP (g := ni_gI (fun x y => x + y) 2164) (ni_ro [a, b, c, d, e, f] (2163, ni_sP (ni_gI (fun x y => x + y) 2164)) (ni_me85_34 [a, b, c, d, e, f] _ (List.mem_of_getElem? (i := 4) rfl))) rfl ?_
  refine ni_xSld (ni_ro [a, b, c, d, e, f] (2164, ni_sSld [a, b, c, d, e, f] 2165) (ni_me85_34 [a, b, c, d, e, f] _ (List.mem_of_getElem? (i := 5) rfl))) ⟨by decide, rfl⟩ ?_
  refine ni_xLd (ni_ro [a, b, c, d, e, f] (2165, ni_sLd 3 0 2166) (ni_me85_34 [a, b, c, d, e, f] _ (List.mem_of_getElem? (i := 6) rfl))) rfl rfl ?_
  refine ni_xLd (ni_ro [a, b, c, d, e, f] (2166, ni_sLd 0 5 2168) (ni_me85_34 [a, b, c, d, e, f] _ (List.mem_of_getElem? (i := 7) rfl))) rfl rfl ?_
  refine ni_xP (g := ni_gPush (.int 2) 2169) (ni_ro [a, b, c, d, e, f] (2168, ni_sP (ni_gPush (.int 2) 2169)) (ni_me85_34 [a, b, c, d, e, f] _ (List.mem_of_getElem? (i := 8) rfl))) rfl ?_
  refine ni_xP (g := ni_gI (fun x y => x + y) 2170) (ni_ro [a, b, c, d, e, f] (2169, ni_sP (ni_gI (fun x y => x + y) 2170)) (ni_me85_34 [a, b, c, d, e, f] _ (List.mem_of_getElem? (i := 9) rfl))) rfl ?_
  refine ni_xSld (ni_ro [a, b, c, d, e, f] (2170, ni_sSld [a, b, c, d, e, f] 2171) (ni_me85_34 [a, b, c, d, e, f] _ (List.mem_of_getElem? (i := 10) rfl))) ⟨by decide, rfl⟩ ?_
  refine ni_xLd (ni_ro [a, b, c, d, e, f] (2171, ni_sLd 3 3 2172) (ni_me85_34 [a, b, c, d, e, f] _ (List.mem_of_getElem? (i := 11) rfl))) rfl rfl ?_
  refine ni_xC (ni_ro [a, b, c, d, e, f] (2172, ni_sC 89 4 2175) (ni_me85_34 [a, b, c, d, e, f] _ (List.mem_of_getElem? (i := 12) rfl))) (Nat.le_of_ble_eq_true rfl) rfl rfl (Nat.le_of_ble_eq_true rfl) (ni_ofO (ni_kw89 [a, b, c, d, e, f] _ _)) ?_
  refine ni_xSt (ni_ro [a, b, c, d, e, f] (2175, ni_sSt 0 6 2177) (ni_me85_34 [a, b, c, d, e, f] _ (List.mem_of_getElem? (i := 13) rfl))) rfl rfl ?_
  refine ni_xLd (ni_ro [a, b, c, d, e, f] (2177, ni_sLd 3 2 2178) (ni_me85_34 [a, b, c, d, e, f] _ (List.mem_of_getElem? (i := 14) rfl))) rfl rfl ?_
  refine ni_xLd (ni_ro [a, b, c, d, e, f] (2178, ni_sLd 3 0 2179) (ni_me85_34 [a, b, c, d, e, f] _ (List.mem_of_getElem? (i := 15) rfl))) rfl rfl ?_
  refine ni_xLd (ni_ro [a, b, c, d, e, f] (2179, ni_sLd 0 5 2181) (ni_me85_34 [a, b, c, d, e, f] _ (List.mem_of_getElem? (i := 16) rfl))) rfl rfl ?_
  refine ni_xP (g := ni_gPush (.int 1) 2182) (ni_ro [a, b, c, d, e, f] (2181, ni_sP (ni_gPush (.int 1) 2182)) (ni_me85_34 [a, b, c, d, e, f] _ (List.mem_of_getElem? (i := 17) rfl))) rfl ?_
  refine ni_xP (g := ni_gI (fun x y => x + y) 2183) (ni_ro [a, b, c, d, e, f] (2182, ni_sP (ni_gI (fun x y => x + y) 2183)) (ni_me85_34 [a, b, c, d, e, f] _ (List.mem_of_getElem? (i := 18) rfl))) rfl ?_
  refine ni_xSld (ni_ro [a, b, c, d, e, f] (2183, ni_sSld [a, b, c, d, e, f] 2184) (ni_me85_34 [a, b, c, d, e, f] _ (List.mem_of_getElem? (i := 19) rfl))) ⟨by decide, rfl⟩ ?_
  refine ni_xLd (ni_ro [a, b, c, d, e, f] (2184, ni_sLd 3 0 2185) (ni_me85_34 [a, b, c, d, e, f] _ (List.mem_of_getElem? (i := 20) rfl))) rfl rfl ?_
  refine ni_xLd (ni_ro [a, b, c, d, e, f] (2185, ni_sLd 0 5 2187) (ni_me85_34 [a, b, c, d, e, f] _ (List.mem_of_getElem? (i := 21) rfl))) rfl rfl ?_
  refine ni_xP (g := ni_gPush (.int 2) 2188) (ni_ro [a, b, c, d, e, f] (2187, ni_sP (ni_gPush (.int 2) 2188)) (ni_me85_34 [a, b, c, d, e, f] _ (List.mem_of_getElem? (i := 22) rfl))) rfl ?_
  refine ni_xP (g := ni_gI (fun x y => x + y) 2189) (ni_ro [a, b, c, d, e, f] (2188, ni_sP (ni_gI (fun x y => x + y) 2189)) (ni_me85_34 [a, b, c, d, e, f] _ (List.mem_of_getElem? (i := 23) rfl))) rfl ?_
  refine ni_xSld (ni_ro [a, b, c, d, e, f] (2189, ni_sSld [a, b, c, d, e, f] 2190) (ni_me85_34 [a, b, c, d, e, f] _ (List.mem_of_getElem? (i := 24) rfl))) ⟨by decide, rfl⟩ ?_
  refine ni_xV (ni_ro [a, b, c, d, e, f] (2190, ni_sV 145 2 18 2193) (ni_me85_34 [a, b, c, d, e, f] _ (List.mem_of_getElem? (i := 25) rfl))) rfl rfl rfl (Nat.le_of_ble_eq_true rfl) (ni_ofO (ni_km145 [a, b, c, d, e, f] _ _)) ?_
  refine ni_xSt (ni_ro [a, b, c, d, e, f] (2193, ni_sSt 0 7 2195) (ni_me85_34 [a, b, c, d, e, f] _ (List.mem_of_getElem? (i := 26) rfl))) rfl rfl ?_
  refine ni_xLd (ni_ro [a, b, c, d, e, f] (2195, ni_sLd 3 2 2196) (ni_me85_34 [a, b, c, d, e, f] _ (List.mem_of_getElem? (i := 27) rfl))) rfl rfl ?_
  refine ni_xV (ni_ro [a, b, c, d, e, f] (2196, ni_sV 167 0 18 2199) (ni_me85_34 [a, b, c, d, e, f] _ (List.mem_of_getElem? (i := 28) rfl))) rfl rfl rfl (Nat.le_of_ble_eq_true rfl) (ni_ofO (ni_k167 [a, b, c, d, e, f])) ?_
  refine ni_xLd (ni_ro [a, b, c, d, e, f] (2199, ni_sLd 0 6 2201) (ni_me85_34 [a, b, c, d, e, f] _ (List.mem_of_getElem? (i := 29) rfl))) rfl rfl ?_
  refine ni_xIc true (ni_ro [a, b, c, d, e, f] (2201, ni_sP (ni_gIc (fun x y => decide (x = y)) 2206 2204)) (ni_me85_34 [a, b, c, d, e, f] _ (List.mem_of_getElem? (i := 30) rfl))) rfl ?_
  refine ni_xLd (ni_ro [a, b, c, d, e, f] (2206, ni_sLd 0 6 2208) (ni_me85_34 [a, b, c, d, e, f] _ (List.mem_of_getElem? (i := 31) rfl))) rfl rfl ?_
  refine ni_xIf true (ni_ro [a, b, c, d, e, f] (2208, ni_sP (ni_gIf (fun x => decide (¬ x = 0)) 2223 2211)) (ni_me85_34 [a, b, c, d, e, f] _ (List.mem_of_getElem? (i := 32) rfl))) rfl ?_
  refine ni_xP (g := ni_gGo 3317) (ni_ro [a, b, c, d, e, f] (2223, ni_sP (ni_gGo 3317)) (ni_me85_34 [a, b, c, d, e, f] _ (List.mem_of_getElem? (i := 33) rfl))) rfl ?_
  refine ni_xInc (ni_ro [a, b, c, d, e, f] (3317, ni_sInc 5 (6) 3320) (ni_me85_52 [a, b, c, d, e, f] _ (List.mem_of_getElem? (i := 0) rfl))) rfl rfl ?_
  refine ni_xP (g := ni_gGo 28) (ni_ro [a, b, c, d, e, f] (3320, ni_sP (ni_gGo 28)) (ni_me85_52 [a, b, c, d, e, f] _ (List.mem_of_getElem? (i := 1) rfl))) rfl ?_
  refine ni_xLd (ni_ro [a, b, c, d, e, f] (28, ni_sLd 0 5 30) (ni_me85_1 [a, b, c, d, e, f] _ (List.mem_of_getElem? (i := 0) rfl))) rfl rfl ?_
  refine ni_xLd (ni_ro [a, b, c, d, e, f] (30, ni_sLd 3 0 31) (ni_me85_1 [a, b, c, d, e, f] _ (List.mem_of_getElem? (i := 1) rfl))) rfl rfl ?_
  refine ni_xSln (ni_ro [a, b, c, d, e, f] (31, ni_sSln [a, b, c, d, e, f] 32) (ni_me85_1 [a, b, c, d, e, f] _ (List.mem_of_getElem? (i := 2) rfl))) rfl ?_
  refine ni_xP (g := ni_gPush (.int 6) 34) (ni_ro [a, b, c, d, e, f] (32, ni_sP (ni_gPush (.int 6) 34)) (ni_me85_1 [a, b, c, d, e, f] _ (List.mem_of_getElem? (i := 3) rfl))) rfl ?_
  refine ni_xP (g := ni_gI (fun x y => x - y) 35) (ni_ro [a, b, c, d, e, f] (34, ni_sP (ni_gI (fun x y => x - y) 35)) (ni_me85_1 [a, b, c, d, e, f] _ (List.mem_of_getElem? (i := 4) rfl))) rfl ?_
  refine ni_xIc true (ni_ro [a, b, c, d, e, f] (35, ni_sP (ni_gIc (fun x y => decide (y < x)) 3323 38)) (ni_me85_1 [a, b, c, d, e, f] _ (List.mem_of_getElem? (i := 5) rfl))) (show decide (Int32.ofNat 6 - 6 < 0 + 6) = true from by decide) ?_
  refine ni_xP (g := ni_gPush (.int 1) 3324) (ni_ro [a, b, c, d, e, f] (3323, ni_sP (ni_gPush (.int 1) 3324)) (ni_me85_52 [a, b, c, d, e, f] _ (List.mem_of_getElem? (i := 2) rfl))) rfl ?_
  exact ni_xR (ni_ro [a, b, c, d, e, f] (3324, ni_sR (some .boolean)) (ni_me85_52 [a, b, c, d, e, f] _ (List.mem_of_getElem? (i := 3) rfl))) rfl
theorem ni_ca33 (a b c d e f : Int32) : ni_G [a, b, c, d, e, f] 9 85 2226 ni_ls0 [] (ni_P0, 0) (.inl (some (.int 1)), (ni_P1, 1)) := by
  refine ni_xLd (ni_ro [a, b, c, d, e, f] (2226, ni_sLd 3 1 2227) (ni_me85_35 [a, b, c, d, e, f] _ (List.mem_of_getElem? (i := 0) rfl))) rfl rfl ?_
  refine ni_xLd (ni_ro [a, b, c, d, e, f] (2227, ni_sLd 3 0 2228) (ni_me85_35 [a, b, c, d, e, f] _ (List.mem_of_getElem? (i := 1) rfl))) rfl rfl ?_
  refine ni_xLd (ni_ro [a, b, c, d, e, f] (2228, ni_sLd 0 5 2230) (ni_me85_35 [a, b, c, d, e, f] _ (List.mem_of_getElem? (i := 2) rfl))) rfl rfl ?_
  refine ni_xP (g := ni_gPush (.int 1) 2231) (ni_ro [a, b, c, d, e, f] (2230, ni_sP (ni_gPush (.int 1) 2231)) (ni_me85_35 [a, b, c, d, e, f] _ (List.mem_of_getElem? (i := 3) rfl))) rfl ?_
  refine ni_xP (g := ni_gI (fun x y => x + y) 2232) (ni_ro [a, b, c, d, e, f] (2231, ni_sP (ni_gI (fun x y => x + y) 2232)) (ni_me85_35 [a, b, c, d, e, f] _ (List.mem_of_getElem? (i := 4) rfl))) rfl ?_
  refine ni_xSld (ni_ro [a, b, c, d, e, f] (2232, ni_sSld [a, b, c, d, e, f] 2233) (ni_me85_35 [a, b, c, d, e, f] _ (List.mem_of_getElem? (i := 5) rfl))) ⟨by decide, rfl⟩ ?_
  refine ni_xLd (ni_ro [a, b, c, d, e, f] (2233, ni_sLd 3 3 2234) (ni_me85_35 [a, b, c, d, e, f] _ (List.mem_of_getElem? (i := 6) rfl))) rfl rfl ?_
  refine ni_xC (ni_ro [a, b, c, d, e, f] (2234, ni_sC 94 3 2237) (ni_me85_35 [a, b, c, d, e, f] _ (List.mem_of_getElem? (i := 7) rfl))) (Nat.le_of_ble_eq_true rfl) rfl rfl (Nat.le_of_ble_eq_true rfl) (ni_ofO (ni_kw94 [a, b, c, d, e, f] _)) ?_
  refine ni_xSt (ni_ro [a, b, c, d, e, f] (2237, ni_sSt 0 6 2239) (ni_me85_35 [a, b, c, d, e, f] _ (List.mem_of_getElem? (i := 8) rfl))) rfl rfl ?_
  refine ni_xLd (ni_ro [a, b, c, d, e, f] (2239, ni_sLd 3 2 2240) (ni_me85_35 [a, b, c, d, e, f] _ (List.mem_of_getElem? (i := 9) rfl))) rfl rfl ?_
  refine ni_xLd (ni_ro [a, b, c, d, e, f] (2240, ni_sLd 3 0 2241) (ni_me85_35 [a, b, c, d, e, f] _ (List.mem_of_getElem? (i := 10) rfl))) rfl rfl ?_
  refine ni_xLd (ni_ro [a, b, c, d, e, f] (2241, ni_sLd 0 5 2243) (ni_me85_35 [a, b, c, d, e, f] _ (List.mem_of_getElem? (i := 11) rfl))) rfl rfl ?_
  refine ni_xP (g := ni_gPush (.int 1) 2244) (ni_ro [a, b, c, d, e, f] (2243, ni_sP (ni_gPush (.int 1) 2244)) (ni_me85_35 [a, b, c, d, e, f] _ (List.mem_of_getElem? (i := 12) rfl))) rfl ?_
  refine ni_xP (g := ni_gI (fun x y => x + y) 2245) (ni_ro [a, b, c, d, e, f] (2244, ni_sP (ni_gI (fun x y => x + y) 2245)) (ni_me85_35 [a, b, c, d, e, f] _ (List.mem_of_getElem? (i := 13) rfl))) rfl ?_
  refine ni_xSld (ni_ro [a, b, c, d, e, f] (2245, ni_sSld [a, b, c, d, e, f] 2246) (ni_me85_35 [a, b, c, d, e, f] _ (List.mem_of_getElem? (i := 14) rfl))) ⟨by decide, rfl⟩ ?_
  refine ni_xV (ni_ro [a, b, c, d, e, f] (2246, ni_sV 152 1 18 2249) (ni_me85_35 [a, b, c, d, e, f] _ (List.mem_of_getElem? (i := 15) rfl))) rfl rfl rfl (Nat.le_of_ble_eq_true rfl) (ni_ofO (ni_km152 [a, b, c, d, e, f] _)) ?_
  refine ni_xSt (ni_ro [a, b, c, d, e, f] (2249, ni_sSt 0 7 2251) (ni_me85_35 [a, b, c, d, e, f] _ (List.mem_of_getElem? (i := 16) rfl))) rfl rfl ?_
  refine ni_xLd (ni_ro [a, b, c, d, e, f] (2251, ni_sLd 3 2 2252) (ni_me85_35 [a, b, c, d, e, f] _ (List.mem_of_getElem? (i := 17) rfl))) rfl rfl ?_
  refine ni_xV (ni_ro [a, b, c, d, e, f] (2252, ni_sV 167 0 18 2255) (ni_me85_35 [a, b, c, d, e, f] _ (List.mem_of_getElem? (i := 18) rfl))) rfl rfl rfl (Nat.le_of_ble_eq_true rfl) (ni_ofO (ni_k167 [a, b, c, d, e, f])) ?_
  refine ni_xLd (ni_ro [a, b, c, d, e, f] (2255, ni_sLd 0 6 2257) (ni_me85_35 [a, b, c, d, e, f] _ (List.mem_of_getElem? (i := 19) rfl))) rfl rfl ?_
  refine ni_xIc true (ni_ro [a, b, c, d, e, f] (2257, ni_sP (ni_gIc (fun x y => decide (x = y)) 2262 2260)) (ni_me85_35 [a, b, c, d, e, f] _ (List.mem_of_getElem? (i := 20) rfl))) rfl ?_
  refine ni_xLd (ni_ro [a, b, c, d, e, f] (2262, ni_sLd 0 6 2264) (ni_me85_35 [a, b, c, d, e, f] _ (List.mem_of_getElem? (i := 21) rfl))) rfl rfl ?_
  refine ni_xIf true (ni_ro [a, b, c, d, e, f] (2264, ni_sP (ni_gIf (fun x => decide (¬ x = 0)) 2279 2267)) (ni_me85_35 [a, b, c, d, e, f] _ (List.mem_of_getElem? (i := 22) rfl))) rfl ?_
  refine ni_xP (g := ni_gGo 3317) (ni_ro [a, b, c, d, e, f] (2279, ni_sP (ni_gGo 3317)) (ni_me85_35 [a, b, c, d, e, f] _ (List.mem_of_getElem? (i := 23) rfl))) rfl ?_
  refine ni_xInc (ni_ro [a, b, c, d, e, f] (3317, ni_sInc 5 (6) 3320) (ni_me85_52 [a, b, c, d, e, f] _ (List.mem_of_getElem? (i := 0) rfl))) rfl rfl ?_
  refine ni_xP (g := ni_gGo 28) (ni_ro [a, b, c, d, e, f] (3320, ni_sP (ni_gGo 28)) (ni_me85_52 [a, b, c, d, e, f] _ (List.mem_of_getElem? (i := 1) rfl))) rfl ?_
  refine ni_xLd (ni_ro [a, b, c, d, e, f] (28, ni_sLd 0 5 30) (ni_me85_1 [a, b, c, d, e, f] _ (List.mem_of_getElem? (i := 0) rfl))) rfl rfl ?_
  refine ni_xLd (ni_ro [a, b, c, d, e, f] (30, ni_sLd 3 0 31) (ni_me85_1 [a, b, c, d, e, f] _ (List.mem_of_getElem? (i := 1) rfl))) rfl rfl ?_
  refine ni_xSln (ni_ro [a, b, c, d, e, f] (31, ni_sSln [a, b, c, d, e, f] 32) (ni_me85_1 [a, b, c, d, e, f] _ (List.mem_of_getElem? (i := 2) rfl))) rfl ?_
  refine ni_xP (g := ni_gPush (.int 6) 34) (ni_ro [a, b, c, d, e, f] (32, ni_sP (ni_gPush (.int 6) 34)) (ni_me85_1 [a, b, c, d, e, f] _ (List.mem_of_getElem? (i := 3) rfl))) rfl ?_
  refine ni_xP (g := ni_gI (fun x y => x - y) 35) (ni_ro [a, b, c, d, e, f] (34, ni_sP (ni_gI (fun x y => x - y) 35)) (ni_me85_1 [a, b, c, d, e, f] _ (List.mem_of_getElem? (i := 4) rfl))) rfl ?_
  refine ni_xIc true (ni_ro [a, b, c, d, e, f] (35, ni_sP (ni_gIc (fun x y => decide (y < x)) 3323 38)) (ni_me85_1 [a, b, c, d, e, f] _ (List.mem_of_getElem? (i := 5) rfl))) (show decide (Int32.ofNat 6 - 6 < 0 + 6) = true from by decide) ?_
  refine ni_xP (g := ni_gPush (.int 1) 3324) (ni_ro [a, b, c, d, e, f] (3323, ni_sP (ni_gPush (.int 1) 3324)) (ni_me85_52 [a, b, c, d, e, f] _ (List.mem_of_getElem? (i := 2) rfl))) rfl ?_
  exact ni_xR (ni_ro [a, b, c, d, e, f] (3324, ni_sR (some .boolean)) (ni_me85_52 [a, b, c, d, e, f] _ (List.mem_of_getElem? (i := 3) rfl))) rfl
theorem ni_ca34 (a b c d e f : Int32) : ni_G [a, b, c, d, e, f] 9 85 2282 ni_ls0 [] (ni_P0, 0) (.inl (some (.int 1)), (ni_P1, 1)) := by
  by_cases hc : c = 0
  · skip
    refine ni_xLd (ni_ro [a, b, c, d, e, f] (2282, ni_sLd 3 1 2283) (ni_me85_36 [a, b, c, d, e, f] _ (List.mem_of_getElem? (i := 0) rfl))) rfl rfl ?_
    refine ni_xLd (ni_ro [a, b, c, d, e, f] (2283, ni_sLd 3 0 2284) (ni_me85_36 [a, b, c, d, e, f] _ (List.mem_of_getElem? (i := 1) rfl))) rfl rfl ?_
    refine ni_xLd (ni_ro [a, b, c, d, e, f] (2284, ni_sLd 0 5 2286) (ni_me85_36 [a, b, c, d, e, f] _ (List.mem_of_getElem? (i := 2) rfl))) rfl rfl ?_
    refine ni_xP (g := ni_gPush (.int 1) 2287) (ni_ro [a, b, c, d, e, f] (2286, ni_sP (ni_gPush (.int 1) 2287)) (ni_me85_36 [a, b, c, d, e, f] _ (List.mem_of_getElem? (i := 3) rfl))) rfl ?_
    refine ni_xP (g := ni_gI (fun x y => x + y) 2288) (ni_ro [a, b, c, d, e, f] (2287, ni_sP (ni_gI (fun x y => x + y) 2288)) (ni_me85_36 [a, b, c, d, e, f] _ (List.mem_of_getElem? (i := 4) rfl))) rfl ?_
    refine ni_xSld (ni_ro [a, b, c, d, e, f] (2288, ni_sSld [a, b, c, d, e, f] 2289) (ni_me85_36 [a, b, c, d, e, f] _ (List.mem_of_getElem? (i := 5) rfl))) ⟨by decide, rfl⟩ ?_
    refine ni_xLd (ni_ro [a, b, c, d, e, f] (2289, ni_sLd 3 0 2290) (ni_me85_36 [a, b, c, d, e, f] _ (List.mem_of_getElem? (i := 6) rfl))) rfl rfl ?_
    refine ni_xLd (ni_ro [a, b, c, d, e, f] (2290, ni_sLd 0 5 2292) (ni_me85_36 [a, b, c, d, e, f] _ (List.mem_of_getElem? (i := 7) rfl))) rfl rfl ?_
    refine ni_xP (g := ni_gPush (.int 2) 2293) (ni_ro [a, b, c, d, e, f] (2292, ni_sP (ni_gPush (.int 2) 2293)) (ni_me85_36 [a, b, c, d, e, f] _ (List.mem_of_getElem? (i := 8) rfl))) rfl ?_
    refine ni_xP (g := ni_gI (fun x y => x + y) 2294) (ni_ro [a, b, c, d, e, f] (2293, ni_sP (ni_gI (fun x y => x + y) 2294)) (ni_me85_36 [a, b, c, d, e, f] _ (List.mem_of_getElem? (i := 9) rfl))) rfl ?_
    refine ni_xSld (ni_ro [a, b, c, d, e, f] (2294, ni_sSld [a, b, c, d, e, f] 2295) (ni_me85_36 [a, b, c, d, e, f] _ (List.mem_of_getElem? (i := 10) rfl))) ⟨by decide, rfl⟩ ?_
    refine ni_xIf true (ni_ro [a, b, c, d, e, f] (2295, ni_sP (ni_gIf (fun x => decide (x = 0)) 2302 2298)) (ni_me85_36 [a, b, c, d, e, f] _ (List.mem_of_getElem? (i := 11) rfl))) (decide_eq_true hc) ?_
    refine ni_xP (g := ni_gPush (.int 0) 2303) (ni_ro [a, b, c, d, e, f] (2302, ni_sP (ni_gPush (.int 0) 2303)) (ni_me85_36 [a, b, c, d, e, f] _ (List.mem_of_getElem? (i := 14) rfl))) rfl ?_
    refine ni_xLd (ni_ro [a, b, c, d, e, f] (2303, ni_sLd 3 3 2304) (ni_me85_36 [a, b, c, d, e, f] _ (List.mem_of_getElem? (i := 15) rfl))) rfl rfl ?_
    refine ni_xC (ni_ro [a, b, c, d, e, f] (2304, ni_sC 109 4 2307) (ni_me85_36 [a, b, c, d, e, f] _ (List.mem_of_getElem? (i := 16) rfl))) (Nat.le_of_ble_eq_true rfl) rfl rfl (Nat.le_of_ble_eq_true rfl) (ni_ofO (ni_kw109 [a, b, c, d, e, f] _ _)) ?_
    refine ni_xSt (ni_ro [a, b, c, d, e, f] (2307, ni_sSt 0 6 2309) (ni_me85_36 [a, b, c, d, e, f] _ (List.mem_of_getElem? (i := 17) rfl))) rfl rfl ?_
    refine ni_xLd (ni_ro [a, b, c, d, e, f] (2309, ni_sLd 3 2 2310) (ni_me85_36 [a, b, c, d, e, f] _ (List.mem_of_getElem? (i := 18) rfl))) rfl rfl ?_
    refine ni_xLd (ni_ro [a, b, c, d, e, f] (2310, ni_sLd 3 0 2311) (ni_me85_36 [a, b, c, d, e, f] _ (List.mem_of_getElem? (i := 19) rfl))) rfl rfl ?_
    refine ni_xLd (ni_ro [a, b, c, d, e, f] (2311, ni_sLd 0 5 2313) (ni_me85_36 [a, b, c, d, e, f] _ (List.mem_of_getElem? (i := 20) rfl))) rfl rfl ?_
    refine ni_xP (g := ni_gPush (.int 1) 2314) (ni_ro [a, b, c, d, e, f] (2313, ni_sP (ni_gPush (.int 1) 2314)) (ni_me85_36 [a, b, c, d, e, f] _ (List.mem_of_getElem? (i := 21) rfl))) rfl ?_
    refine ni_xP (g := ni_gI (fun x y => x + y) 2315) (ni_ro [a, b, c, d, e, f] (2314, ni_sP (ni_gI (fun x y => x + y) 2315)) (ni_me85_36 [a, b, c, d, e, f] _ (List.mem_of_getElem? (i := 22) rfl))) rfl ?_
    refine ni_xSld (ni_ro [a, b, c, d, e, f] (2315, ni_sSld [a, b, c, d, e, f] 2316) (ni_me85_36 [a, b, c, d, e, f] _ (List.mem_of_getElem? (i := 23) rfl))) ⟨by decide, rfl⟩ ?_
    refine ni_xLd (ni_ro [a, b, c, d, e, f] (2316, ni_sLd 3 0 2317) (ni_me85_36 [a, b, c, d, e, f] _ (List.mem_of_getElem? (i := 24) rfl))) rfl rfl ?_
    refine ni_xLd (ni_ro [a, b, c, d, e, f] (2317, ni_sLd 0 5 2319) (ni_me85_36 [a, b, c, d, e, f] _ (List.mem_of_getElem? (i := 25) rfl))) rfl rfl ?_
    refine ni_xP (g := ni_gPush (.int 2) 2320) (ni_ro [a, b, c, d, e, f] (2319, ni_sP (ni_gPush (.int 2) 2320)) (ni_me85_36 [a, b, c, d, e, f] _ (List.mem_of_getElem? (i := 26) rfl))) rfl ?_
    refine ni_xP (g := ni_gI (fun x y => x + y) 2321) (ni_ro [a, b, c, d, e, f] (2320, ni_sP (ni_gI (fun x y => x + y) 2321)) (ni_me85_36 [a, b, c, d, e, f] _ (List.mem_of_getElem? (i := 27) rfl))) rfl ?_
    refine ni_xSld (ni_ro [a, b, c, d, e, f] (2321, ni_sSld [a, b, c, d, e, f] 2322) (ni_me85_36 [a, b, c, d, e, f] _ (List.mem_of_getElem? (i := 28) rfl))) ⟨by decide, rfl⟩ ?_
    refine ni_xIf true (ni_ro [a, b, c, d, e, f] (2322, ni_sP (ni_gIf (fun x => decide (x = 0)) 2329 2325)) (ni_me85_36 [a, b, c, d, e, f] _ (List.mem_of_getElem? (i := 29) rfl))) (decide_eq_true hc) ?_
    refine ni_xP (g := ni_gPush (.int 0) 2330) (ni_ro [a, b, c, d, e, f] (2329, ni_sP (ni_gPush (.int 0) 2330)) (ni_me85_36 [a, b, c, d, e, f] _ (List.mem_of_getElem? (i := 32) rfl))) rfl ?_
    refine ni_xV (ni_ro [a, b, c, d, e, f] (2330, ni_sV 172 2 18 2333) (ni_me85_36 [a, b, c, d, e, f] _ (List.mem_of_getElem? (i := 33) rfl))) rfl rfl rfl (Nat.le_of_ble_eq_true rfl) (ni_ofO (ni_km172 [a, b, c, d, e, f] _ _)) ?_
    refine ni_xSt (ni_ro [a, b, c, d, e, f] (2333, ni_sSt 0 7 2335) (ni_me85_36 [a, b, c, d, e, f] _ (List.mem_of_getElem? (i := 34) rfl))) rfl rfl ?_
    refine ni_xLd (ni_ro [a, b, c, d, e, f] (2335, ni_sLd 3 2 2336) (ni_me85_36 [a, b, c, d, e, f] _ (List.mem_of_getElem? (i := 35) rfl))) rfl rfl ?_
    refine ni_xV (ni_ro [a, b, c, d, e, f] (2336, ni_sV 167 0 18 2339) (ni_me85_36 [a, b, c, d, e, f] _ (List.mem_of_getElem? (i := 36) rfl))) rfl rfl rfl (Nat.le_of_ble_eq_true rfl) (ni_ofO (ni_k167 [a, b, c, d, e, f])) ?_
    refine ni_xLd (ni_ro [a, b, c, d, e, f] (2339, ni_sLd 0 6 2341) (ni_me85_36 [a, b, c, d, e, f] _ (List.mem_of_getElem? (i := 37) rfl))) rfl rfl ?_
    refine ni_xIc true (ni_ro [a, b, c, d, e, f] (2341, ni_sP (ni_gIc (fun x y => decide (x = y)) 2346 2344)) (ni_me85_36 [a, b, c, d, e, f] _ (List.mem_of_getElem? (i := 38) rfl))) rfl ?_
    refine ni_xLd (ni_ro [a, b, c, d, e, f] (2346, ni_sLd 0 6 2348) (ni_me85_36 [a, b, c, d, e, f] _ (List.mem_of_getElem? (i := 39) rfl))) rfl rfl ?_
    refine ni_xIf true (ni_ro [a, b, c, d, e, f] (2348, ni_sP (ni_gIf (fun x => decide (¬ x = 0)) 2363 2351)) (ni_me85_36 [a, b, c, d, e, f] _ (List.mem_of_getElem? (i := 40) rfl))) rfl ?_
    refine ni_xP (g := ni_gGo 3317) (ni_ro [a, b, c, d, e, f] (2363, ni_sP (ni_gGo 3317)) (ni_me85_36 [a, b, c, d, e, f] _ (List.mem_of_getElem? (i := 41) rfl))) rfl ?_
    refine ni_xInc (ni_ro [a, b, c, d, e, f] (3317, ni_sInc 5 (6) 3320) (ni_me85_52 [a, b, c, d, e, f] _ (List.mem_of_getElem? (i := 0) rfl))) rfl rfl ?_
    refine ni_xP (g := ni_gGo 28) (ni_ro [a, b, c, d, e, f] (3320, ni_sP (ni_gGo 28)) (ni_me85_52 [a, b, c, d, e, f] _ (List.mem_of_getElem? (i := 1) rfl))) rfl ?_
    refine ni_xLd (ni_ro [a, b, c, d, e, f] (28, ni_sLd 0 5 30) (ni_me85_1 [a, b, c, d, e, f] _ (List.mem_of_getElem? (i := 0) rfl))) rfl rfl ?_
    refine ni_xLd (ni_ro [a, b, c, d, e, f] (30, ni_sLd 3 0 31) (ni_me85_1 [a, b, c, d, e, f] _ (List.mem_of_getElem? (i := 1) rfl))) rfl rfl ?_
    refine ni_xSln (ni_ro [a, b, c, d, e, f] (31, ni_sSln [a, b, c, d, e, f] 32) (ni_me85_1 [a, b, c, d, e, f] _ (List.mem_of_getElem? (i := 2) rfl))) rfl ?_
    refine ni_xP (g := ni_gPush (.int 6) 34) (ni_ro [a, b, c, d, e, f] (32, ni_sP (ni_gPush (.int 6) 34)) (ni_me85_1 [a, b, c, d, e, f] _ (List.mem_of_getElem? (i := 3) rfl))) rfl ?_
    refine ni_xP (g := ni_gI (fun x y => x - y) 35) (ni_ro [a, b, c, d, e, f] (34, ni_sP (ni_gI (fun x y => x - y) 35)) (ni_me85_1 [a, b, c, d, e, f] _ (List.mem_of_getElem? (i := 4) rfl))) rfl ?_
    refine ni_xIc true (ni_ro [a, b, c, d, e, f] (35, ni_sP (ni_gIc (fun x y => decide (y < x)) 3323 38)) (ni_me85_1 [a, b, c, d, e, f] _ (List.mem_of_getElem? (i := 5) rfl))) (show decide (Int32.ofNat 6 - 6 < 0 + 6) = true from by decide) ?_
    refine ni_xP (g := ni_gPush (.int 1) 3324) (ni_ro [a, b, c, d, e, f] (3323, ni_sP (ni_gPush (.int 1) 3324)) (ni_me85_52 [a, b, c, d, e, f] _ (List.mem_of_getElem? (i := 2) rfl))) rfl ?_
    exact ni_xR (ni_ro [a, b, c, d, e, f] (3324, ni_sR (some .boolean)) (ni_me85_52 [a, b, c, d, e, f] _ (List.mem_of_getElem? (i := 3) rfl))) rfl
  · skip
    refine ni_xLd (ni_ro [a, b, c, d, e, f] (2282, ni_sLd 3 1 2283) (ni_me85_36 [a, b, c, d, e, f] _ (List.mem_of_getElem? (i := 0) rfl))) rfl rfl ?_
    refine ni_xLd (ni_ro [a, b, c, d, e, f] (2283, ni_sLd 3 0 2284) (ni_me85_36 [a, b, c, d, e, f] _ (List.mem_of_getElem? (i := 1) rfl))) rfl rfl ?_
    refine ni_xLd (ni_ro [a, b, c, d, e, f] (2284, ni_sLd 0 5 2286) (ni_me85_36 [a, b, c, d, e, f] _ (List.mem_of_getElem? (i := 2) rfl))) rfl rfl ?_
    refine ni_xP (g := ni_gPush (.int 1) 2287) (ni_ro [a, b, c, d, e, f] (2286, ni_sP (ni_gPush (.int 1) 2287)) (ni_me85_36 [a, b, c, d, e, f] _ (List.mem_of_getElem? (i := 3) rfl))) rfl ?_
    refine ni_xP (g := ni_gI (fun x y => x + y) 2288) (ni_ro [a, b, c, d, e, f] (2287, ni_sP (ni_gI (fun x y => x + y) 2288)) (ni_me85_36 [a, b, c, d, e, f] _ (List.mem_of_getElem? (i := 4) rfl))) rfl ?_
    refine ni_xSld (ni_ro [a, b, c, d, e, f] (2288, ni_sSld [a, b, c, d, e, f] 2289) (ni_me85_36 [a, b, c, d, e, f] _ (List.mem_of_getElem? (i := 5) rfl))) ⟨by decide, rfl⟩ ?_
    refine ni_xLd (ni_ro [a, b, c, d, e, f] (2289, ni_sLd 3 0 2290) (ni_me85_36 [a, b, c, d, e, f] _ (List.mem_of_getElem? (i := 6) rfl))) rfl rfl ?_
    refine ni_xLd (ni_ro [a, b, c, d, e, f] (2290, ni_sLd 0 5 2292) (ni_me85_36 [a, b, c, d, e, f] _ (List.mem_of_getElem? (i := 7) rfl))) rfl rfl ?_
    refine ni_xP (g := ni_gPush (.int 2) 2293) (ni_ro [a, b, c, d, e, f] (2292, ni_sP (ni_gPush (.int 2) 2293)) (ni_me85_36 [a, b, c, d, e, f] _ (List.mem_of_getElem? (i := 8) rfl))) rfl ?_
    refine ni_xP (g := ni_gI (fun x y => x + y) 2294) (ni_ro [a, b, c, d, e, f] (2293, ni_sP (ni_gI (fun x y => x + y) 2294)) (ni_me85_36 [a, b, c, d, e, f] _ (List.mem_of_getElem? (i := 9) rfl))) rfl ?_
    refine ni_xSld (ni_ro [a, b, c, d, e, f] (2294, ni_sSld [a, b, c, d, e, f] 2295) (ni_me85_36 [a, b, c, d, e, f] _ (List.mem_of_getElem? (i := 10) rfl))) ⟨by decide, rfl⟩ ?_
    refine ni_xIf false (ni_ro [a, b, c, d, e, f] (2295, ni_sP (ni_gIf (fun x => decide (x = 0)) 2302 2298)) (ni_me85_36 [a, b, c, d, e, f] _ (List.mem_of_getElem? (i := 11) rfl))) (decide_eq_false hc) ?_
    refine ni_xP (g := ni_gPush (.int 1) 2299) (ni_ro [a, b, c, d, e, f] (2298, ni_sP (ni_gPush (.int 1) 2299)) (ni_me85_36 [a, b, c, d, e, f] _ (List.mem_of_getElem? (i := 12) rfl))) rfl ?_
    refine ni_xP (g := ni_gGo 2303) (ni_ro [a, b, c, d, e, f] (2299, ni_sP (ni_gGo 2303)) (ni_me85_36 [a, b, c, d, e, f] _ (List.mem_of_getElem? (i := 13) rfl))) rfl ?_
    refine ni_xLd (ni_ro [a, b, c, d, e, f] (2303, ni_sLd 3 3 2304) (ni_me85_36 [a, b, c, d, e, f] _ (List.mem_of_getElem? (i := 15) rfl))) rfl rfl ?_
    refine ni_xC (ni_ro [a, b, c, d, e, f] (2304, ni_sC 109 4 2307) (ni_me85_36 [a, b, c, d, e, f] _ (List.mem_of_getElem? (i := 16) rfl))) (Nat.le_of_ble_eq_true rfl) rfl rfl (Nat.le_of_ble_eq_true rfl) (ni_ofO (ni_kw109 [a, b, c, d, e, f] _ _)) ?_
    refine ni_xSt (ni_ro [a, b, c, d, e, f] (2307, ni_sSt 0 6 2309) (ni_me85_36 [a, b, c, d, e, f] _ (List.mem_of_getElem? (i := 17) rfl))) rfl rfl ?_
    refine ni_xLd (ni_ro [a, b, c, d, e, f] (2309, ni_sLd 3 2 2310) (ni_me85_36 [a, b, c, d, e, f] _ (List.mem_of_getElem? (i := 18) rfl))) rfl rfl ?_
    refine ni_xLd (ni_ro [a, b, c, d, e, f] (2310, ni_sLd 3 0 2311) (ni_me85_36 [a, b, c, d, e, f] _ (List.mem_of_getElem? (i := 19) rfl))) rfl rfl ?_
    refine ni_xLd (ni_ro [a, b, c, d, e, f] (2311, ni_sLd 0 5 2313) (ni_me85_36 [a, b, c, d, e, f] _ (List.mem_of_getElem? (i := 20) rfl))) rfl rfl ?_
    refine ni_xP (g := ni_gPush (.int 1) 2314) (ni_ro [a, b, c, d, e, f] (2313, ni_sP (ni_gPush (.int 1) 2314)) (ni_me85_36 [a, b, c, d, e, f] _ (List.mem_of_getElem? (i := 21) rfl))) rfl ?_
    refine ni_xP (g := ni_gI (fun x y => x + y) 2315) (ni_ro [a, b, c, d, e, f] (2314, ni_sP (ni_gI (fun x y => x + y) 2315)) (ni_me85_36 [a, b, c, d, e, f] _ (List.mem_of_getElem? (i := 22) rfl))) rfl ?_
    refine ni_xSld (ni_ro [a, b, c, d, e, f] (2315, ni_sSld [a, b, c, d, e, f] 2316) (ni_me85_36 [a, b, c, d, e, f] _ (List.mem_of_getElem? (i := 23) rfl))) ⟨by decide, rfl⟩ ?_
    refine ni_xLd (ni_ro [a, b, c, d, e, f] (2316, ni_sLd 3 0 2317) (ni_me85_36 [a, b, c, d, e, f] _ (List.mem_of_getElem? (i := 24) rfl))) rfl rfl ?_
    refine ni_xLd (ni_ro [a, b, c, d, e, f] (2317, ni_sLd 0 5 2319) (ni_me85_36 [a, b, c, d, e, f] _ (List.mem_of_getElem? (i := 25) rfl))) rfl rfl ?_
    refine ni_xP (g := ni_gPush (.int 2) 2320) (ni_ro [a, b, c, d, e, f] (2319, ni_sP (ni_gPush (.int 2) 2320)) (ni_me85_36 [a, b, c, d, e, f] _ (List.mem_of_getElem? (i := 26) rfl))) rfl ?_
    refine ni_xP (g := ni_gI (fun x y => x + y) 2321) (ni_ro [a, b, c, d, e, f] (2320, ni_sP (ni_gI (fun x y => x + y) 2321)) (ni_me85_36 [a, b, c, d, e, f] _ (List.mem_of_getElem? (i := 27) rfl))) rfl ?_
    refine ni_xSld (ni_ro [a, b, c, d, e, f] (2321, ni_sSld [a, b, c, d, e, f] 2322) (ni_me85_36 [a, b, c, d, e, f] _ (List.mem_of_getElem? (i := 28) rfl))) ⟨by decide, rfl⟩ ?_
    refine ni_xIf false (ni_ro [a, b, c, d, e, f] (2322, ni_sP (ni_gIf (fun x => decide (x = 0)) 2329 2325)) (ni_me85_36 [a, b, c, d, e, f] _ (List.mem_of_getElem? (i := 29) rfl))) (decide_eq_false hc) ?_
    refine ni_xP (g := ni_gPush (.int 1) 2326) (ni_ro [a, b, c, d, e, f] (2325, ni_sP (ni_gPush (.int 1) 2326)) (ni_me85_36 [a, b, c, d, e, f] _ (List.mem_of_getElem? (i := 30) rfl))) rfl ?_
    refine ni_xP (g := ni_gGo 2330) (ni_ro [a, b, c, d, e, f] (2326, ni_sP (ni_gGo 2330)) (ni_me85_36 [a, b, c, d, e, f] _ (List.mem_of_getElem? (i := 31) rfl))) rfl ?_
    refine ni_xV (ni_ro [a, b, c, d, e, f] (2330, ni_sV 172 2 18 2333) (ni_me85_36 [a, b, c, d, e, f] _ (List.mem_of_getElem? (i := 33) rfl))) rfl rfl rfl (Nat.le_of_ble_eq_true rfl) (ni_ofO (ni_km172 [a, b, c, d, e, f] _ _)) ?_
    refine ni_xSt (ni_ro [a, b, c, d, e, f] (2333, ni_sSt 0 7 2335) (ni_me85_36 [a, b, c, d, e, f] _ (List.mem_of_getElem? (i := 34) rfl))) rfl rfl ?_
    refine ni_xLd (ni_ro [a, b, c, d, e, f] (2335, ni_sLd 3 2 2336) (ni_me85_36 [a, b, c, d, e, f] _ (List.mem_of_getElem? (i := 35) rfl))) rfl rfl ?_
    refine ni_xV (ni_ro [a, b, c, d, e, f] (2336, ni_sV 167 0 18 2339) (ni_me85_36 [a, b, c, d, e, f] _ (List.mem_of_getElem? (i := 36) rfl))) rfl rfl rfl (Nat.le_of_ble_eq_true rfl) (ni_ofO (ni_k167 [a, b, c, d, e, f])) ?_
    refine ni_xLd (ni_ro [a, b, c, d, e, f] (2339, ni_sLd 0 6 2341) (ni_me85_36 [a, b, c, d, e, f] _ (List.mem_of_getElem? (i := 37) rfl))) rfl rfl ?_
    refine ni_xIc true (ni_ro [a, b, c, d, e, f] (2341, ni_sP (ni_gIc (fun x y => decide (x = y)) 2346 2344)) (ni_me85_36 [a, b, c, d, e, f] _ (List.mem_of_getElem? (i := 38) rfl))) rfl ?_
    refine ni_xLd (ni_ro [a, b, c, d, e, f] (2346, ni_sLd 0 6 2348) (ni_me85_36 [a, b, c, d, e, f] _ (List.mem_of_getElem? (i := 39) rfl))) rfl rfl ?_
    refine ni_xIf true (ni_ro [a, b, c, d, e, f] (2348, ni_sP (ni_gIf (fun x => decide (¬ x = 0)) 2363 2351)) (ni_me85_36 [a, b, c, d, e, f] _ (List.mem_of_getElem? (i := 40) rfl))) rfl ?_
    refine ni_xP (g := ni_gGo 3317) (ni_ro [a, b, c, d, e, f] (2363, ni_sP (ni_gGo 3317)) (ni_me85_36 [a, b, c, d, e, f] _ (List.mem_of_getElem? (i := 41) rfl))) rfl ?_
    refine ni_xInc (ni_ro [a, b, c, d, e, f] (3317, ni_sInc 5 (6) 3320) (ni_me85_52 [a, b, c, d, e, f] _ (List.mem_of_getElem? (i := 0) rfl))) rfl rfl ?_
    refine ni_xP (g := ni_gGo 28) (ni_ro [a, b, c, d, e, f] (3320, ni_sP (ni_gGo 28)) (ni_me85_52 [a, b, c, d, e, f] _ (List.mem_of_getElem? (i := 1) rfl))) rfl ?_
    refine ni_xLd (ni_ro [a, b, c, d, e, f] (28, ni_sLd 0 5 30) (ni_me85_1 [a, b, c, d, e, f] _ (List.mem_of_getElem? (i := 0) rfl))) rfl rfl ?_
    refine ni_xLd (ni_ro [a, b, c, d, e, f] (30, ni_sLd 3 0 31) (ni_me85_1 [a, b, c, d, e, f] _ (List.mem_of_getElem? (i := 1) rfl))) rfl rfl ?_
    refine ni_xSln (ni_ro [a, b, c, d, e, f] (31, ni_sSln [a, b, c, d, e, f] 32) (ni_me85_1 [a, b, c, d, e, f] _ (List.mem_of_getElem? (i := 2) rfl))) rfl ?_
    refine ni_xP (g := ni_gPush (.int 6) 34) (ni_ro [a, b, c, d, e, f] (32, ni_sP (ni_gPush (.int 6) 34)) (ni_me85_1 [a, b, c, d, e, f] _ (List.mem_of_getElem? (i := 3) rfl))) rfl ?_
    refine ni_xP (g := ni_gI (fun x y => x - y) 35) (ni_ro [a, b, c, d, e, f] (34, ni_sP (ni_gI (fun x y => x - y) 35)) (ni_me85_1 [a, b, c, d, e, f] _ (List.mem_of_getElem? (i := 4) rfl))) rfl ?_
    refine ni_xIc true (ni_ro [a, b, c, d, e, f] (35, ni_sP (ni_gIc (fun x y => decide (y < x)) 3323 38)) (ni_me85_1 [a, b, c, d, e, f] _ (List.mem_of_getElem? (i := 5) rfl))) (show decide (Int32.ofNat 6 - 6 < 0 + 6) = true from by decide) ?_
    refine ni_xP (g := ni_gPush (.int 1) 3324) (ni_ro [a, b, c, d, e, f] (3323, ni_sP (ni_gPush (.int 1) 3324)) (ni_me85_52 [a, b, c, d, e, f] _ (List.mem_of_getElem? (i := 2) rfl))) rfl ?_
    exact ni_xR (ni_ro [a, b, c, d, e, f] (3324, ni_sR (some .boolean)) (ni_me85_52 [a, b, c, d, e, f] _ (List.mem_of_getElem? (i := 3) rfl))) rfl
theorem ni_ca35 (a b c d e f : Int32) : ni_G [a, b, c, d, e, f] 9 85 2366 ni_ls0 [] (ni_P0, 0) (.inl (some (.int 1)), (ni_P1, 1)) := by
  by_cases hc : c = 0
  · skip
    refine ni_xLd (ni_ro [a, b, c, d, e, f] (2366, ni_sLd 3 1 2367) (ni_me85_37 [a, b, c, d, e, f] _ (List.mem_of_getElem? (i := 0) rfl))) rfl rfl ?_
    refine ni_xLd (ni_ro [a, b, c, d, e, f] (2367, ni_sLd 3 0 2368) (ni_me85_37 [a, b, c, d, e, f] _ (List.mem_of_getElem? (i := 1) rfl))) rfl rfl ?_
    refine ni_xLd (ni_ro [a, b, c, d, e, f] (2368, ni_sLd 0 5 2370) (ni_me85_37 [a, b, c, d, e, f] _ (List.mem_of_getElem? (i := 2) rfl))) rfl rfl ?_
    refine ni_xP (g := ni_gPush (.int 1) 2371) (ni_ro [a, b, c, d, e, f] (2370, ni_sP (ni_gPush (.int 1) 2371)) (ni_me85_37 [a, b, c, d, e, f] _ (List.mem_of_getElem? (i := 3) rfl))) rfl ?_
    refine ni_xP (g := ni_gI (fun x y => x + y) 2372) (ni_ro [a, b, c, d, e, f] (2371, ni_sP (ni_gI (fun x y => x + y) 2372)) (ni_me85_37 [a, b, c, d, e, f] _ (List.mem_of_getElem? (i := 4) rfl))) rfl ?_
    refine ni_xSld (ni_ro [a, b, c, d, e, f] (2372, ni_sSld [a, b, c, d, e, f] 2373) (ni_me85_37 [a, b, c, d, e, f] _ (List.mem_of_getElem? (i := 5) rfl))) ⟨by decide, rfl⟩ ?_
    refine ni_xLd (ni_ro [a, b, c, d, e, f] (2373, ni_sLd 3 0 2374) (ni_me85_37 [a, b, c, d, e, f] _ (List.mem_of_getElem? (i := 6) rfl))) rfl rfl ?_
    refine ni_xLd (ni_ro [a, b, c, d, e, f] (2374, ni_sLd 0 5 2376) (ni_me85_37 [a, b, c, d, e, f] _ (List.mem_of_getElem? (i := 7) rfl))) rfl rfl ?_
    refine ni_xP (g := ni_gPush (.int 2) 2377) (ni_ro [a, b, c, d, e, f] (2376, ni_sP (ni_gPush (.int 2) 2377)) (ni_me85_37 [a, b, c, d, e, f] _ (List.mem_of_getElem? (i := 8) rfl))) rfl ?_
    refine ni_xP (g := ni_gI (fun x y => x + y) 2378) (ni_ro [a, b, c, d, e, f] (2377, ni_sP (ni_gI (fun x y => x + y) 2378)) (ni_me85_37 [a, b, c, d, e, f] _ (List.mem_of_getElem? (i := 9) rfl))) rfl ?_
    refine ni_xSld (ni_ro [a, b, c, d, e, f] (2378, ni_sSld [a, b, c, d, e, f] 2379) (ni_me85_37 [a, b, c, d, e, f] _ (List.mem_of_getElem? (i := 10) rfl))) ⟨by decide, rfl⟩ ?_
    refine ni_xIf true (ni_ro [a, b, c, d, e, f] (2379, ni_sP (ni_gIf (fun x => decide (x = 0)) 2386 2382)) (ni_me85_37 [a, b, c, d, e, f] _ (List.mem_of_getElem? (i := 11) rfl))) (decide_eq_true hc) ?_
    refine ni_xP (g := ni_gPush (.int 0) 2387) (ni_ro [a, b, c, d, e, f] (2386, ni_sP (ni_gPush (.int 0) 2387)) (ni_me85_37 [a, b, c, d, e, f] _ (List.mem_of_getElem? (i := 14) rfl))) rfl ?_
    refine ni_xLd (ni_ro [a, b, c, d, e, f] (2387, ni_sLd 3 0 2388) (ni_me85_37 [a, b, c, d, e, f] _ (List.mem_of_getElem? (i := 15) rfl))) rfl rfl ?_
    refine ni_xLd (ni_ro [a, b, c, d, e, f] (2388, ni_sLd 0 5 2390) (ni_me85_37 [a, b, c, d, e, f] _ (List.mem_of_getElem? (i := 16) rfl))) rfl rfl ?_
    refine ni_xP (g := ni_gPush (.int 3) 2391) (ni_ro [a, b, c, d, e, f] (2390, ni_sP (ni_gPush (.int 3) 2391)) (ni_me85_37 [a, b, c, d, e, f] _ (List.mem_of_getElem? (i := 17) rfl))) rfl ?_
    refine ni_xP (g := ni_gI (fun x y => x + y) 2392) (ni_ro [a, b, c, d, e, f] (2391, ni_sP (ni_gI (fun x y => x + y) 2392)) (ni_me85_37 [a, b, c, d, e, f] _ (List.mem_of_getElem? (i := 18) rfl))) rfl ?_
    refine ni_xSld (ni_ro [a, b, c, d, e, f] (2392, ni_sSld [a, b, c, d, e, f] 2393) (ni_me85_37 [a, b, c, d, e, f] _ (List.mem_of_getElem? (i := 19) rfl))) ⟨by decide, rfl⟩ ?_
    refine ni_xLd (ni_ro [a, b, c, d, e, f] (2393, ni_sLd 3 3 2394) (ni_me85_37 [a, b, c, d, e, f] _ (List.mem_of_getElem? (i := 20) rfl))) rfl rfl ?_
    refine ni_xC (ni_ro [a, b, c, d, e, f] (2394, ni_sC 93 5 2397) (ni_me85_37 [a, b, c, d, e, f] _ (List.mem_of_getElem? (i := 21) rfl))) (Nat.le_of_ble_eq_true rfl) rfl rfl (Nat.le_of_ble_eq_true rfl) (ni_ofO (ni_kw93 [a, b, c, d, e, f] _ _ _)) ?_
    refine ni_xSt (ni_ro [a, b, c, d, e, f] (2397, ni_sSt 0 6 2399) (ni_me85_37 [a, b, c, d, e, f] _ (List.mem_of_getElem? (i := 22) rfl))) rfl rfl ?_
    refine ni_xLd (ni_ro [a, b, c, d, e, f] (2399, ni_sLd 3 2 2400) (ni_me85_37 [a, b, c, d, e, f] _ (List.mem_of_getElem? (i := 23) rfl))) rfl rfl ?_
    refine ni_xLd (ni_ro [a, b, c, d, e, f] (2400, ni_sLd 3 0 2401) (ni_me85_37 [a, b, c, d, e, f] _ (List.mem_of_getElem? (i := 24) rfl))) rfl rfl ?_
    refine ni_xLd (ni_ro [a, b, c, d, e, f] (2401, ni_sLd 0 5 2403) (ni_me85_37 [a, b, c, d, e, f] _ (List.mem_of_getElem? (i := 25) rfl))) rfl rfl ?_
    refine ni_xP (g := ni_gPush (.int 1) 2404) (ni_ro [a, b, c, d, e, f] (2403, ni_sP (ni_gPush (.int 1) 2404)) (ni_me85_37 [a, b, c, d, e, f] _ (List.mem_of_getElem? (i := 26) rfl))) rfl ?_
    refine ni_xP (g := ni_gI (fun x y => x + y) 2405) (ni_ro [a, b, c, d, e, f] (2404, ni_sP (ni_gI (fun x y => x + y) 2405)) (ni_me85_37 [a, b, c, d, e, f] _ (List.mem_of_getElem? (i := 27) rfl))) rfl ?_
    refine ni_xSld (ni_ro [a, b, c, d, e, f] (2405, ni_sSld [a, b, c, d, e, f] 2406) (ni_me85_37 [a, b, c, d, e, f] _ (List.mem_of_getElem? (i := 28) rfl))) ⟨by decide, rfl⟩ ?_
    refine ni_xLd (ni_ro [a, b, c, d, e, f] (2406, ni_sLd 3 0 2407) (ni_me85_37 [a, b, c, d, e, f] _ (List.mem_of_getElem? (i := 29) rfl))) rfl rfl ?_
    refine ni_xLd (ni_ro [a, b, c, d, e, f] (2407, ni_sLd 0 5 2409) (ni_me85_37 [a, b, c, d, e, f] _ (List.mem_of_getElem? (i := 30) rfl))) rfl rfl ?_
    refine ni_xP (g := ni_gPush (.int 2) 2410) (ni_ro [a, b, c, d, e, f] (2409, ni_sP (ni_gPush (.int 2) 2410)) (ni_me85_37 [a, b, c, d, e, f] _ (List.mem_of_getElem? (i := 31) rfl))) rfl ?_
    refine ni_xP (g := ni_gI (fun x y => x + y) 2411) (ni_ro [a, b, c, d, e, f] (2410, ni_sP (ni_gI (fun x y => x + y) 2411)) (ni_me85_37 [a, b, c, d, e, f] _ (List.mem_of_getElem? (i := 32) rfl))) rfl ?_
    refine ni_xSld (ni_ro [a, b, c, d, e, f] (2411, ni_sSld [a, b, c, d, e, f] 2412) (ni_me85_37 [a, b, c, d, e, f] _ (List.mem_of_getElem? (i := 33) rfl))) ⟨by decide, rfl⟩ ?_
    refine ni_xIf true (ni_ro [a, b, c, d, e, f] (2412, ni_sP (ni_gIf (fun x => decide (x = 0)) 2419 2415)) (ni_me85_37 [a, b, c, d, e, f] _ (List.mem_of_getElem? (i := 34) rfl))) (decide_eq_true hc) ?_
    refine ni_xP (g := ni_gPush (.int 0) 2420) (ni_ro [a, b, c, d, e, f] (2419, ni_sP (ni_gPush (.int 0) 2420)) (ni_me85_37 [a, b, c, d, e, f] _ (List.mem_of_getElem? (i := 37) rfl))) rfl ?_
    refine ni_xLd (ni_ro [a, b, c, d, e, f] (2420, ni_sLd 3 0 2421) (ni_me85_37 [a, b, c, d, e, f] _ (List.mem_of_getElem? (i := 38) rfl))) rfl rfl ?_
    refine ni_xLd (ni_ro [a, b, c, d, e, f] (2421, ni_sLd 0 5 2423) (ni_me85_37 [a, b, c, d, e, f] _ (List.mem_of_getElem? (i := 39) rfl))) rfl rfl ?_
    refine ni_xP (g := ni_gPush (.int 3) 2424) (ni_ro [a, b, c, d, e, f] (2423, ni_sP (ni_gPush (.int 3) 2424)) (ni_me85_37 [a, b, c, d, e, f] _ (List.mem_of_getElem? (i := 40) rfl))) rfl ?_
    refine ni_xP (g := ni_gI (fun x y => x + y) 2425) (ni_ro [a, b, c, d, e, f] (2424, ni_sP (ni_gI (fun x y => x + y) 2425)) (ni_me85_37 [a, b, c, d, e, f] _ (List.mem_of_getElem? (i := 41) rfl))) rfl ?_
    refine ni_xSld (ni_ro [a, b, c, d, e, f] (2425, ni_sSld [a, b, c, d, e, f] 2426) (ni_me85_37 [a, b, c, d, e, f] _ (List.mem_of_getElem? (i := 42) rfl))) ⟨by decide, rfl⟩ ?_
    refine ni_xV (ni_ro [a, b, c, d, e, f] (2426, ni_sV 150 3 18 2429) (ni_me85_37 [a, b, c, d, e, f] _ (List.mem_of_getElem? (i := 43) rfl))) rfl rfl rfl (Nat.le_of_ble_eq_true rfl) (ni_ofO (ni_km150 [a, b, c, d, e, f] _ _ _)) ?_
    refine ni_xSt (ni_ro [a, b, c, d, e, f] (2429, ni_sSt 0 7 2431) (ni_me85_37 [a, b, c, d, e, f] _ (List.mem_of_getElem? (i := 44) rfl))) rfl rfl ?_
    refine ni_xLd (ni_ro [a, b, c, d, e, f] (2431, ni_sLd 3 2 2432) (ni_me85_37 [a, b, c, d, e, f] _ (List.mem_of_getElem? (i := 45) rfl))) rfl rfl ?_
    refine ni_xV (ni_ro [a, b, c, d, e, f] (2432, ni_sV 167 0 18 2435) (ni_me85_37 [a, b, c, d, e, f] _ (List.mem_of_getElem? (i := 46) rfl))) rfl rfl rfl (Nat.le_of_ble_eq_true rfl) (ni_ofO (ni_k167 [a, b, c, d, e, f])) ?_
    refine ni_xLd (ni_ro [a, b, c, d, e, f] (2435, ni_sLd 0 6 2437) (ni_me85_37 [a, b, c, d, e, f] _ (List.mem_of_getElem? (i := 47) rfl))) rfl rfl ?_
    refine ni_xIc true (ni_ro [a, b, c, d, e, f] (2437, ni_sP (ni_gIc (fun x y => decide (x = y)) 2442 2440)) (ni_me85_37 [a, b, c, d, e, f] _ (List.mem_of_getElem? (i := 48) rfl))) rfl ?_
    refine ni_xLd (ni_ro [a, b, c, d, e, f] (2442, ni_sLd 0 6 2444) (ni_me85_37 [a, b, c, d, e, f] _ (List.mem_of_getElem? (i := 49) rfl))) rfl rfl ?_
    refine ni_xIf true (ni_ro [a, b, c, d, e, f] (2444, ni_sP (ni_gIf (fun x => decide (¬ x = 0)) 2459 2447)) (ni_me85_37 [a, b, c, d, e, f] _ (List.mem_of_getElem? (i := 50) rfl))) rfl ?_
    refine ni_xP (g := ni_gGo 3317) (ni_ro [a, b, c, d, e, f] (2459, ni_sP (ni_gGo 3317)) (ni_me85_37 [a, b, c, d, e, f] _ (List.mem_of_getElem? (i := 51) rfl))) rfl ?_
    refine ni_xInc (ni_ro [a, b, c, d, e, f] (3317, ni_sInc 5 (6) 3320) (ni_me85_52 [a, b, c, d, e, f] _ (List.mem_of_getElem? (i := 0) rfl))) rfl rfl ?_
    refine ni_xP (g := ni_gGo 28) (ni_ro [a, b, c, d, e, f] (3320, ni_sP (ni_gGo 28)) (ni_me85_52 [a, b, c, d, e, f] _ (List.mem_of_getElem? (i := 1) rfl))) rfl ?_
    refine ni_xLd (ni_ro [a, b, c, d, e, f] (28, ni_sLd 0 5 30) (ni_me85_1 [a, b, c, d, e, f] _ (List.mem_of_getElem? (i := 0) rfl))) rfl rfl ?_
    refine ni_xLd (ni_ro [a, b, c, d, e, f] (30, ni_sLd 3 0 31) (ni_me85_1 [a, b, c, d, e, f] _ (List.mem_of_getElem? (i := 1) rfl))) rfl rfl ?_
    refine ni_xSln (ni_ro [a, b, c, d, e, f] (31, ni_sSln [a, b, c, d, e, f] 32) (ni_me85_1 [a, b, c, d, e, f] _ (List.mem_of_getElem? (i := 2) rfl))) rfl ?_
    refine ni_xP (g := ni_gPush (.int 6) 34) (ni_ro [a, b, c, d, e, f] (32, ni_sP (ni_gPush (.int 6) 34)) (ni_me85_1 [a, b, c, d, e, f] _ (List.mem_of_getElem? (i := 3) rfl))) rfl ?_
    refine ni_xP (g := ni_gI (fun x y => x - y) 35) (ni_ro [a, b, c, d, e, f] (34, ni_sP (ni_gI (fun x y => x - y) 35)) (ni_me85_1 [a, b, c, d, e, f] _ (List.mem_of_getElem? (i := 4) rfl))) rfl ?_
    refine ni_xIc true (ni_ro [a, b, c, d, e, f] (35, ni_sP (ni_gIc (fun x y => decide (y < x)) 3323 38)) (ni_me85_1 [a, b, c, d, e, f] _ (List.mem_of_getElem? (i := 5) rfl))) (show decide (Int32.ofNat 6 - 6 < 0 + 6) = true from by decide) ?_
    refine ni_xP (g := ni_gPush (.int 1) 3324) (ni_ro [a, b, c, d, e, f] (3323, ni_sP (ni_gPush (.int 1) 3324)) (ni_me85_52 [a, b, c, d, e, f] _ (List.mem_of_getElem? (i := 2) rfl))) rfl ?_
    exact ni_xR (ni_ro [a, b, c, d, e, f] (3324, ni_sR (some .boolean)) (ni_me85_52 [a, b, c, d, e, f] _ (List.mem_of_getElem? (i := 3) rfl))) rfl
  · skip
    refine ni_xLd (ni_ro [a, b, c, d, e, f] (2366, ni_sLd 3 1 2367) (ni_me85_37 [a, b, c, d, e, f] _ (List.mem_of_getElem? (i := 0) rfl))) rfl rfl ?_
    refine ni_xLd (ni_ro [a, b, c, d, e, f] (2367, ni_sLd 3 0 2368) (ni_me85_37 [a, b, c, d, e, f] _ (List.mem_of_getElem? (i := 1) rfl))) rfl rfl ?_
    refine ni_xLd (ni_ro [a, b, c, d, e, f] (2368, ni_sLd 0 5 2370) (ni_me85_37 [a, b, c, d, e, f] _ (List.mem_of_getElem? (i := 2) rfl))) rfl rfl ?_
    refine ni_xP (g := ni_gPush (.int 1) 2371) (ni_ro [a, b, c, d, e, f] (2370, ni_sP (ni_gPush (.int 1) 2371)) (ni_me85_37 [a, b, c, d, e, f] _ (List.mem_of_getElem? (i := 3) rfl))) rfl ?_
    refine ni_xP (g := ni_gI (fun x y => x + y) 2372) (ni_ro [a, b, c, d, e, f] (2371, ni_sP (ni_gI (fun x y => x + y) 2372)) (ni_me85_37 [a, b, c, d, e, f] _ (List.mem_of_getElem? (i := 4) rfl))) rfl ?_
    refine ni_xSld (ni_ro [a, b, c, d, e, f] (2372, ni_sSld [a, b, c, d, e, f] 2373) (ni_me85_37 [a, b, c, d, e, f] _ (List.mem_of_getElem? (i := 5) rfl))) ⟨by decide, rfl⟩ ?_
    refine ni_xLd (ni_ro [a, b, c, d, e, f] (2373, ni_sLd 3 0 2374) (ni_me85_37 [a, b, c, d, e, f] _ (List.mem_of_getElem? (i := 6) rfl))) rfl rfl ?_
    refine ni_xLd (ni_ro [a, b, c, d, e, f] (2374, ni_sLd 0 5 2376) (ni_me85_37 [a, b, c, d, e, f] _ (List.mem_of_getElem? (i := 7) rfl))) rfl rfl ?_
    refine ni_xP (g := ni_gPush (.int 2) 2377) (ni_ro [a, b, c, d, e, f] (2376, ni_sP (ni_gPush (.int 2) 2377)) (ni_me85_37 [a, b, c, d, e, f] _ (List.mem_of_getElem? (i := 8) rfl))) rfl ?_
    refine ni_xP (g := ni_gI (fun x y => x + y) 2378) (ni_ro [a, b, c, d, e, f] (2377, ni_sP (ni_gI (fun x y => x + y) 2378)) (ni_me85_37 [a, b, c, d, e, f] _ (List.mem_of_getElem? (i := 9) rfl))) rfl ?_
    refine ni_xSld (ni_ro [a, b, c, d, e, f] (2378, ni_sSld [a, b, c, d, e, f] 2379) (ni_me85_37 [a, b, c, d, e, f] _ (List.mem_of_getElem? (i := 10) rfl))) ⟨by decide, rfl⟩ ?_
    refine ni_xIf false (ni_ro [a, b, c, d, e, f] (2379, ni_sP (ni_gIf (fun x => decide (x = 0)) 2386 2382)) (ni_me85_37 [a, b, c, d, e, f] _ (List.mem_of_getElem? (i := 11) rfl))) (decide_eq_false hc) ?_
    refine ni_xP (g := ni_gPush (.int 1) 2383) (ni_ro [a, b, c, d, e, f] (2382, ni_sP (ni_gPush (.int 1) 2383)) (ni_me85_37 [a, b, c, d, e, f] _ (List.mem_of_getElem? (i := 12) rfl))) rfl ?_
    refine ni_xP (g := ni_gGo 2387) (ni_ro [a, b, c, d, e, f] (2383, ni_sP (ni_gGo 2387)) (ni_me85_37 [a, b, c, d, e, f] _ (List.mem_of_getElem? (i := 13) rfl))) rfl ?_
    refine ni_xLd (ni_ro [a, b, c, d, e, f] (2387, ni_sLd 3 0 2388) (ni_me85_37 [a, b, c, d, e, f] _ (List.mem_of_getElem? (i := 15) rfl))) rfl rfl ?_
    refine ni_xLd (ni_ro [a, b, c, d, e, f] (2388, ni_sLd 0 5 2390) (ni_me85_37 [a, b, c, d, e, f] _ (List.mem_of_getElem? (i := 16) rfl))) rfl rfl ?_
    refine ni_xP (g := ni_gPush (.int 3) 2391) (ni_ro [a, b, c, d, e, f] (2390, ni_sP (ni_gPush (.int 3) 2391)) (ni_me85_37 [a, b, c, d, e, f] _ (List.mem_of_getElem? (i := 17) rfl))) rfl ?_
    refine ni_xP (g := ni_gI (fun x y => x + y) 2392) (ni_ro [a, b, c, d, e, f] (2391, ni_sP (ni_gI (fun x y => x + y) 2392)) (ni_me85_37 [a, b, c, d, e, f] _ (List.mem_of_getElem? (i := 18) rfl))) rfl ?_
    refine ni_xSld (ni_ro [a, b, c, d, e, f] (2392, ni_sSld [a, b, c, d, e, f] 2393) (ni_me85_37 [a, b, c, d, e, f] _ (List.mem_of_getElem? (i := 19) rfl))) ⟨by decide, rfl⟩ ?_
    refine ni_xLd (ni_ro [a, b, c, d, e, f] (2393, ni_sLd 3 3 2394) (ni_me85_37 [a, b, c, d, e, f] _ (List.mem_of_getElem? (i := 20) rfl))) rfl rfl ?_
    refine ni_xC (ni_ro [a, b, c, d, e, f] (2394, ni_sC 93 5 2397) (ni_me85_37 [a, b, c, d, e, f] _ (List.mem_of_getElem? (i := 21) rfl))) (Nat.le_of_ble_eq_true rfl) rfl rfl (Nat.le_of_ble_eq_true rfl) (ni_ofO (ni_kw93 [a, b, c, d, e, f] _ _ _)) ?_
    refine ni_xSt (ni_ro [a, b, c, d, e, f] (2397, ni_sSt 0 6 2399) (ni_me85_37 [a, b, c, d, e, f] _ (List.mem_of_getElem? (i := 22) rfl))) rfl rfl ?_
    refine ni_xLd (ni_ro [a, b, c, d, e, f] (2399, ni_sLd 3 2 2400) (ni_me85_37 [a, b, c, d, e, f] _ (List.mem_of_getElem? (i := 23) rfl))) rfl rfl ?_
    refine ni_xLd (ni_ro [a, b, c, d, e, f] (2400, ni_sLd 3 0 2401) (ni_me85_37 [a, b, c, d, e, f] _ (List.mem_of_getElem? (i := 24) rfl))) rfl rfl ?_
    refine ni_xLd (ni_ro [a, b, c, d, e, f] (2401, ni_sLd 0 5 2403) (ni_me85_37 [a, b, c, d, e, f] _ (List.mem_of_getElem? (i := 25) rfl))) rfl rfl ?_
    refine ni_xP (g := ni_gPush (.int 1) 2404) (ni_ro [a, b, c, d, e, f] (2403, ni_sP (ni_gPush (.int 1) 2404)) (ni_me85_37 [a, b, c, d, e, f] _ (List.mem_of_getElem? (i := 26) rfl))) rfl ?_
    refine ni_xP (g := ni_gI (fun x y => x + y) 2405) (ni_ro [a, b, c, d, e, f] (2404, ni_sP (ni_gI (fun x y => x + y) 2405)) (ni_me85_37 [a, b, c, d, e, f] _ (List.mem_of_getElem? (i := 27) rfl))) rfl ?_
    refine ni_xSld (ni_ro [a, b, c, d, e, f] (2405, ni_sSld [a, b, c, d, e, f] 2406) (ni_me85_37 [a, b, c, d, e, f] _ (List.mem_of_getElem? (i := 28) rfl))) ⟨by decide, rfl⟩ ?_
    refine ni_xLd (ni_ro [a, b, c, d, e, f] (2406, ni_sLd 3 0 2407) (ni_me85_37 [a, b, c, d, e, f] _ (List.mem_of_getElem? (i := 29) rfl))) rfl rfl ?_
    refine ni_xLd (ni_ro [a, b, c, d, e, f] (2407, ni_sLd 0 5 2409) (ni_me85_37 [a, b, c, d, e, f] _ (List.mem_of_getElem? (i := 30) rfl))) rfl rfl ?_
    refine ni_xP (g := ni_gPush (.int 2) 2410) (ni_ro [a, b, c, d, e, f] (2409, ni_sP (ni_gPush (.int 2) 2410)) (ni_me85_37 [a, b, c, d, e, f] _ (List.mem_of_getElem? (i := 31) rfl))) rfl ?_
    refine ni_xP (g := ni_gI (fun x y => x + y) 2411) (ni_ro [a, b, c, d, e, f] (2410, ni_sP (ni_gI (fun x y => x + y) 2411)) (ni_me85_37 [a, b, c, d, e, f] _ (List.mem_of_getElem? (i := 32) rfl))) rfl ?_
    refine ni_xSld (ni_ro [a, b, c, d, e, f] (2411, ni_sSld [a, b, c, d, e, f] 2412) (ni_me85_37 [a, b, c, d, e, f] _ (List.mem_of_getElem? (i := 33) rfl))) ⟨by decide, rfl⟩ ?_
    refine ni_xIf false (ni_ro [a, b, c, d, e, f] (2412, ni_sP (ni_gIf (fun x => decide (x = 0)) 2419 2415)) (ni_me85_37 [a, b, c, d, e, f] _ (List.mem_of_getElem? (i := 34) rfl))) (decide_eq_false hc) ?_
    refine ni_xP (g := ni_gPush (.int 1) 2416) (ni_ro [a, b, c, d, e, f] (2415, ni_sP (ni_gPush (.int 1) 2416)) (ni_me85_37 [a, b, c, d, e, f] _ (List.mem_of_getElem? (i := 35) rfl))) rfl ?_
    refine ni_xP (g := ni_gGo 2420) (ni_ro [a, b, c, d, e, f] (2416, ni_sP (ni_gGo 2420)) (ni_me85_37 [a, b, c, d, e, f] _ (List.mem_of_getElem? (i := 36) rfl))) rfl ?_
    refine ni_xLd (ni_ro [a, b, c, d, e, f] (2420, ni_sLd 3 0 2421) (ni_me85_37 [a, b, c, d, e, f] _ (List.mem_of_getElem? (i := 38) rfl))) rfl rfl ?_
    refine ni_xLd (ni_ro [a, b, c, d, e, f] (2421, ni_sLd 0 5 2423) (ni_me85_37 [a, b, c, d, e, f] _ (List.mem_of_getElem? (i := 39) rfl))) rfl rfl ?_
    refine ni_xP (g := ni_gPush (.int 3) 2424) (ni_ro [a, b, c, d, e, f] (2423, ni_sP (ni_gPush (.int 3) 2424)) (ni_me85_37 [a, b, c, d, e, f] _ (List.mem_of_getElem? (i := 40) rfl))) rfl ?_
    refine ni_xP (g := ni_gI (fun x y => x + y) 2425) (ni_ro [a, b, c, d, e, f] (2424, ni_sP (ni_gI (fun x y => x + y) 2425)) (ni_me85_37 [a, b, c, d, e, f] _ (List.mem_of_getElem? (i := 41) rfl))) rfl ?_
    refine ni_xSld (ni_ro [a, b, c, d, e, f] (2425, ni_sSld [a, b, c, d, e, f] 2426) (ni_me85_37 [a, b, c, d, e, f] _ (List.mem_of_getElem? (i := 42) rfl))) ⟨by decide, rfl⟩ ?_
    refine ni_xV (ni_ro [a, b, c, d, e, f] (2426, ni_sV 150 3 18 2429) (ni_me85_37 [a, b, c, d, e, f] _ (List.mem_of_getElem? (i := 43) rfl))) rfl rfl rfl (Nat.le_of_ble_eq_true rfl) (ni_ofO (ni_km150 [a, b, c, d, e, f] _ _ _)) ?_
    refine ni_xSt (ni_ro [a, b, c, d, e, f] (2429, ni_sSt 0 7 2431) (ni_me85_37 [a, b, c, d, e, f] _ (List.mem_of_getElem? (i := 44) rfl))) rfl rfl ?_
    refine ni_xLd (ni_ro [a, b, c, d, e, f] (2431, ni_sLd 3 2 2432) (ni_me85_37 [a, b, c, d, e, f] _ (List.mem_of_getElem? (i := 45) rfl))) rfl rfl ?_
    refine ni_xV (ni_ro [a, b, c, d, e, f] (2432, ni_sV 167 0 18 2435) (ni_me85_37 [a, b, c, d, e, f] _ (List.mem_of_getElem? (i := 46) rfl))) rfl rfl rfl (Nat.le_of_ble_eq_true rfl) (ni_ofO (ni_k167 [a, b, c, d, e, f])) ?_
    refine ni_xLd (ni_ro [a, b, c, d, e, f] (2435, ni_sLd 0 6 2437) (ni_me85_37 [a, b, c, d, e, f] _ (List.mem_of_getElem? (i := 47) rfl))) rfl rfl ?_
    refine ni_xIc true (ni_ro [a, b, c, d, e, f] (2437, ni_sP (ni_gIc (fun x y => decide (x = y)) 2442 2440)) (ni_me85_37 [a, b, c, d, e, f] _ (List.mem_of_getElem? (i := 48) rfl))) rfl ?_
    refine ni_xLd (ni_ro [a, b, c, d, e, f] (2442, ni_sLd 0 6 2444) (ni_me85_37 [a, b, c, d, e, f] _ (List.mem_of_getElem? (i := 49) rfl))) rfl rfl ?_
    refine ni_xIf true (ni_ro [a, b, c, d, e, f] (2444, ni_sP (ni_gIf (fun x => decide (¬ x = 0)) 2459 2447)) (ni_me85_37 [a, b, c, d, e, f] _ (List.mem_of_getElem? (i := 50) rfl))) rfl ?_
    refine ni_xP (g := ni_gGo 3317) (ni_ro [a, b, c, d, e, f] (2459, ni_sP (ni_gGo 3317)) (ni_me85_37 [a, b, c, d, e, f] _ (List.mem_of_getElem? (i := 51) rfl))) rfl ?_
    refine ni_xInc (ni_ro [a, b, c, d, e, f] (3317, ni_sInc 5 (6) 3320) (ni_me85_52 [a, b, c, d, e, f] _ (List.mem_of_getElem? (i := 0) rfl))) rfl rfl ?_
    refine ni_xP (g := ni_gGo 28) (ni_ro [a, b, c, d, e, f] (3320, ni_sP (ni_gGo 28)) (ni_me85_52 [a, b, c, d, e, f] _ (List.mem_of_getElem? (i := 1) rfl))) rfl ?_
    refine ni_xLd (ni_ro [a, b, c, d, e, f] (28, ni_sLd 0 5 30) (ni_me85_1 [a, b, c, d, e, f] _ (List.mem_of_getElem? (i := 0) rfl))) rfl rfl ?_
    refine ni_xLd (ni_ro [a, b, c, d, e, f] (30, ni_sLd 3 0 31) (ni_me85_1 [a, b, c, d, e, f] _ (List.mem_of_getElem? (i := 1) rfl))) rfl rfl ?_
    refine ni_xSln (ni_ro [a, b, c, d, e, f] (31, ni_sSln [a, b, c, d, e, f] 32) (ni_me85_1 [a, b, c, d, e, f] _ (List.mem_of_getElem? (i := 2) rfl))) rfl ?_
    refine ni_xP (g := ni_gPush (.int 6) 34) (ni_ro [a, b, c, d, e, f] (32, ni_sP (ni_gPush (.int 6) 34)) (ni_me85_1 [a, b, c, d, e, f] _ (List.mem_of_getElem? (i := 3) rfl))) rfl ?_
    refine ni_xP (g := ni_gI (fun x y => x - y) 35) (ni_ro [a, b, c, d, e, f] (34, ni_sP (ni_gI (fun x y => x - y) 35)) (ni_me85_1 [a, b, c, d, e, f] _ (List.mem_of_getElem? (i := 4) rfl))) rfl ?_
    refine ni_xIc true (ni_ro [a, b, c, d, e, f] (35, ni_sP (ni_gIc (fun x y => decide (y < x)) 3323 38)) (ni_me85_1 [a, b, c, d, e, f] _ (List.mem_of_getElem? (i := 5) rfl))) (show decide (Int32.ofNat 6 - 6 < 0 + 6) = true from by decide) ?_
    refine ni_xP (g := ni_gPush (.int 1) 3324) (ni_ro [a, b, c, d, e, f] (3323, ni_sP (ni_gPush (.int 1) 3324)) (ni_me85_52 [a, b, c, d, e, f] _ (List.mem_of_getElem? (i := 2) rfl))) rfl ?_
    exact ni_xR (ni_ro [a, b, c, d, e, f] (3324, ni_sR (some .boolean)) (ni_me85_52 [a, b, c, d, e, f] _ (List.mem_of_getElem? (i := 3) rfl))) rfl
theorem ni_ca36 (a b c d e f : Int32) : ni_G [a, b, c, d, e, f] 9 85 2462 ni_ls0 [] (ni_P0, 0) (.inl (some (.int 1)), (ni_P1, 1)) := by
  by_cases hc : c = 0
  · skip
    refine ni_xLd (ni_ro [a, b, c, d, e, f] (2462, ni_sLd 3 1 2463) (ni_me85_38 [a, b, c, d, e, f] _ (List.mem_of_getElem? (i := 0) rfl))) rfl rfl ?_
    refine ni_xLd (ni_ro [a, b, c, d, e, f] (2463, ni_sLd 3 0 2464) (ni_me85_38 [a, b, c, d, e, f] _ (List.mem_of_getElem? (i := 1) rfl))) rfl rfl ?_
    refine ni_xLd (ni_ro [a, b, c, d, e, f] (2464, ni_sLd 0 5 2466) (ni_me85_38 [a, b, c, d, e, f] _ (List.mem_of_getElem? (i := 2) rfl))) rfl rfl ?_
    refine ni_xP (g := ni_gPush (.int 1) 2467) (ni_ro [a, b, c, d, e, f] (2466, ni_sP (ni_gPush (.int 1) 2467)) (ni_me85_38 [a, b, c, d, e, f] _ (List.mem_of_getElem? (i := 3) rfl))) rfl ?_
    refine ni_xP (g := ni_gI (fun x y => x + y) 2468) (ni_ro [a, b, c, d, e, f] (2467, ni_sP (ni_gI (fun x y => x + y) 2468)) (ni_me85_38 [a, b, c, d, e, f] _ (List.mem_of_getElem? (i := 4) rfl))) rfl ?_
    refine ni_xSld (ni_ro [a, b, c, d, e, f] (2468, ni_sSld [a, b, c, d, e, f] 2469) (ni_me85_38 [a, b, c, d, e, f] _ (List.mem_of_getElem? (i := 5) rfl))) ⟨by decide, rfl⟩ ?_
    refine ni_xLd (ni_ro [a, b, c, d, e, f] (2469, ni_sLd 3 0 2470) (ni_me85_38 [a, b, c, d, e, f] _ (List.mem_of_getElem? (i := 6) rfl))) rfl rfl ?_
    refine ni_xLd (ni_ro [a, b, c, d, e, f] (2470, ni_sLd 0 5 2472) (ni_me85_38 [a, b, c, d, e, f] _ (List.mem_of_getElem? (i := 7) rfl))) rfl rfl ?_
    refine ni_xP (g := ni_gPush (.int 2) 2473) (ni_ro [a, b, c, d, e, f] (2472, ni_sP (ni_gPush (.int 2) 2473)) (ni_me85_38 [a, b, c, d, e, f] _ (List.mem_of_getElem? (i := 8) rfl))) rfl ?_
    refine ni_xP (g := ni_gI (fun x y => x + y) 2474) (ni_ro [a, b, c, d, e, f] (2473, ni_sP (ni_gI (fun x y => x + y) 2474)) (ni_me85_38 [a, b, c, d, e, f] _ (List.mem_of_getElem? (i := 9) rfl))) rfl ?_
    refine ni_xSld (ni_ro [a, b, c, d, e, f] (2474, ni_sSld [a, b, c, d, e, f] 2475) (ni_me85_38 [a, b, c, d, e, f] _ (List.mem_of_getElem? (i := 10) rfl))) ⟨by decide, rfl⟩ ?_
    refine ni_xIf true (ni_ro [a, b, c, d, e, f] (2475, ni_sP (ni_gIf (fun x => decide (x = 0)) 2482 2478)) (ni_me85_38 [a, b, c, d, e, f] _ (List.mem_of_getElem? (i := 11) rfl))) (decide_eq_true hc) ?_
    refine ni_xP (g := ni_gPush (.int 0) 2483) (ni_ro [a, b, c, d, e, f] (2482, ni_sP (ni_gPush (.int 0) 2483)) (ni_me85_38 [a, b, c, d, e, f] _ (List.mem_of_getElem? (i := 14) rfl))) rfl ?_
    refine ni_xLd (ni_ro [a, b, c, d, e, f] (2483, ni_sLd 3 3 2484) (ni_me85_38 [a, b, c, d, e, f] _ (List.mem_of_getElem? (i := 15) rfl))) rfl rfl ?_
    refine ni_xC (ni_ro [a, b, c, d, e, f] (2484, ni_sC 96 4 2487) (ni_me85_38 [a, b, c, d, e, f] _ (List.mem_of_getElem? (i := 16) rfl))) (Nat.le_of_ble_eq_true rfl) rfl rfl (Nat.le_of_ble_eq_true rfl) (ni_ofO (ni_kw96 [a, b, c, d, e, f] _ _)) ?_
    refine ni_xSt (ni_ro [a, b, c, d, e, f] (2487, ni_sSt 0 6 2489) (ni_me85_38 [a, b, c, d, e, f] _ (List.mem_of_getElem? (i := 17) rfl))) rfl rfl ?_
    refine ni_xLd (ni_ro [a, b, c, d, e, f] (2489, ni_sLd 3 2 2490) (ni_me85_38 [a, b, c, d, e, f] _ (List.mem_of_getElem? (i := 18) rfl))) rfl rfl ?_
    refine ni_xLd (ni_ro [a, b, c, d, e, f] (2490, ni_sLd 3 0 2491) (ni_me85_38 [a, b, c, d, e, f] _ (List.mem_of_getElem? (i := 19) rfl))) rfl rfl ?_
    refine ni_xLd (ni_ro [a, b, c, d, e, f] (2491, ni_sLd 0 5 2493) (ni_me85_38 [a, b, c, d, e, f] _ (List.mem_of_getElem? (i := 20) rfl))) rfl rfl ?_
    refine ni_xP (g := ni_gPush (.int 1) 2494) (ni_ro [a, b, c, d, e, f] (2493, ni_sP (ni_gPush (.int 1) 2494)) (ni_me85_38 [a, b, c, d, e, f] _ (List.mem_of_getElem? (i := 21) rfl))) rfl ?_
    refine ni_xP (g := ni_gI (fun x y => x + y) 2495) (ni_ro [a, b, c, d, e, f] (2494, ni_sP (ni_gI (fun x y => x + y) 2495)) (ni_me85_38 [a, b, c, d, e, f] _ (List.mem_of_getElem? (i := 22) rfl))) rfl ?_
    refine ni_xSld (ni_ro [a, b, c, d, e, f] (2495, ni_sSld [a, b, c, d, e, f] 2496) (ni_me85_38 [a, b, c, d, e, f] _ (List.mem_of_getElem? (i := 23) rfl))) ⟨by decide, rfl⟩ ?_
    refine ni_xLd (ni_ro [a, b, c, d, e, f] (2496, ni_sLd 3 0 2497) (ni_me85_38 [a, b, c, d, e, f] _ (List.mem_of_getElem? (i := 24) rfl))) rfl rfl ?_
    refine ni_xLd (ni_ro [a, b, c, d, e, f] (2497, ni_sLd 0 5 2499) (ni_me85_38 [a, b, c, d, e, f] _ (List.mem_of_getElem? (i := 25) rfl))) rfl rfl ?_
    refine ni_xP (g := ni_gPush (.int 2) 2500) (ni_ro [a, b, c, d, e, f] (2499, ni_sP (ni_gPush (.int 2) 2500)) (ni_me85_38 [a, b, c, d, e, f] _ (List.mem_of_getElem? (i := 26) rfl))) rfl ?_
    refine ni_xP (g := ni_gI (fun x y => x + y) 2501) (ni_ro [a, b, c, d, e, f] (2500, ni_sP (ni_gI (fun x y => x + y) 2501)) (ni_me85_38 [a, b, c, d, e, f] _ (List.mem_of_getElem? (i := 27) rfl))) rfl ?_
    refine ni_xSld (ni_ro [a, b, c, d, e, f] (2501, ni_sSld [a, b, c, d, e, f] 2502) (ni_me85_38 [a, b, c, d, e, f] _ (List.mem_of_getElem? (i := 28) rfl))) ⟨by decide, rfl⟩ ?_
    refine ni_xIf true (ni_ro [a, b, c, d, e, f] (2502, ni_sP (ni_gIf (fun x => decide (x = 0)) 2509 2505)) (ni_me85_38 [a, b, c, d, e, f] _ (List.mem_of_getElem? (i := 29) rfl))) (decide_eq_true hc) ?_
    refine ni_xP (g := ni_gPush (.int 0) 2510) (ni_ro [a, b, c, d, e, f] (2509, ni_sP (ni_gPush (.int 0) 2510)) (ni_me85_38 [a, b, c, d, e, f] _ (List.mem_of_getElem? (i := 32) rfl))) rfl ?_
    refine ni_xV (ni_ro [a, b, c, d, e, f] (2510, ni_sV 155 2 18 2513) (ni_me85_38 [a, b, c, d, e, f] _ (List.mem_of_getElem? (i := 33) rfl))) rfl rfl rfl (Nat.le_of_ble_eq_true rfl) (ni_ofO (ni_km155 [a, b, c, d, e, f] _ _)) ?_
    refine ni_xSt (ni_ro [a, b, c, d, e, f] (2513, ni_sSt 0 7 2515) (ni_me85_38 [a, b, c, d, e, f] _ (List.mem_of_getElem? (i := 34) rfl))) rfl rfl ?_
    refine ni_xLd (ni_ro [a, b, c, d, e, f] (2515, ni_sLd 3 2 2516) (ni_me85_38 [a, b, c, d, e, f] _ (List.mem_of_getElem? (i := 35) rfl))) rfl rfl ?_
    refine ni_xV (ni_ro [a, b, c, d, e, f] (2516, ni_sV 167 0 18 2519) (ni_me85_38 [a, b, c, d, e, f] _ (List.mem_of_getElem? (i := 36) rfl))) rfl rfl rfl (Nat.le_of_ble_eq_true rfl) (ni_ofO (ni_k167 [a, b, c, d, e, f])) ?_
    refine ni_xLd (ni_ro [a, b, c, d, e, f] (2519, ni_sLd 0 6 2521) (ni_me85_38 [a, b, c, d, e, f] _ (List.mem_of_getElem? (i := 37) rfl))) rfl rfl ?_
    refine ni_xIc true (ni_ro [a, b, c, d, e, f] (2521, ni_sP (ni_gIc (fun x y => decide (x = y)) 2526 2524)) (ni_me85_38 [a, b, c, d, e, f] _ (List.mem_of_getElem? (i := 38) rfl))) rfl ?_
    refine ni_xLd (ni_ro [a, b, c, d, e, f] (2526, ni_sLd 0 6 2528) (ni_me85_38 [a, b, c, d, e, f] _ (List.mem_of_getElem? (i := 39) rfl))) rfl rfl ?_
    refine ni_xIf true (ni_ro [a, b, c, d, e, f] (2528, ni_sP (ni_gIf (fun x => decide (¬ x = 0)) 2543 2531)) (ni_me85_38 [a, b, c, d, e, f] _ (List.mem_of_getElem? (i := 40) rfl))) rfl ?_
    refine ni_xP (g := ni_gGo 3317) (ni_ro [a, b, c, d, e, f] (2543, ni_sP (ni_gGo 3317)) (ni_me85_38 [a, b, c, d, e, f] _ (List.mem_of_getElem? (i := 41) rfl))) rfl ?_
    refine ni_xInc (ni_ro [a, b, c, d, e, f] (3317, ni_sInc 5 (6) 3320) (ni_me85_52 [a, b, c, d, e, f] _ (List.mem_of_getElem? (i := 0) rfl))) rfl rfl ?_
    refine ni_xP (g := ni_gGo 28) (ni_ro [a, b, c, d, e, f] (3320, ni_sP (ni_gGo 28)) (ni_me85_52 [a, b, c, d, e, f] _ (List.mem_of_getElem? (i := 1) rfl))) rfl ?_
    refine ni_xLd (ni_ro [a, b, c, d, e, f] (28, ni_sLd 0 5 30) (ni_me85_1 [a, b, c, d, e, f] _ (List.mem_of_getElem? (i := 0) rfl))) rfl rfl ?_
    refine ni_xLd (ni_ro [a, b, c, d, e, f] (30, ni_sLd 3 0 31) (ni_me85_1 [a, b, c, d, e, f] _ (List.mem_of_getElem? (i := 1) rfl))) rfl rfl ?_
    refine ni_xSln (ni_ro [a, b, c, d, e, f] (31, ni_sSln [a, b, c, d, e, f] 32) (ni_me85_1 [a, b, c, d, e, f] _ (List.mem_of_getElem? (i := 2) rfl))) rfl ?_
    refine ni_xP (g := ni_gPush (.int 6) 34) (ni_ro [a, b, c, d, e, f] (32, ni_sP (ni_gPush (.int 6) 34)) (ni_me85_1 [a, b, c, d, e, f] _ (List.mem_of_getElem? (i := 3) rfl))) rfl ?_
    refine ni_xP (g := ni_gI (fun x y => x - y) 35) (ni_ro [a, b, c, d, e, f] (34, ni_sP (ni_gI (fun x y => x - y) 35)) (ni_me85_1 [a, b, c, d, e, f] _ (List.mem_of_getElem? (i := 4) rfl))) rfl ?_
    refine ni_xIc true (ni_ro [a, b, c, d, e, f] (35, ni_sP (ni_gIc (fun x y => decide (y < x)) 3323 38)) (ni_me85_1 [a, b, c, d, e, f] _ (List.mem_of_getElem? (i := 5) rfl))) (show decide (Int32.ofNat 6 - 6 < 0 + 6) = true from by decide) ?_
    refine ni_xP (g := ni_gPush (.int 1) 3324) (ni_ro [a, b, c, d, e, f] (3323, ni_sP (ni_gPush (.int 1) 3324)) (ni_me85_52 [a, b, c, d, e, f] _ (List.mem_of_getElem? (i := 2) rfl))) rfl ?_
    exact ni_xR (ni_ro [a, b, c, d, e, f] (3324, ni_sR (some .boolean)) (ni_me85_52 [a, b, c, d, e, f] _ (List.mem_of_getElem? (i := 3) rfl))) rfl
  · skip
    refine ni_xLd (ni_ro [a, b, c, d, e, f] (2462, ni_sLd 3 1 2463) (ni_me85_38 [a, b, c, d, e, f] _ (List.mem_of_getElem? (i := 0) rfl))) rfl rfl ?_
    refine ni_xLd (ni_ro [a, b, c, d, e, f] (2463, ni_sLd 3 0 2464) (ni_me85_38 [a, b, c, d, e, f] _ (List.mem_of_getElem? (i := 1) rfl))) rfl rfl ?_
    refine ni_xLd (ni_ro [a, b, c, d, e, f] (2464, ni_sLd 0 5 2466) (ni_me85_38 [a, b, c, d, e, f] _ (List.mem_of_getElem? (i := 2) rfl))) rfl rfl ?_
    refine ni_xP (g := ni_gPush (.int 1) 2467) (ni_ro [a, b, c, d, e, f] (2466, ni_sP (ni_gPush (.int 1) 2467)) (ni_me85_38 [a, b, c, d, e, f] _ (List.mem_of_getElem? (i := 3) rfl))) rfl ?_
    refine ni_xP (g := ni_gI (fun x y => x + y) 2468) (ni_ro [a, b, c, d, e, f] (2467, ni_sP (ni_gI (fun x y => x + y) 2468)) (ni_me85_38 [a, b, c, d, e, f] _ (List.mem_of_getElem? (i := 4) rfl))) rfl ?_
    refine ni_xSld (ni_ro [a, b, c, d, e, f] (2468, ni_sSld [a, b, c, d, e, f] 2469) (ni_me85_38 [a, b, c, d, e, f] _ (List.mem_of_getElem? (i := 5) rfl))) ⟨by decide, rfl⟩ ?_
    refine ni_xLd (ni_ro [a, b, c, d, e, f] (2469, ni_sLd 3 0 2470) (ni_me85_38 [a, b, c, d, e, f] _ (List.mem_of_getElem? (i := 6) rfl))) rfl rfl ?_
    refine ni_xLd (ni_ro [a, b, c, d, e, f] (2470, ni_sLd 0 5 2472) (ni_me85_38 [a, b, c, d, e, f] _ (List.mem_of_getElem? (i := 7) rfl))) rfl rfl ?_
    refine ni_xP (g := ni_gPush (.int 2) 2473) (ni_ro [a, b, c, d, e, f] (2472, ni_sP (ni_gPush (.int 2) 2473)) (ni_me85_38 [a, b, c, d, e, f] _ (List.mem_of_getElem? (i := 8) rfl))) rfl ?_
    refine ni_xP (g := ni_gI (fun x y => x + y) 2474) (ni_ro [a, b, c, d, e, f] (2473, ni_sP (ni_gI (fun x y => x + y) 2474)) (ni_me85_38 [a, b, c, d, e, f] _ (List.mem_of_getElem? (i := 9) rfl))) rfl ?_
    refine ni_xSld (ni_ro [a, b, c, d, e, f] (2474, ni_sSld [a, b, c, d, e, f] 2475) (ni_me85_38 [a, b, c, d, e, f] _ (List.mem_of_getElem? (i := 10) rfl))) ⟨by decide, rfl⟩ ?_
    refine ni_xIf false (ni_ro [a, b, c, d, e, f] (2475, ni_sP (ni_gIf (fun x => decide (x = 0)) 2482 2478)) (ni_me85_38 [a, b, c, d, e, f] _ (List.mem_of_getElem? (i := 11) rfl))) (decide_eq_false hc) ?_
    refine ni_xP (g := ni_gPush (.int 1) 2479) (ni_ro [a, b, c, d, e, f] (2478, ni_sP (ni_gPush (.int 1) 2479)) (ni_me85_38 [a, b, c, d, e, f] _ (List.mem_of_getElem? (i := 12) rfl))) rfl ?_
    refine ni_xP (g := ni_gGo 2483) (ni_ro [a, b, c, d, e, f] (2479, ni_sP (ni_gGo 2483)) (ni_me85_38 [a, b, c, d, e, f] _ (List.mem_of_getElem? (i := 13) rfl))) rfl ?_
    refine ni_xLd (ni_ro [a, b, c, d, e, f] (2483, ni_sLd 3 3 2484) (ni_me85_38 [a, b, c, d, e, f] _ (List.mem_of_getElem? (i := 15) rfl))) rfl rfl ?_
    refine ni_xC (ni_ro [a, b, c, d, e, f] (2484, ni_sC 96 4 2487) (ni_me85_38 [a, b, c, d, e, f] _ (List.mem_of_getElem? (i := 16) rfl))) (Nat.le_of_ble_eq_true rfl) rfl rfl (Nat.le_of_ble_eq_true rfl) (ni_ofO (ni_kw96 [a, b, c, d, e, f] _ _)) ?_
    refine ni_xSt (ni_ro [a, b, c, d, e, f] (2487, ni_sSt 0 6 2489) (ni_me85_38 [a, b, c, d, e, f] _ (List.mem_of_getElem? (i := 17) rfl))) rfl rfl ?_
    refine ni_xLd (ni_ro [a, b, c, d, e, f] (2489, ni_sLd 3 2 2490) (ni_me85_38 [a, b, c, d, e, f] _ (List.mem_of_getElem? (i := 18) rfl))) rfl rfl ?_
    refine ni_xLd (ni_ro [a, b, c, d, e, f] (2490, ni_sLd 3 0 2491) (ni_me85_38 [a, b, c, d, e, f] _ (List.mem_of_getElem? (i := 19) rfl))) rfl rfl ?_
    refine ni_xLd (ni_ro [a, b, c, d, e, f] (2491, ni_sLd 0 5 2493) (ni_me85_38 [a, b, c, d, e, f] _ (List.mem_of_getElem? (i := 20) rfl))) rfl rfl ?_
    refine ni_xP (g := ni_gPush (.int 1) 2494) (ni_ro [a, b, c, d, e, f] (2493, ni_sP (ni_gPush (.int 1) 2494)) (ni_me85_38 [a, b, c, d, e, f] _ (List.mem_of_getElem? (i := 21) rfl))) rfl ?_
    refine ni_xP (g := ni_gI (fun x y => x + y) 2495) (ni_ro [a, b, c, d, e, f] (2494, ni_sP (ni_gI (fun x y => x + y) 2495)) (ni_me85_38 [a, b, c, d, e, f] _ (List.mem_of_getElem? (i := 22) rfl))) rfl ?_
    refine ni_xSld (ni_ro [a, b, c, d, e, f] (2495, ni_sSld [a, b, c, d, e, f] 2496) (ni_me85_38 [a, b, c, d, e, f] _ (List.mem_of_getElem? (i := 23) rfl))) ⟨by decide, rfl⟩ ?_
    refine ni_xLd (ni_ro [a, b, c, d, e, f] (2496, ni_sLd 3 0 2497) (ni_me85_38 [a, b, c, d, e, f] _ (List.mem_of_getElem? (i := 24) rfl))) rfl rfl ?_
    refine ni_xLd (ni_ro [a, b, c, d, e, f] (2497, ni_sLd 0 5 2499) (ni_me85_38 [a, b, c, d, e, f] _ (List.mem_of_getElem? (i := 25) rfl))) rfl rfl ?_
    refine ni_xP (g := ni_gPush (.int 2) 2500) (ni_ro [a, b, c, d, e, f] (2499, ni_sP (ni_gPush (.int 2) 2500)) (ni_me85_38 [a, b, c, d, e, f] _ (List.mem_of_getElem? (i := 26) rfl))) rfl ?_
    refine ni_xP (g := ni_gI (fun x y => x + y) 2501) (ni_ro [a, b, c, d, e, f] (2500, ni_sP (ni_gI (fun x y => x + y) 2501)) (ni_me85_38 [a, b, c, d, e, f] _ (List.mem_of_getElem? (i := 27) rfl))) rfl ?_
    refine ni_xSld (ni_ro [a, b, c, d, e, f] (2501, ni_sSld [a, b, c, d, e, f] 2502) (ni_me85_38 [a, b, c, d, e, f] _ (List.mem_of_getElem? (i := 28) rfl))) ⟨by decide, rfl⟩ ?_
    refine ni_xIf false (ni_ro [a, b, c, d, e, f] (2502, ni_sP (ni_gIf (fun x => decide (x = 0)) 2509 2505)) (ni_me85_38 [a, b, c, d, e, f] _ (List.mem_of_getElem? (i := 29) rfl))) (decide_eq_false hc) ?_
    refine ni_xP (g := ni_gPush (.int 1) 2506) (ni_ro [a, b, c, d, e, f] (2505, ni_sP (ni_gPush (.int 1) 2506)) (ni_me85_38 [a, b, c, d, e, f] _ (List.mem_of_getElem? (i := 30) rfl))) rfl ?_
    refine ni_xP (g := ni_gGo 2510) (ni_ro [a, b, c, d, e, f] (2506, ni_sP (ni_gGo 2510)) (ni_me85_38 [a, b, c, d, e, f] _ (List.mem_of_getElem? (i := 31) rfl))) rfl ?_
    refine ni_xV (ni_ro [a, b, c, d, e, f] (2510, ni_sV 155 2 18 2513) (ni_me85_38 [a, b, c, d, e, f] _ (List.mem_of_getElem? (i := 33) rfl))) rfl rfl rfl (Nat.le_of_ble_eq_true rfl) (ni_ofO (ni_km155 [a, b, c, d, e, f] _ _)) ?_
    refine ni_xSt (ni_ro [a, b, c, d, e, f] (2513, ni_sSt 0 7 2515) (ni_me85_38 [a, b, c, d, e, f] _ (List.mem_of_getElem? (i := 34) rfl))) rfl rfl ?_
    refine ni_xLd (ni_ro [a, b, c, d, e, f] (2515, ni_sLd 3 2 2516) (ni_me85_38 [a, b, c, d, e, f] _ (List.mem_of_getElem? (i := 35) rfl))) rfl rfl ?_
    refine ni_xV (ni_ro [a, b, c, d, e, f] (2516, ni_sV 167 0 18 2519) (ni_me85_38 [a, b, c, d, e, f] _ (List.mem_of_getElem? (i := 36) rfl))) rfl rfl rfl (Nat.le_of_ble_eq_true rfl) (ni_ofO (ni_k167 [a, b, c, d, e, f])) ?_
    refine ni_xLd (ni_ro [a, b, c, d, e, f] (2519, ni_sLd 0 6 2521) (ni_me85_38 [a, b, c, d, e, f] _ (List.mem_of_getElem? (i := 37) rfl))) rfl rfl ?_
    refine ni_xIc true (ni_ro [a, b, c, d, e, f] (2521, ni_sP (ni_gIc (fun x y => decide (x = y)) 2526 2524)) (ni_me85_38 [a, b, c, d, e, f] _ (List.mem_of_getElem? (i := 38) rfl))) rfl ?_
    refine ni_xLd (ni_ro [a, b, c, d, e, f] (2526, ni_sLd 0 6 2528) (ni_me85_38 [a, b, c, d, e, f] _ (List.mem_of_getElem? (i := 39) rfl))) rfl rfl ?_
    refine ni_xIf true (ni_ro [a, b, c, d, e, f] (2528, ni_sP (ni_gIf (fun x => decide (¬ x = 0)) 2543 2531)) (ni_me85_38 [a, b, c, d, e, f] _ (List.mem_of_getElem? (i := 40) rfl))) rfl ?_
    refine ni_xP (g := ni_gGo 3317) (ni_ro [a, b, c, d, e, f] (2543, ni_sP (ni_gGo 3317)) (ni_me85_38 [a, b, c, d, e, f] _ (List.mem_of_getElem? (i := 41) rfl))) rfl ?_
    refine ni_xInc (ni_ro [a, b, c, d, e, f] (3317, ni_sInc 5 (6) 3320) (ni_me85_52 [a, b, c, d, e, f] _ (List.mem_of_getElem? (i := 0) rfl))) rfl rfl ?_
    refine ni_xP (g := ni_gGo 28) (ni_ro [a, b, c, d, e, f] (3320, ni_sP (ni_gGo 28)) (ni_me85_52 [a, b, c, d, e, f] _ (List.mem_of_getElem? (i := 1) rfl))) rfl ?_
    refine ni_xLd (ni_ro [a, b, c, d, e, f] (28, ni_sLd 0 5 30) (ni_me85_1 [a, b, c, d, e, f] _ (List.mem_of_getElem? (i := 0) rfl))) rfl rfl ?_
    refine ni_xLd (ni_ro [a, b, c, d, e, f] (30, ni_sLd 3 0 31) (ni_me85_1 [a, b, c, d, e, f] _ (List.mem_of_getElem? (i := 1) rfl))) rfl rfl ?_
    refine ni_xSln (ni_ro [a, b, c, d, e, f] (31, ni_sSln [a, b, c, d, e, f] 32) (ni_me85_1 [a, b, c, d, e, f] _ (List.mem_of_getElem? (i := 2) rfl))) rfl ?_
    refine ni_xP (g := ni_gPush (.int 6) 34) (ni_ro [a, b, c, d, e, f] (32, ni_sP (ni_gPush (.int 6) 34)) (ni_me85_1 [a, b, c, d, e, f] _ (List.mem_of_getElem? (i := 3) rfl))) rfl ?_
    refine ni_xP (g := ni_gI (fun x y => x - y) 35) (ni_ro [a, b, c, d, e, f] (34, ni_sP (ni_gI (fun x y => x - y) 35)) (ni_me85_1 [a, b, c, d, e, f] _ (List.mem_of_getElem? (i := 4) rfl))) rfl ?_
    refine ni_xIc true (ni_ro [a, b, c, d, e, f] (35, ni_sP (ni_gIc (fun x y => decide (y < x)) 3323 38)) (ni_me85_1 [a, b, c, d, e, f] _ (List.mem_of_getElem? (i := 5) rfl))) (show decide (Int32.ofNat 6 - 6 < 0 + 6) = true from by decide) ?_
    refine ni_xP (g := ni_gPush (.int 1) 3324) (ni_ro [a, b, c, d, e, f] (3323, ni_sP (ni_gPush (.int 1) 3324)) (ni_me85_52 [a, b, c, d, e, f] _ (List.mem_of_getElem? (i := 2) rfl))) rfl ?_
    exact ni_xR (ni_ro [a, b, c, d, e, f] (3324, ni_sR (some .boolean)) (ni_me85_52 [a, b, c, d, e, f] _ (List.mem_of_getElem? (i := 3) rfl))) rfl
theorem ni_ca37 (a b c d e f : Int32) : ni_G [a, b, c, d, e, f] 9 85 2546 ni_ls0 [] (ni_P0, 0) (.inl (some (.int 1)), (ni_P1, 1)) := by
  by_cases hc : c = 0
  · skip
    refine ni_xLd (ni_ro [a, b, c, d, e, f] (2546, ni_sLd 3 1 2547) (ni_me85_39 [a, b, c, d, e, f] _ (List.mem_of_getElem? (i := 0) rfl))) rfl rfl ?_
    refine ni_xLd (ni_ro [a, b, c, d, e, f] (2547, ni_sLd 3 0 2548) (ni_me85_39 [a, b, c, d, e, f] _ (List.mem_of_getElem? (i := 1) rfl))) rfl rfl ?_
    refine ni_xLd (ni_ro [a, b, c, d, e, f] (2548, ni_sLd 0 5 2550) (ni_me85_39 [a, b, c, d, e, f] _ (List.mem_of_getElem? (i := 2) rfl))) rfl rfl ?_
    refine ni_xP (g := ni_gPush (.int 1) 2551) (ni_ro [a, b, c, d, e, f] (2550, ni_sP (ni_gPush (.int 1) 2551)) (ni_me85_39 [a, b, c, d, e, f] _ (List.mem_of_getElem? (i := 3) rfl))) rfl ?_
    refine ni_xP (g := ni_gI (fun x y => x + y) 2552) (ni_ro [a, b, c, d, e, f] (2551, ni_sP (ni_gI (fun x y => x + y) 2552)) (ni_me85_39 [a, b, c, d, e, f] _ (List.mem_of_getElem? (i := 4) rfl))) rfl ?_
    refine ni_xSld (ni_ro [a, b, c, d, e, f] (2552, ni_sSld [a, b, c, d, e, f] 2553) (ni_me85_39 [a, b, c, d, e, f] _ (List.mem_of_getElem? (i := 5) rfl))) ⟨by decide, rfl⟩ ?_
    refine ni_xLd (ni_ro [a, b, c, d, e, f] (2553, ni_sLd 3 0 2554) (ni_me85_39 [a, b, c, d, e, f] _ (List.mem_of_getElem? (i := 6) rfl))) rfl rfl ?_
    refine ni_xLd (ni_ro [a, b, c, d, e, f] (2554, ni_sLd 0 5 2556) (ni_me85_39 [a, b, c, d, e, f] _ (List.mem_of_getElem? (i := 7) rfl))) rfl rfl ?_
    refine ni_xP (g := ni_gPush (.int 2) 2557) (ni_ro [a, b, c, d, e, f] (2556, ni_sP (ni_gPush (.int 2) 2557)) (ni_me85_39 [a, b, c, d, e, f] _ (List.mem_of_getElem? (i := 8) rfl))) rfl ?_
    refine ni_xP (g := ni_gI (fun x y => x + y) 2558) (ni_ro [a, b, c, d, e, f] (2557, ni_sP (ni_gI (fun x y => x + y) 2558)) (ni_me85_39 [a, b, c, d, e, f] _ (List.mem_of_getElem? (i := 9) rfl))) rfl ?_
    refine ni_xSld (ni_ro [a, b, c, d, e, f] (2558, ni_sSld [a, b, c, d, e, f] 2559) (ni_me85_39 [a, b, c, d, e, f] _ (List.mem_of_getElem? (i := 10) rfl))) ⟨by decide, rfl⟩ ?_
    refine ni_xIf true (ni_ro [a, b, c, d, e, f] (2559, ni_sP (ni_gIf (fun x => decide (x = 0)) 2566 2562)) (ni_me85_39 [a, b, c, d, e, f] _ (List.mem_of_getElem? (i := 11) rfl))) (decide_eq_true hc) ?_
    refine ni_xP (g := ni_gPush (.int 0) 2567) (ni_ro [a, b, c, d, e, f] (2566, ni_sP (ni_gPush (.int 0) 2567)) (ni_me85_39 [a, b, c, d, e, f] _ (List.mem_of_getElem? (i := 14) rfl))) rfl ?_
    refine ni_xLd (ni_ro [a, b, c, d, e, f] (2567, ni_sLd 3 0 2568) (ni_me85_39 [a, b, c, d, e, f] _ (List.mem_of_getElem? (i := 15) rfl))) rfl rfl ?_
    refine ni_xLd (ni_ro [a, b, c, d, e, f] (2568, ni_sLd 0 5 2570) (ni_me85_39 [a, b, c, d, e, f] _ (List.mem_of_getElem? (i := 16) rfl))) rfl rfl ?_
    refine ni_xP (g := ni_gPush (.int 3) 2571) (ni_ro [a, b, c, d, e, f] (2570, ni_sP (ni_gPush (.int 3) 2571)) (ni_me85_39 [a, b, c, d, e, f] _ (List.mem_of_getElem? (i := 17) rfl))) rfl ?_
    refine ni_xP (g := ni_gI (fun x y => x + y) 2572) (ni_ro [a, b, c, d, e, f] (2571, ni_sP (ni_gI (fun x y => x + y) 2572)) (ni_me85_39 [a, b, c, d, e, f] _ (List.mem_of_getElem? (i := 18) rfl))) rfl ?_
    refine ni_xSld (ni_ro [a, b, c, d, e, f] (2572, ni_sSld [a, b, c, d, e, f] 2573) (ni_me85_39 [a, b, c, d, e, f] _ (List.mem_of_getElem? (i := 19) rfl))) ⟨by decide, rfl⟩ ?_
    refine ni_xLd (ni_ro [a, b, c, d, e, f] (2573, ni_sLd 3 3 2574) (ni_me85_39 [a, b, c, d, e, f] _ (List.mem_of_getElem? (i := 20) rfl))) rfl rfl ?_
    refine ni_xC (ni_ro [a, b, c, d, e, f] (2574, ni_sC 73 5 2577) (ni_me85_39 [a, b, c, d, e, f] _ (List.mem_of_getElem? (i := 21) rfl))) (Nat.le_of_ble_eq_true rfl) rfl rfl (Nat.le_of_ble_eq_true rfl) (ni_ofO (ni_kw73 [a, b, c, d, e, f] _ _ _)) ?_
    refine ni_xSt (ni_ro [a, b, c, d, e, f] (2577, ni_sSt 0 6 2579) (ni_me85_39 [a, b, c, d, e, f] _ (List.mem_of_getElem? (i := 22) rfl))) rfl rfl ?_
    refine ni_xLd (ni_ro [a, b, c, d, e, f] (2579, ni_sLd 3 2 2580) (ni_me85_39 [a, b, c, d, e, f] _ (List.mem_of_getElem? (i := 23) rfl))) rfl rfl ?_
    refine ni_xLd (ni_ro [a, b, c, d, e, f] (2580, ni_sLd 3 0 2581) (ni_me85_39 [a, b, c, d, e, f] _ (List.mem_of_getElem? (i := 24) rfl))) rfl rfl ?_
    refine ni_xLd (ni_ro [a, b, c, d, e, f] (2581, ni_sLd 0 5 2583) (ni_me85_39 [a, b, c, d, e, f] _ (List.mem_of_getElem? (i := 25) rfl))) rfl rfl ?_
    refine ni_xP (g := ni_gPush (.int 1) 2584) (ni_ro [a, b, c, d, e, f] (2583, ni_sP (ni_gPush (.int 1) 2584)) (ni_me85_39 [a, b, c, d, e, f] _ (List.mem_of_getElem? (i := 26) rfl))) rfl ?_
    refine ni_xP (g := ni_gI (fun x y => x + y) 2585) (ni_ro [a, b, c, d, e, f] (2584, ni_sP (ni_gI (fun x y => x + y) 2585)) (ni_me85_39 [a, b, c, d, e, f] _ (List.mem_of_getElem? (i := 27) rfl))) rfl ?_
    refine ni_xSld (ni_ro [a, b, c, d, e, f] (2585, ni_sSld [a, b, c, d, e, f] 2586) (ni_me85_39 [a, b, c, d, e, f] _ (List.mem_of_getElem? (i := 28) rfl))) ⟨by decide, rfl⟩ ?_
    refine ni_xLd (ni_ro [a, b, c, d, e, f] (2586, ni_sLd 3 0 2587) (ni_me85_39 [a, b, c, d, e, f] _ (List.mem_of_getElem? (i := 29) rfl))) rfl rfl ?_
    refine ni_xLd (ni_ro [a, b, c, d, e, f] (2587, ni_sLd 0 5 2589) (ni_me85_39 [a, b, c, d, e, f] _ (List.mem_of_getElem? (i := 30) rfl))) rfl rfl ?_
    refine ni_xP (g := ni_gPush (.int 2) 2590) (ni_ro [a, b, c, d, e, f] (2589, ni_sP (ni_gPush (.int 2) 2590)) (ni_me85_39 [a, b, c, d, e, f] _ (List.mem_of_getElem? (i := 31) rfl))) rfl ?_
    refine ni_xP (g := ni_gI (fun x y => x + y) 2591) (ni_ro [a, b, c, d, e, f] (2590, ni_sP (ni_gI (fun x y => x + y) 2591)) (ni_me85_39 [a, b, c, d, e, f] _ (List.mem_of_getElem? (i := 32) rfl))) rfl ?_
    refine ni_xSld (ni_ro [a, b, c, d, e, f] (2591, ni_sSld [a, b, c, d, e, f] 2592) (ni_me85_39 [a, b, c, d, e, f] _ (List.mem_of_getElem? (i := 33) rfl))) ⟨by decide, rfl⟩ ?_
    refine ni_xIf true (ni_ro [a, b, c, d, e, f] (2592, ni_sP (ni_gIf (fun x => decide (x = 0)) 2599 2595)) (ni_me85_39 [a, b, c, d, e, f] _ (List.mem_of_getElem? (i := 34) rfl))) (decide_eq_true hc) ?_
    refine ni_xP (g := ni_gPush (.int 0) 2600) (ni_ro [a, b, c, d, e, f] (2599, ni_sP (ni_gPush (.int 0) 2600)) (ni_me85_39 [a, b, c, d, e, f] _ (List.mem_of_getElem? (i := 37) rfl))) rfl ?_
    refine ni_xLd (ni_ro [a, b, c, d, e, f] (2600, ni_sLd 3 0 2601) (ni_me85_39 [a, b, c, d, e, f] _ (List.mem_of_getElem? (i := 38) rfl))) rfl rfl ?_
    refine ni_xLd (ni_ro [a, b, c, d, e, f] (2601, ni_sLd 0 5 2603) (ni_me85_39 [a, b, c, d, e, f] _ (List.mem_of_getElem? (i := 39) rfl))) rfl rfl ?_
    refine ni_xP (g := ni_gPush (.int 3) 2604) (ni_ro [a, b, c, d, e, f] (2603, ni_sP (ni_gPush (.int 3) 2604)) (ni_me85_39 [a, b, c, d, e, f] _ (List.mem_of_getElem? (i := 40) rfl))) rfl ?_
    refine ni_xP (g := ni_gI (fun x y => x + y) 2605) (ni_ro [a, b, c, d, e, f] (2604, ni_sP (ni_gI (fun x y => x + y) 2605)) (ni_me85_39 [a, b, c, d, e, f] _ (List.mem_of_getElem? (i := 41) rfl))) rfl ?_
    refine ni_xSld (ni_ro [a, b, c, d, e, f] (2605, ni_sSld [a, b, c, d, e, f] 2606) (ni_me85_39 [a, b, c, d, e, f] _ (List.mem_of_getElem? (i := 42) rfl))) ⟨by decide, rfl⟩ ?_
    refine ni_xV (ni_ro [a, b, c, d, e, f] (2606, ni_sV 118 3 18 2609) (ni_me85_39 [a, b, c, d, e, f] _ (List.mem_of_getElem? (i := 43) rfl))) rfl rfl rfl (Nat.le_of_ble_eq_true rfl) (ni_ofO (ni_km118 [a, b, c, d, e, f] _ _ _)) ?_
    refine ni_xSt (ni_ro [a, b, c, d, e, f] (2609, ni_sSt 0 7 2611) (ni_me85_39 [a, b, c, d, e, f] _ (List.mem_of_getElem? (i := 44) rfl))) rfl rfl ?_
    refine ni_xLd (ni_ro [a, b, c, d, e, f] (2611, ni_sLd 3 2 2612) (ni_me85_39 [a, b, c, d, e, f] _ (List.mem_of_getElem? (i := 45) rfl))) rfl rfl ?_
    refine ni_xV (ni_ro [a, b, c, d, e, f] (2612, ni_sV 167 0 18 2615) (ni_me85_39 [a, b, c, d, e, f] _ (List.mem_of_getElem? (i := 46) rfl))) rfl rfl rfl (Nat.le_of_ble_eq_true rfl) (ni_ofO (ni_k167 [a, b, c, d, e, f])) ?_
    refine ni_xLd (ni_ro [a, b, c, d, e, f] (2615, ni_sLd 0 6 2617) (ni_me85_39 [a, b, c, d, e, f] _ (List.mem_of_getElem? (i := 47) rfl))) rfl rfl ?_
    refine ni_xIc true (ni_ro [a, b, c, d, e, f] (2617, ni_sP (ni_gIc (fun x y => decide (x = y)) 2622 2620)) (ni_me85_39 [a, b, c, d, e, f] _ (List.mem_of_getElem? (i := 48) rfl))) rfl ?_
    refine ni_xLd (ni_ro [a, b, c, d, e, f] (2622, ni_sLd 0 6 2624) (ni_me85_39 [a, b, c, d, e, f] _ (List.mem_of_getElem? (i := 49) rfl))) rfl rfl ?_
    refine ni_xIf true (ni_ro [a, b, c, d, e, f] (2624, ni_sP (ni_gIf (fun x => decide (¬ x = 0)) 2639 2627)) (ni_me85_39 [a, b, c, d, e, f] _ (List.mem_of_getElem? (i := 50) rfl))) rfl ?_
    refine ni_xP (g := ni_gGo 3317) (ni_ro [a, b, c, d, e, f] (2639, ni_sP (ni_gGo 3317)) (ni_me85_39 [a, b, c, d, e, f] _ (List.mem_of_getElem? (i := 51) rfl))) rfl ?_
    refine ni_xInc (ni_ro [a, b, c, d, e, f] (3317, ni_sInc 5 (6) 3320) (ni_me85_52 [a, b, c, d, e, f] _ (List.mem_of_getElem? (i := 0) rfl))) rfl rfl ?_
    refine ni_xP (g := ni_gGo 28) (ni_ro [a, b, c, d, e, f] (3320, ni_sP (ni_gGo 28)) (ni_me85_52 [a, b, c, d, e, f] _ (List.mem_of_getElem? (i := 1) rfl))) rfl ?_
    refine ni_xLd (ni_ro [a, b, c, d, e, f] (28, ni_sLd 0 5 30) (ni_me85_1 [a, b, c, d, e, f] _ (List.mem_of_getElem? (i := 0) rfl))) rfl rfl ?_
    refine ni_xLd (ni_ro [a, b, c, d, e, f] (30, ni_sLd 3 0 31) (ni_me85_1 [a, b, c, d, e, f] _ (List.mem_of_getElem? (i := 1) rfl))) rfl rfl ?_
    refine ni_xSln (ni_ro [a, b, c, d, e, f] (31, ni_sSln [a, b, c, d, e, f] 32) (ni_me85_1 [a, b, c, d, e, f] _ (List.mem_of_getElem? (i := 2) rfl))) rfl ?_
    refine ni_xP (g := ni_gPush (.int 6) 34) (ni_ro [a, b, c, d, e, f] (32, ni_sP (ni_gPush (.int 6) 34)) (ni_me85_1 [a, b, c, d, e, f] _ (List.mem_of_getElem? (i := 3) rfl))) rfl ?_
    refine ni_xP (g := ni_gI (fun x y => x - y) 35) (ni_ro [a, b, c, d, e, f] (34, ni_sP (ni_gI (fun x y => x - y) 35)) (ni_me85_1 [a, b, c, d, e, f] _ (List.mem_of_getElem? (i := 4) rfl))) rfl ?_
    refine ni_xIc true (ni_ro [a, b, c, d, e, f] (35, ni_sP (ni_gIc (fun x y => decide (y < x)) 3323 38)) (ni_me85_1 [a, b, c, d, e, f] _ (List.mem_of_getElem? (i := 5) rfl))) (show decide (Int32.ofNat 6 - 6 < 0 + 6) = true from by decide) ?_
    refine ni_xP (g := ni_gPush (.int 1) 3324) (ni_ro [a, b, c, d, e, f] (3323, ni_sP (ni_gPush (.int 1) 3324)) (ni_me85_52 [a, b, c, d, e, f] _ (List.mem_of_getElem? (i := 2) rfl))) rfl ?_
    exact ni_xR (ni_ro [a, b, c, d, e, f] (3324, ni_sR (some .boolean)) (ni_me85_52 [a, b, c, d, e, f] _ (List.mem_of_getElem? (i := 3) rfl))) rfl
  · skip
    refine ni_xLd (ni_ro [a, b, c, d, e, f] (2546, ni_sLd 3 1 2547) (ni_me85_39 [a, b, c, d, e, f] _ (List.mem_of_getElem? (i := 0) rfl))) rfl rfl ?_
    refine ni_xLd (ni_ro [a, b, c, d, e, f] (2547, ni_sLd 3 0 2548) (ni_me85_39 [a, b, c, d, e, f] _ (List.mem_of_getElem? (i := 1) rfl))) rfl rfl ?_
    refine ni_xLd (ni_ro [a, b, c, d, e, f] (2548, ni_sLd 0 5 2550) (ni_me85_39 [a, b, c, d, e, f] _ (List.mem_of_getElem? (i := 2) rfl))) rfl rfl ?_
    refine ni_xP (g := ni_gPush (.int 1) 2551) (ni_ro [a, b, c, d, e, f] (2550, ni_sP (ni_gPush (.int 1) 2551)) (ni_me85_39 [a, b, c, d, e, f] _ (List.mem_of_getElem? (i := 3) rfl))) rfl ?_
    refine ni_xP (g := ni_gI (fun x y => x + y) 2552) (ni_ro [a, b, c, d, e, f] (2551, ni_sP (ni_gI (fun x y => x + y) 2552)) (ni_me85_39 [a, b, c, d, e, f] _ (List.mem_of_getElem? (i := 4) rfl))) rfl ?_
    refine ni_xSld (ni_ro [a, b, c, d, e, f] (2552, ni_sSld [a, b, c, d, e, f] 2553) (ni_me85_39 [a, b, c, d, e, f] _ (List.mem_of_getElem? (i := 5) rfl))) ⟨by decide, rfl⟩ ?_
    refine ni_xLd (ni_ro [a, b, c, d, e, f] (2553, ni_sLd 3 0 2554) (ni_me85_39 [a, b, c, d, e, f] _ (List.mem_of_getElem? (i := 6) rfl))) rfl rfl ?_
    refine ni_xLd (ni_ro [a, b, c, d, e, f] (2554, ni_sLd 0 5 2556) (ni_me85_39 [a, b, c, d, e, f] _ (List.mem_of_getElem? (i := 7) rfl))) rfl rfl ?_
    refine ni_xP (g := ni_gPush (.int 2) 2557) (ni_ro [a, b, c, d, e, f] (2556, ni_sP (ni_gPush (.int 2) 2557)) (ni_me85_39 [a, b, c, d, e, f] _ (List.mem_of_getElem? (i := 8) rfl))) rfl ?_
    refine ni_xP (g := ni_gI (fun x y => x + y) 2558) (ni_ro [a, b, c, d, e, f] (2557, ni_sP (ni_gI (fun x y => x + y) 2558)) (ni_me85_39 [a, b, c, d, e, f] _ (List.mem_of_getElem? (i := 9) rfl))) rfl ?_
    refine ni_xSld (ni_ro [a, b, c, d, e, f] (2558, ni_sSld [a, b, c, d, e, f] 2559) (ni_me85_39 [a, b, c, d, e, f] _ (List.mem_of_getElem? (i := 10) rfl))) ⟨by decide, rfl⟩ ?_
    refine ni_xIf false (ni_ro [a, b, c, d, e, f] (2559, ni_sP (ni_gIf (fun x => decide (x = 0)) 2566 2562)) (ni_me85_39 [a, b, c, d, e, f] _ (List.mem_of_getElem? (i := 11) rfl))) (decide_eq_false hc) ?_
    refine ni_xP (g := ni_gPush (.int 1) 2563) (ni_ro [a, b, c, d, e, f] (2562, ni_sP (ni_gPush (.int 1) 2563)) (ni_me85_39 [a, b, c, d, e, f] _ (List.mem_of_getElem? (i := 12) rfl))) rfl ?_
    refine ni_xP (g := ni_gGo 2567) (ni_ro [a, b, c, d, e, f] (2563, ni_sP (ni_gGo 2567)) (ni_me85_39 [a, b, c, d, e, f] _ (List.mem_of_getElem? (i := 13) rfl))) rfl ?_
    refine ni_xLd (ni_ro [a, b, c, d, e, f] (2567, ni_sLd 3 0 2568) (ni_me85_39 [a, b, c, d, e, f] _ (List.mem_of_getElem? (i := 15) rfl))) rfl rfl ?_
    refine ni_xLd (ni_ro [a, b, c, d, e, f] (2568, ni_sLd 0 5 2570) (ni_me85_39 [a, b, c, d, e, f] _ (List.mem_of_getElem? (i := 16) rfl))) rfl rfl ?_
    refine ni_xP (g := ni_gPush (.int 3) 2571) (ni_ro [a, b, c, d, e, f] (2570, ni_sP (ni_gPush (.int 3) 2571)) (ni_me85_39 [a, b, c, d, e, f] _ (List.mem_of_getElem? (i := 17) rfl))) rfl ?_
    refine ni_xP (g := ni_gI (fun x y => x + y) 2572) (ni_ro [a, b, c, d, e, f] (2571, ni_sP (ni_gI (fun x y => x + y) 2572)) (ni_me85_39 [a, b, c, d, e, f] _ (List.mem_of_getElem? (i := 18) rfl))) rfl ?_
    refine ni_xSld (ni_ro [a, b, c, d, e, f] (2572, ni_sSld [a, b, c, d, e, f] 2573) (ni_me85_39 [a, b, c, d, e, f] _ (List.mem_of_getElem? (i := 19) rfl))) ⟨by decide, rfl⟩ ?_
    refine ni_xLd (ni_ro [a, b, c, d, e, f] (2573, ni_sLd 3 3 2574) (ni_me85_39 [a, b, c, d, e, f] _ (List.mem_of_getElem? (i := 20) rfl))) rfl rfl ?_
    refine ni_xC (ni_ro [a, b, c, d, e, f] (2574, ni_sC 73 5 2577) (ni_me85_39 [a, b, c, d, e, f] _ (List.mem_of_getElem? (i := 21) rfl))) (Nat.le_of_ble_eq_true rfl) rfl rfl (Nat.le_of_ble_eq_true rfl) (ni_ofO (ni_kw73 [a, b, c, d, e, f] _ _ _)) ?_
    refine ni_xSt (ni_ro [a, b, c, d, e, f] (2577, ni_sSt 0 6 2579) (ni_me85_39 [a, b, c, d, e, f] _ (List.mem_of_getElem? (i := 22) rfl))) rfl rfl ?_
    refine ni_xLd (ni_ro [a, b, c, d, e, f] (2579, ni_sLd 3 2 2580) (ni_me85_39 [a, b, c, d, e, f] _ (List.mem_of_getElem? (i := 23) rfl))) rfl rfl ?_
    refine ni_xLd (ni_ro [a, b, c, d, e, f] (2580, ni_sLd 3 0 2581) (ni_me85_39 [a, b, c, d, e, f] _ (List.mem_of_getElem? (i := 24) rfl))) rfl rfl ?_
    refine ni_xLd (ni_ro [a, b, c, d, e, f] (2581, ni_sLd 0 5 2583) (ni_me85_39 [a, b, c, d, e, f] _ (List.mem_of_getElem? (i := 25) rfl))) rfl rfl ?_
    refine ni_xP (g := ni_gPush (.int 1) 2584) (ni_ro [a, b, c, d, e, f] (2583, ni_sP (ni_gPush (.int 1) 2584)) (ni_me85_39 [a, b, c, d, e, f] _ (List.mem_of_getElem? (i := 26) rfl))) rfl ?_
    refine ni_xP (g := ni_gI (fun x y => x + y) 2585) (ni_ro [a, b, c, d, e, f] (2584, ni_sP (ni_gI (fun x y => x + y) 2585)) (ni_me85_39 [a, b, c, d, e, f] _ (List.mem_of_getElem? (i := 27) rfl))) rfl ?_
    refine ni_xSld (ni_ro [a, b, c, d, e, f] (2585, ni_sSld [a, b, c, d, e, f] 2586) (ni_me85_39 [a, b, c, d, e, f] _ (List.mem_of_getElem? (i := 28) rfl))) ⟨by decide, rfl⟩ ?_
    refine ni_xLd (ni_ro [a, b, c, d, e, f] (2586, ni_sLd 3 0 2587) (ni_me85_39 [a, b, c, d, e, f] _ (List.mem_of_getElem? (i := 29) rfl))) rfl rfl ?_
    refine ni_xLd (ni_ro [a, b, c, d, e, f] (2587, ni_sLd 0 5 2589) (ni_me85_39 [a, b, c, d, e, f] _ (List.mem_of_getElem? (i := 30) rfl))) rfl rfl ?_
    refine ni_xP (g := ni_gPush (.int 2) 2590) (ni_ro [a, b, c, d, e, f] (2589, ni_sP (ni_gPush (.int 2) 2590)) (ni_me85_39 [a, b, c, d, e, f] _ (List.mem_of_getElem? (i := 31) rfl))) rfl ?_
    refine ni_xP (g := ni_gI (fun x y => x + y) 2591) (ni_ro [a, b, c, d, e, f] (2590, ni_sP (ni_gI (fun x y => x + y) 2591)) (ni_me85_39 [a, b, c, d, e, f] _ (List.mem_of_getElem? (i := 32) rfl))) rfl ?_
    refine ni_xSld (ni_ro [a, b, c, d, e, f] (2591, ni_sSld [a, b, c, d, e, f] 2592) (ni_me85_39 [a, b, c, d, e, f] _ (List.mem_of_getElem? (i := 33) rfl))) ⟨by decide, rfl⟩ ?_
    refine ni_xIf false (ni_ro [a, b, c, d, e, f] (2592, ni_sP (ni_gIf (fun x => decide (x = 0)) 2599 2595)) (ni_me85_39 [a, b, c, d, e, f] _ (List.mem_of_getElem? (i := 34) rfl))) (decide_eq_false hc) ?_
    refine ni_xP (g := ni_gPush (.int 1) 2596) (ni_ro [a, b, c, d, e, f] (2595, ni_sP (ni_gPush (.int 1) 2596)) (ni_me85_39 [a, b, c, d, e, f] _ (List.mem_of_getElem? (i := 35) rfl))) rfl ?_
    refine ni_xP (g := ni_gGo 2600) (ni_ro [a, b, c, d, e, f] (2596, ni_sP (ni_gGo 2600)) (ni_me85_39 [a, b, c, d, e, f] _ (List.mem_of_getElem? (i := 36) rfl))) rfl ?_
    refine ni_xLd (ni_ro [a, b, c, d, e, f] (2600, ni_sLd 3 0 2601) (ni_me85_39 [a, b, c, d, e, f] _ (List.mem_of_getElem? (i := 38) rfl))) rfl rfl ?_
    refine ni_xLd (ni_ro [a, b, c, d, e, f] (2601, ni_sLd 0 5 2603) (ni_me85_39 [a, b, c, d, e, f] _ (List.mem_of_getElem? (i := 39) rfl))) rfl rfl ?_
    refine ni_xP (g := ni_gPush (.int 3) 2604) (ni_ro [a, b, c, d, e, f] (2603, ni_sP (ni_gPush (.int 3) 2604)) (ni_me85_39 [a, b, c, d, e, f] _ (List.mem_of_getElem? (i := 40) rfl))) rfl ?_
    refine ni_xP (g := ni_gI (fun x y => x + y) 2605) (ni_ro [a, b, c, d, e, f] (2604, ni_sP (ni_gI (fun x y => x + y) 2605)) (ni_me85_39 [a, b, c, d, e, f] _ (List.mem_of_getElem? (i := 41) rfl))) rfl ?_
    refine ni_xSld (ni_ro [a, b, c, d, e, f] (2605, ni_sSld [a, b, c, d, e, f] 2606) (ni_me85_39 [a, b, c, d, e, f] _ (List.mem_of_getElem? (i := 42) rfl))) ⟨by decide, rfl⟩ ?_
    refine ni_xV (ni_ro [a, b, c, d, e, f] (2606, ni_sV 118 3 18 2609) (ni_me85_39 [a, b, c, d, e, f] _ (List.mem_of_getElem? (i := 43) rfl))) rfl rfl rfl (Nat.le_of_ble_eq_true rfl) (ni_ofO (ni_km118 [a, b, c, d, e, f] _ _ _)) ?_
    refine ni_xSt (ni_ro [a, b, c, d, e, f] (2609, ni_sSt 0 7 2611) (ni_me85_39 [a, b, c, d, e, f] _ (List.mem_of_getElem? (i := 44) rfl))) rfl rfl ?_
    refine ni_xLd (ni_ro [a, b, c, d, e, f] (2611, ni_sLd 3 2 2612) (ni_me85_39 [a, b, c, d, e, f] _ (List.mem_of_getElem? (i := 45) rfl))) rfl rfl ?_
    refine ni_xV (ni_ro [a, b, c, d, e, f] (2612, ni_sV 167 0 18 2615) (ni_me85_39 [a, b, c, d, e, f] _ (List.mem_of_getElem? (i := 46) rfl))) rfl rfl rfl (Nat.le_of_ble_eq_true rfl) (ni_ofO (ni_k167 [a, b, c, d, e, f])) ?_
    refine ni_xLd (ni_ro [a, b, c, d, e, f] (2615, ni_sLd 0 6 2617) (ni_me85_39 [a, b, c, d, e, f] _ (List.mem_of_getElem? (i := 47) rfl))) rfl rfl ?_
    refine ni_xIc true (ni_ro [a, b, c, d, e, f] (2617, ni_sP (ni_gIc (fun x y => decide (x = y)) 2622 2620)) (ni_me85_39 [a, b, c, d, e, f] _ (List.mem_of_getElem? (i := 48) rfl))) rfl ?_
    refine ni_xLd (ni_ro [a, b, c, d, e, f] (2622, ni_sLd 0 6 2624) (ni_me85_39 [a, b, c, d, e, f] _ (List.mem_of_getElem? (i := 49) rfl))) rfl rfl ?_
    refine ni_xIf true (ni_ro [a, b, c, d, e, f] (2624, ni_sP (ni_gIf (fun x => decide (¬ x = 0)) 2639 2627)) (ni_me85_39 [a, b, c, d, e, f] _ (List.mem_of_getElem? (i := 50) rfl))) rfl ?_
    refine ni_xP (g := ni_gGo 3317) (ni_ro [a, b, c, d, e, f] (2639, ni_sP (ni_gGo 3317)) (ni_me85_39 [a, b, c, d, e, f] _ (List.mem_of_getElem? (i := 51) rfl))) rfl ?_
    refine ni_xInc (ni_ro [a, b, c, d, e, f] (3317, ni_sInc 5 (6) 3320) (ni_me85_52 [a, b, c, d, e, f] _ (List.mem_of_getElem? (i := 0) rfl))) rfl rfl ?_
    refine ni_xP (g := ni_gGo 28) (ni_ro [a, b, c, d, e, f] (3320, ni_sP (ni_gGo 28)) (ni_me85_52 [a, b, c, d, e, f] _ (List.mem_of_getElem? (i := 1) rfl))) rfl ?_
    refine ni_xLd (ni_ro [a, b, c, d, e, f] (28, ni_sLd 0 5 30) (ni_me85_1 [a, b, c, d, e, f] _ (List.mem_of_getElem? (i := 0) rfl))) rfl rfl ?_
    refine ni_xLd (ni_ro [a, b, c, d, e, f] (30, ni_sLd 3 0 31) (ni_me85_1 [a, b, c, d, e, f] _ (List.mem_of_getElem? (i := 1) rfl))) rfl rfl ?_
    refine ni_xSln (ni_ro [a, b, c, d, e, f] (31, ni_sSln [a, b, c, d, e, f] 32) (ni_me85_1 [a, b, c, d, e, f] _ (List.mem_of_getElem? (i := 2) rfl))) rfl ?_
    refine ni_xP (g := ni_gPush (.int 6) 34) (ni_ro [a, b, c, d, e, f] (32, ni_sP (ni_gPush (.int 6) 34)) (ni_me85_1 [a, b, c, d, e, f] _ (List.mem_of_getElem? (i := 3) rfl))) rfl ?_
    refine ni_xP (g := ni_gI (fun x y => x - y) 35) (ni_ro [a, b, c, d, e, f] (34, ni_sP (ni_gI (fun x y => x - y) 35)) (ni_me85_1 [a, b, c, d, e, f] _ (List.mem_of_getElem? (i := 4) rfl))) rfl ?_
    refine ni_xIc true (ni_ro [a, b, c, d, e, f] (35, ni_sP (ni_gIc (fun x y => decide (y < x)) 3323 38)) (ni_me85_1 [a, b, c, d, e, f] _ (List.mem_of_getElem? (i := 5) rfl))) (show decide (Int32.ofNat 6 - 6 < 0 + 6) = true from by decide) ?_
    refine ni_xP (g := ni_gPush (.int 1) 3324) (ni_ro [a, b, c, d, e, f] (3323, ni_sP (ni_gPush (.int 1) 3324)) (ni_me85_52 [a, b, c, d, e, f] _ (List.mem_of_getElem? (i := 2) rfl))) rfl ?_
    exact ni_xR (ni_ro [a, b, c, d, e, f] (3324, ni_sR (some .boolean)) (ni_me85_52 [a, b, c, d, e, f] _ (List.mem_of_getElem? (i := 3) rfl))) rfl
theorem ni_ca38 (a b c d e f : Int32) : ni_G [a, b, c, d, e, f] 9 85 2642 ni_ls0 [] (ni_P0, 0) (.inl (some (.int 1)), (ni_P1, 1)) := by
  refine ni_xLd (ni_ro [a, b, c, d, e, f] (2642, ni_sLd 3 1 2643) (ni_me85_40 [a, b, c, d, e, f] _ (List.mem_of_getElem? (i := 0) rfl))) rfl rfl ?_
  refine ni_xLd (ni_ro [a, b, c, d, e, f] (2643, ni_sLd 3 0 2644) (ni_me85_40 [a, b, c, d, e, f] _ (List.mem_of_getElem? (i := 1) rfl))) rfl rfl ?_
  refine ni_xLd (ni_ro [a, b, c, d, e, f] (2644, ni_sLd 0 5 2646) (ni_me85_40 [a, b, c, d, e, f] _ (List.mem_of_getElem? (i := 2) rfl))) rfl rfl ?_
  refine ni_xP (g := ni_gPush (.int 1) 2647) (ni_ro [a, b, c, d, e, f] (2646, ni_sP (ni_gPush (.int 1) 2647)) (ni_me85_40 [a, b, c, d, e, f] _ (List.mem_of_getElem? (i := 3) rfl))) rfl ?_
  refine ni_xP (g := ni_gI (fun x y => x + y) 2648) (ni_ro [a, b, c, d, e, f] (2647, ni_sP (ni_gI (fun x y => x + y) 2648)) (ni_me85_40 [a, b, c, d, e, f] _ (List.mem_of_getElem? (i := 4) rfl))) rfl ?_
  refine ni_xSld (ni_ro [a, b, c, d, e, f] (2648, ni_sSld [a, b, c, d, e, f] 2649) (ni_me85_40 [a, b, c, d, e, f] _ (List.mem_of_getElem? (i := 5) rfl))) ⟨by decide, rfl⟩ ?_
  refine ni_xLd (ni_ro [a, b, c, d, e, f] (2649, ni_sLd 3 3 2650) (ni_me85_40 [a, b, c, d, e, f] _ (List.mem_of_getElem? (i := 6) rfl))) rfl rfl ?_
  refine ni_xC (ni_ro [a, b, c, d, e, f] (2650, ni_sC 91 3 2653) (ni_me85_40 [a, b, c, d, e, f] _ (List.mem_of_getElem? (i := 7) rfl))) (Nat.le_of_ble_eq_true rfl) rfl rfl (Nat.le_of_ble_eq_true rfl) (ni_ofO (ni_kw91 [a, b, c, d, e, f] _)) ?_
  refine ni_xSt (ni_ro [a, b, c, d, e, f] (2653, ni_sSt 0 6 2655) (ni_me85_40 [a, b, c, d, e, f] _ (List.mem_of_getElem? (i := 8) rfl))) rfl rfl ?_
  refine ni_xLd (ni_ro [a, b, c, d, e, f] (2655, ni_sLd 3 2 2656) (ni_me85_40 [a, b, c, d, e, f] _ (List.mem_of_getElem? (i := 9) rfl))) rfl rfl ?_
  refine ni_xLd (ni_ro [a, b, c, d, e, f] (2656, ni_sLd 3 0 2657) (ni_me85_40 [a, b, c, d, e, f] _ (List.mem_of_getElem? (i := 10) rfl))) rfl rfl ?_
  refine ni_xLd (ni_ro [a, b, c, d, e, f] (2657, ni_sLd 0 5 2659) (ni_me85_40 [a, b, c, d, e, f] _ (List.mem_of_getElem? (i := 11) rfl))) rfl rfl ?_
  refine ni_xP (g := ni_gPush (.int 1) 2660) (ni_ro [a, b, c, d, e, f] (2659, ni_sP (ni_gPush (.int 1) 2660)) (ni_me85_40 [a, b, c, d, e, f] _ (List.mem_of_getElem? (i := 12) rfl))) rfl ?_
  refine ni_xP (g := ni_gI (fun x y => x + y) 2661) (ni_ro [a, b, c, d, e, f] (2660, ni_sP (ni_gI (fun x y => x + y) 2661)) (ni_me85_40 [a, b, c, d, e, f] _ (List.mem_of_getElem? (i := 13) rfl))) rfl ?_
  refine ni_xSld (ni_ro [a, b, c, d, e, f] (2661, ni_sSld [a, b, c, d, e, f] 2662) (ni_me85_40 [a, b, c, d, e, f] _ (List.mem_of_getElem? (i := 14) rfl))) ⟨by decide, rfl⟩ ?_
  refine ni_xV (ni_ro [a, b, c, d, e, f] (2662, ni_sV 147 1 18 2665) (ni_me85_40 [a, b, c, d, e, f] _ (List.mem_of_getElem? (i := 15) rfl))) rfl rfl rfl (Nat.le_of_ble_eq_true rfl) (ni_ofO (ni_km147 [a, b, c, d, e, f] _)) ?_
  refine ni_xSt (ni_ro [a, b, c, d, e, f] (2665, ni_sSt 0 7 2667) (ni_me85_40 [a, b, c, d, e, f] _ (List.mem_of_getElem? (i := 16) rfl))) rfl rfl ?_
  refine ni_xLd (ni_ro [a, b, c, d, e, f] (2667, ni_sLd 3 2 2668) (ni_me85_40 [a, b, c, d, e, f] _ (List.mem_of_getElem? (i := 17) rfl))) rfl rfl ?_
  refine ni_xV (ni_ro [a, b, c, d, e, f] (2668, ni_sV 167 0 18 2671) (ni_me85_40 [a, b, c, d, e, f] _ (List.mem_of_getElem? (i := 18) rfl))) rfl rfl rfl (Nat.le_of_ble_eq_true rfl) (ni_ofO (ni_k167 [a, b, c, d, e, f])) ?_
  refine ni_xLd (ni_ro [a, b, c, d, e, f] (2671, ni_sLd 0 6 2673) (ni_me85_40 [a, b, c, d, e, f] _ (List.mem_of_getElem? (i := 19) rfl))) rfl rfl ?_
  refine ni_xIc true (ni_ro [a, b, c, d, e, f] (2673, ni_sP (ni_gIc (fun x y => decide (x = y)) 2678 2676)) (ni_me85_40 [a, b, c, d, e, f] _ (List.mem_of_getElem? (i := 20) rfl))) rfl ?_
  refine ni_xLd (ni_ro [a, b, c, d, e, f] (2678, ni_sLd 0 6 2680) (ni_me85_40 [a, b, c, d, e, f] _ (List.mem_of_getElem? (i := 21) rfl))) rfl rfl ?_
  refine ni_xIf true (ni_ro [a, b, c, d, e, f] (2680, ni_sP (ni_gIf (fun x => decide (¬ x = 0)) 2695 2683)) (ni_me85_40 [a, b, c, d, e, f] _ (List.mem_of_getElem? (i := 22) rfl))) rfl ?_
  refine ni_xP (g := ni_gGo 3317) (ni_ro [a, b, c, d, e, f] (2695, ni_sP (ni_gGo 3317)) (ni_me85_40 [a, b, c, d, e, f] _ (List.mem_of_getElem? (i := 23) rfl))) rfl ?_
  refine ni_xInc (ni_ro [a, b, c, d, e, f] (3317, ni_sInc 5 (6) 3320) (ni_me85_52 [a, b, c, d, e, f] _ (List.mem_of_getElem? (i := 0) rfl))) rfl rfl ?_
  refine ni_xP (g := ni_gGo 28) (ni_ro [a, b, c, d, e, f] (3320, ni_sP (ni_gGo 28)) (ni_me85_52 [a, b, c, d, e, f] _ (List.mem_of_getElem? (i := 1) rfl))) rfl ?_
  refine ni_xLd (ni_ro [a, b, c, d, e, f] (28, ni_sLd 0 5 30) (ni_me85_1 [a, b, c, d, e, f] _ (List.mem_of_getElem? (i := 0) rfl))) rfl rfl ?_
  refine ni_xLd (ni_ro [a, b, c, d, e, f] (30, ni_sLd 3 0 31) (ni_me85_1 [a, b, c, d, e, f] _ (List.mem_of_getElem? (i := 1) rfl))) rfl rfl ?_
  refine ni_xSln (ni_ro [a, b, c, d, e, f] (31, ni_sSln [a, b, c, d, e, f] 32) (ni_me85_1 [a, b, c, d, e, f] _ (List.mem_of_getElem? (i := 2) rfl))) rfl ?_
  refine ni_xP (g := ni_gPush (.int 6) 34) (ni_ro [a, b, c, d, e, f] (32, ni_sP (ni_gPush (.int 6) 34)) (ni_me85_1 [a, b, c, d, e, f] _ (List.mem_of_getElem? (i := 3) rfl))) rfl ?_
  refine ni_xP (g := ni_gI (fun x y => x - y) 35) (ni_ro [a, b, c, d, e, f] (34, ni_sP (ni_gI (fun x y => x - y) 35)) (ni_me85_1 [a, b, c, d, e, f] _ (List.mem_of_getElem? (i := 4) rfl))) rfl ?_
  refine ni_xIc true (ni_ro [a, b, c, d, e, f] (35, ni_sP (ni_gIc (fun x y => decide (y < x)) 3323 38)) (ni_me85_1 [a, b, c, d, e, f] _ (List.mem_of_getElem? (i := 5) rfl))) (show decide (Int32.ofNat 6 - 6 < 0 + 6) = true from by decide) ?_
  refine ni_xP (g := ni_gPush (.int 1) 3324) (ni_ro [a, b, c, d, e, f] (3323, ni_sP (ni_gPush (.int 1) 3324)) (ni_me85_52 [a, b, c, d, e, f] _ (List.mem_of_getElem? (i := 2) rfl))) rfl ?_
  exact ni_xR (ni_ro [a, b, c, d, e, f] (3324, ni_sR (some .boolean)) (ni_me85_52 [a, b, c, d, e, f] _ (List.mem_of_getElem? (i := 3) rfl))) rfl
theorem ni_ca39 (a b c d e f : Int32) : ni_G [a, b, c, d, e, f] 9 85 2698 ni_ls0 [] (ni_P0, 0) (.inl (some (.int 1)), (ni_P1, 1)) := by
  refine ni_xLd (ni_ro [a, b, c, d, e, f] (2698, ni_sLd 3 1 2699) (ni_me85_41 [a, b, c, d, e, f] _ (List.mem_of_getElem? (i := 0) rfl))) rfl rfl ?_
  refine ni_xLd (ni_ro [a, b, c, d, e, f] (2699, ni_sLd 3 0 2700) (ni_me85_41 [a, b, c, d, e, f] _ (List.mem_of_getElem? (i := 1) rfl))) rfl rfl ?_
  refine ni_xLd (ni_ro [a, b, c, d, e, f] (2700, ni_sLd 0 5 2702) (ni_me85_41 [a, b, c, d, e, f] _ (List.mem_of_getElem? (i := 2) rfl))) rfl rfl ?_
  refine ni_xP (g := ni_gPush (.int 1) 2703) (ni_ro [a, b, c, d, e, f] (2702, ni_sP (ni_gPush (.int 1) 2703)) (ni_me85_41 [a, b, c, d, e, f] _ (List.mem_of_getElem? (i := 3) rfl))) rfl ?_
  refine ni_xP (g := ni_gI (fun x y => x + y) 2704) (ni_ro [a, b, c, d, e, f] (2703, ni_sP (ni_gI (fun x y => x + y) 2704)) (ni_me85_41 [a, b, c, d, e, f] _ (List.mem_of_getElem? (i := 4) rfl))) rfl ?_
  refine ni_xSld (ni_ro [a, b, c, d, e, f] (2704, ni_sSld [a, b, c, d, e, f] 2705) (ni_me85_41 [a, b, c, d, e, f] _ (List.mem_of_getElem? (i := 5) rfl))) ⟨by decide, rfl⟩ ?_
  refine ni_xLd (ni_ro [a, b, c, d, e, f] (2705, ni_sLd 3 3 2706) (ni_me85_41 [a, b, c, d, e, f] _ (List.mem_of_getElem? (i := 6) rfl))) rfl rfl ?_
  refine ni_xC (ni_ro [a, b, c, d, e, f] (2706, ni_sC 90 3 2709) (ni_me85_41 [a, b, c, d, e, f] _ (List.mem_of_getElem? (i := 7) rfl))) (Nat.le_of_ble_eq_true rfl) rfl rfl (Nat.le_of_ble_eq_true rfl) (ni_ofO (ni_kw90 [a, b, c, d, e, f] _)) ?_
  refine ni_xSt (ni_ro [a, b, c, d, e, f] (2709, ni_sSt 0 6 2711) (ni_me85_41 [a, b, c, d, e, f] _ (List.mem_of_getElem? (i := 8) rfl))) rfl rfl ?_
  refine ni_xLd (ni_ro [a, b, c, d, e, f] (2711, ni_sLd 3 2 2712) (ni_me85_41 [a, b, c, d, e, f] _ (List.mem_of_getElem? (i := 9) rfl))) rfl rfl ?_
  refine ni_xLd (ni_ro [a, b, c, d, e, f] (2712, ni_sLd 3 0 2713) (ni_me85_41 [a, b, c, d, e, f] _ (List.mem_of_getElem? (i := 10) rfl))) rfl rfl ?_
  refine ni_xLd (ni_ro [a, b, c, d, e, f] (2713, ni_sLd 0 5 2715) (ni_me85_41 [a, b, c, d, e, f] _ (List.mem_of_getElem? (i := 11) rfl))) rfl rfl ?_
  refine ni_xP (g := ni_gPush (.int 1) 2716) (ni_ro [a, b, c, d, e, f] (2715, ni_sP (ni_gPush (.int 1) 2716)) (ni_me85_41 [a, b, c, d, e, f] _ (List.mem_of_getElem? (i := 12) rfl))) rfl ?_
  refine ni_xP (g := ni_gI (fun x y => x + y) 2717) (ni_ro [a, b, c, d, e, f] (2716, ni_sP (ni_gI (fun x y => x + y) 2717)) (ni_me85_41 [a, b, c, d, e, f] _ (List.mem_of_getElem? (i := 13) rfl))) rfl ?_
  refine ni_xSld (ni_ro [a, b, c, d, e, f] (2717, ni_sSld [a, b, c, d, e, f] 2718) (ni_me85_41 [a, b, c, d, e, f] _ (List.mem_of_getElem? (i := 14) rfl))) ⟨by decide, rfl⟩ ?_
  refine ni_xV (ni_ro [a, b, c, d, e, f] (2718, ni_sV 146 1 18 2721) (ni_me85_41 [a, b, c, d, e, f] _ (List.mem_of_getElem? (i := 15) rfl))) rfl rfl rfl (Nat.le_of_ble_eq_true rfl) (ni_ofO (ni_km146 [a, b, c, d, e, f] _)) ?_
  refine ni_xSt (ni_ro [a, b, c, d, e, f] (2721, ni_sSt 0 7 2723) (ni_me85_41 [a, b, c, d, e, f] _ (List.mem_of_getElem? (i := 16) rfl))) rfl rfl ?_
  refine ni_xLd (ni_ro [a, b, c, d, e, f] (2723, ni_sLd 3 2 2724) (ni_me85_41 [a, b, c, d, e, f] _ (List.mem_of_getElem? (i := 17) rfl))) rfl rfl ?_
  refine ni_xV (ni_ro [a, b, c, d, e, f] (2724, ni_sV 167 0 18 2727) (ni_me85_41 [a, b, c, d, e, f] _ (List.mem_of_getElem? (i := 18) rfl))) rfl rfl rfl (Nat.le_of_ble_eq_true rfl) (ni_ofO (ni_k167 [a, b, c, d, e, f])) ?_
  refine ni_xLd (ni_ro [a, b, c, d, e, f] (2727, ni_sLd 0 6 2729) (ni_me85_41 [a, b, c, d, e, f] _ (List.mem_of_getElem? (i := 19) rfl))) rfl rfl ?_
  refine ni_xIc true (ni_ro [a, b, c, d, e, f] (2729, ni_sP (ni_gIc (fun x y => decide (x = y)) 2734 2732)) (ni_me85_41 [a, b, c, d, e, f] _ (List.mem_of_getElem? (i := 20) rfl))) rfl ?_
  refine ni_xLd (ni_ro [a, b, c, d, e, f] (2734, ni_sLd 0 6 2736) (ni_me85_41 [a, b, c, d, e, f] _ (List.mem_of_getElem? (i := 21) rfl))) rfl rfl ?_
  refine ni_xIf true (ni_ro [a, b, c, d, e, f] (2736, ni_sP (ni_gIf (fun x => decide (¬ x = 0)) 2751 2739)) (ni_me85_41 [a, b, c, d, e, f] _ (List.mem_of_getElem? (i := 22) rfl))) rfl ?_
  refine ni_xP (g := ni_gGo 3317) (ni_ro [a, b, c, d, e, f] (2751, ni_sP (ni_gGo 3317)) (ni_me85_41 [a, b, c, d, e, f] _ (List.mem_of_getElem? (i := 23) rfl))) rfl ?_
  refine ni_xInc (ni_ro [a, b, c, d, e, f] (3317, ni_sInc 5 (6) 3320) (ni_me85_52 [a, b, c, d, e, f] _ (List.mem_of_getElem? (i := 0) rfl))) rfl rfl ?_
  refine ni_xP (g := ni_gGo 28) (ni_ro [a, b, c, d, e, f] (3320, ni_sP (ni_gGo 28)) (ni_me85_52 [a, b, c, d, e, f] _ (List.mem_of_getElem? (i := 1) rfl))) rfl ?_
  refine ni_xLd (ni_ro [a, b, c, d, e, f] (28, ni_sLd 0 5 30) (ni_me85_1 [a, b, c, d, e, f] _ (List.mem_of_getElem? (i := 0) rfl))) rfl rfl ?_
  refine ni_xLd (ni_ro [a, b, c, d, e, f] (30, ni_sLd 3 0 31) (ni_me85_1 [a, b, c, d, e, f] _ (List.mem_of_getElem? (i := 1) rfl))) rfl rfl ?_
  refine ni_xSln (ni_ro [a, b, c, d, e, f] (31, ni_sSln [a, b, c, d, e, f] 32) (ni_me85_1 [a, b, c, d, e, f] _ (List.mem_of_getElem? (i := 2) rfl))) rfl ?_
  refine ni_xP (g := ni_gPush (.int 6) 34) (ni_ro [a, b, c, d, e, f] (32, ni_sP (ni_gPush (.int 6) 34)) (ni_me85_1 [a, b, c, d, e, f] _ (List.mem_of_getElem? (i := 3) rfl))) rfl ?_
  refine ni_xP (g := ni_gI (fun x y => x - y) 35) (ni_ro [a, b, c, d, e, f] (34, ni_sP (ni_gI (fun x y => x - y) 35)) (ni_me85_1 [a, b, c, d, e, f] _ (List.mem_of_getElem? (i := 4) rfl))) rfl ?_
  refine ni_xIc true (ni_ro [a, b, c, d, e, f] (35, ni_sP (ni_gIc (fun x y => decide (y < x)) 3323 38)) (ni_me85_1 [a, b, c, d, e, f] _ (List.mem_of_getElem? (i := 5) rfl))) (show decide (Int32.ofNat 6 - 6 < 0 + 6) = true from by decide) ?_
  refine ni_xP (g := ni_gPush (.int 1) 3324) (ni_ro [a, b, c, d, e, f] (3323, ni_sP (ni_gPush (.int 1) 3324)) (ni_me85_52 [a, b, c, d, e, f] _ (List.mem_of_getElem? (i := 2) rfl))) rfl ?_
  exact ni_xR (ni_ro [a, b, c, d, e, f] (3324, ni_sR (some .boolean)) (ni_me85_52 [a, b, c, d, e, f] _ (List.mem_of_getElem? (i := 3) rfl))) rfl
theorem ni_ca40 (a b c d e f : Int32) : ni_G [a, b, c, d, e, f] 9 85 2754 ni_ls0 [] (ni_P0, 0) (.inl (some (.int 1)), (ni_P1, 1)) := by
  refine ni_xLd (ni_ro [a, b, c, d, e, f] (2754, ni_sLd 3 1 2755) (ni_me85_42 [a, b, c, d, e, f] _ (List.mem_of_getElem? (i := 0) rfl))) rfl rfl ?_
  refine ni_xLd (ni_ro [a, b, c, d, e, f] (2755, ni_sLd 3 0 2756) (ni_me85_42 [a, b, c, d, e, f] _ (List.mem_of_getElem? (i := 1) rfl))) rfl rfl ?_
  refine ni_xLd (ni_ro [a, b, c, d, e, f] (2756, ni_sLd 0 5 2758) (ni_me85_42 [a, b, c, d, e, f] _ (List.mem_of_getElem? (i := 2) rfl))) rfl rfl ?_
  refine ni_xP (g := ni_gPush (.int 1) 2759) (ni_ro [a, b, c, d, e, f] (2758, ni_sP (ni_gPush (.int 1) 2759)) (ni_me85_42 [a, b, c, d, e, f] _ (List.mem_of_getElem? (i := 3) rfl))) rfl ?_
  refine ni_xP (g := ni_gI (fun x y => x + y) 2760) (ni_ro [a, b, c, d, e, f] (2759, ni_sP (ni_gI (fun x y => x + y) 2760)) (ni_me85_42 [a, b, c, d, e, f] _ (List.mem_of_getElem? (i := 4) rfl))) rfl ?_
  refine ni_xSld (ni_ro [a, b, c, d, e, f] (2760, ni_sSld [a, b, c, d, e, f] 2761) (ni_me85_42 [a, b, c, d, e, f] _ (List.mem_of_getElem? (i := 5) rfl))) ⟨by decide, rfl⟩ ?_
  refine ni_xLd (ni_ro [a, b, c, d, e, f] (2761, ni_sLd 3 3 2762) (ni_me85_42 [a, b, c, d, e, f] _ (List.mem_of_getElem? (i := 6) rfl))) rfl rfl ?_
  refine ni_xC (ni_ro [a, b, c, d, e, f] (2762, ni_sC 103 3 2765) (ni_me85_42 [a, b, c, d, e, f] _ (List.mem_of_getElem? (i := 7) rfl))) (Nat.le_of_ble_eq_true rfl) rfl rfl (Nat.le_of_ble_eq_true rfl) (ni_ofO (ni_kw103 [a, b, c, d, e, f] _)) ?_
  refine ni_xSt (ni_ro [a, b, c, d, e, f] (2765, ni_sSt 0 6 2767) (ni_me85_42 [a, b, c, d, e, f] _ (List.mem_of_getElem? (i := 8) rfl))) rfl rfl ?_
  refine ni_xLd (ni_ro [a, b, c, d, e, f] (2767, ni_sLd 3 2 2768) (ni_me85_42 [a, b, c, d, e, f] _ (List.mem_of_getElem? (i := 9) rfl))) rfl rfl ?_
  refine ni_xLd (ni_ro [a, b, c, d, e, f] (2768, ni_sLd 3 0 2769) (ni_me85_42 [a, b, c, d, e, f] _ (List.mem_of_getElem? (i := 10) rfl))) rfl rfl ?_
  refine ni_xLd (ni_ro [a, b, c, d, e, f] (2769, ni_sLd 0 5 2771) (ni_me85_42 [a, b, c, d, e, f] _ (List.mem_of_getElem? (i := 11) rfl))) rfl rfl ?_
  refine ni_xP (g := ni_gPush (.int 1) 2772) (ni_ro [a, b, c, d, e, f] (2771, ni_sP (ni_gPush (.int 1) 2772)) (ni_me85_42 [a, b, c, d, e, f] _ (List.mem_of_getElem? (i := 12) rfl))) rfl ?_
  refine ni_xP (g := ni_gI (fun x y => x + y) 2773) (ni_ro [a, b, c, d, e, f] (2772, ni_sP (ni_gI (fun x y => x + y) 2773)) (ni_me85_42 [a, b, c, d, e, f] _ (List.mem_of_getElem? (i := 13) rfl))) rfl ?_
  refine ni_xSld (ni_ro [a, b, c, d, e, f] (2773, ni_sSld [a, b, c, d, e, f] 2774) (ni_me85_42 [a, b, c, d, e, f] _ (List.mem_of_getElem? (i := 14) rfl))) ⟨by decide, rfl⟩ ?_
  refine ni_xV (ni_ro [a, b, c, d, e, f] (2774, ni_sV 162 1 18 2777) (ni_me85_42 [a, b, c, d, e, f] _ (List.mem_of_getElem? (i := 15) rfl))) rfl rfl rfl (Nat.le_of_ble_eq_true rfl) (ni_ofO (ni_km162 [a, b, c, d, e, f] _)) ?_
  refine ni_xSt (ni_ro [a, b, c, d, e, f] (2777, ni_sSt 0 7 2779) (ni_me85_42 [a, b, c, d, e, f] _ (List.mem_of_getElem? (i := 16) rfl))) rfl rfl ?_
  refine ni_xLd (ni_ro [a, b, c, d, e, f] (2779, ni_sLd 3 2 2780) (ni_me85_42 [a, b, c, d, e, f] _ (List.mem_of_getElem? (i := 17) rfl))) rfl rfl ?_
  refine ni_xV (ni_ro [a, b, c, d, e, f] (2780, ni_sV 167 0 18 2783) (ni_me85_42 [a, b, c, d, e, f] _ (List.mem_of_getElem? (i := 18) rfl))) rfl rfl rfl (Nat.le_of_ble_eq_true rfl) (ni_ofO (ni_k167 [a, b, c, d, e, f])) ?_
  refine ni_xLd (ni_ro [a, b, c, d, e, f] (2783, ni_sLd 0 6 2785) (ni_me85_42 [a, b, c, d, e, f] _ (List.mem_of_getElem? (i := 19) rfl))) rfl rfl ?_
  refine ni_xIc true (ni_ro [a, b, c, d, e, f] (2785, ni_sP (ni_gIc (fun x y => decide (x = y)) 2790 2788)) (ni_me85_42 [a, b, c, d, e, f] _ (List.mem_of_getElem? (i := 20) rfl))) rfl ?_
  refine ni_xLd (ni_ro [a, b, c, d, e, f] (2790, ni_sLd 0 6 2792) (ni_me85_42 [a, b, c, d, e, f] _ (List.mem_of_getElem? (i := 21) rfl))) rfl rfl ?_
  refine ni_xIf true (ni_ro [a, b, c, d, e, f] (2792, ni_sP (ni_gIf (fun x => decide (¬ x = 0)) 2807 2795)) (ni_me85_42 [a, b, c, d, e, f] _ (List.mem_of_getElem? (i := 22) rfl))) rfl ?_
  refine ni_xP (g := ni_gGo 3317) (ni_ro [a, b, c, d, e, f] (2807, ni_sP (ni_gGo 3317)) (ni_me85_42 [a, b, c, d, e, f] _ (List.mem_of_getElem? (i := 23) rfl))) rfl ?_
  refine ni_xInc (ni_ro [a, b, c, d, e, f] (3317, ni_sInc 5 (6) 3320) (ni_me85_52 [a, b, c, d, e, f] _ (List.mem_of_getElem? (i := 0) rfl))) rfl rfl ?_
  refine ni_xP (g := ni_gGo 28) (ni_ro [a, b, c, d, e, f] (3320, ni_sP (ni_gGo 28)) (ni_me85_52 [a, b, c, d, e, f] _ (List.mem_of_getElem? (i := 1) rfl))) rfl ?_
  refine ni_xLd (ni_ro [a, b, c, d, e, f] (28, ni_sLd 0 5 30) (ni_me85_1 [a, b, c, d, e, f] _ (List.mem_of_getElem? (i := 0) rfl))) rfl rfl ?_
  refine ni_xLd (ni_ro [a, b, c, d, e, f] (30, ni_sLd 3 0 31) (ni_me85_1 [a, b, c, d, e, f] _ (List.mem_of_getElem? (i := 1) rfl))) rfl rfl ?_
  refine ni_xSln (ni_ro [a, b, c, d, e, f] (31, ni_sSln [a, b, c, d, e, f] 32) (ni_me85_1 [a, b, c, d, e, f] _ (List.mem_of_getElem? (i := 2) rfl))) rfl ?_
  refine ni_xP (g := ni_gPush (.int 6) 34) (ni_ro [a, b, c, d, e, f] (32, ni_sP (ni_gPush (.int 6) 34)) (ni_me85_1 [a, b, c, d, e, f] _ (List.mem_of_getElem? (i := 3) rfl))) rfl ?_
  refine ni_xP (g := ni_gI (fun x y => x - y) 35) (ni_ro [a, b, c, d, e, f] (34, ni_sP (ni_gI (fun x y => x - y) 35)) (ni_me85_1 [a, b, c, d, e, f] _ (List.mem_of_getElem? (i := 4) rfl))) rfl ?_
  refine ni_xIc true (ni_ro [a, b, c, d, e, f] (35, ni_sP (ni_gIc (fun x y => decide (y < x)) 3323 38)) (ni_me85_1 [a, b, c, d, e, f] _ (List.mem_of_getElem? (i := 5) rfl))) (show decide (Int32.ofNat 6 - 6 < 0 + 6) = true from by decide) ?_
  refine ni_xP (g := ni_gPush (.int 1) 3324) (ni_ro [a, b, c, d, e, f] (3323, ni_sP (ni_gPush (.int 1) 3324)) (ni_me85_52 [a, b, c, d, e, f] _ (List.mem_of_getElem? (i := 2) rfl))) rfl ?_
  exact ni_xR (ni_ro [a, b, c, d, e, f] (3324, ni_sR (some .boolean)) (ni_me85_52 [a, b, c, d, e, f] _ (List.mem_of_getElem? (i := 3) rfl))) rfl
theorem ni_ca41 (a b c d e f : Int32) : ni_G [a, b, c, d, e, f] 9 85 2810 ni_ls0 [] (ni_P0, 0) (.inl (some (.int 1)), (ni_P1, 1)) := by
  refine ni_xLd (ni_ro [a, b, c, d, e, f] (2810, ni_sLd 3 1 2811) (ni_me85_43 [a, b, c, d, e, f] _ (List.mem_of_getElem? (i := 0) rfl))) rfl rfl ?_
  refine ni_xLd (ni_ro [a, b, c, d, e, f] (2811, ni_sLd 3 0 2812) (ni_me85_43 [a, b, c, d, e, f] _ (List.mem_of_getElem? (i := 1) rfl))) rfl rfl ?_
  refine ni_xLd (ni_ro [a, b, c, d, e, f] (2812, ni_sLd 0 5 2814) (ni_me85_43 [a, b, c, d, e, f] _ (List.mem_of_getElem? (i := 2) rfl))) rfl rfl ?_
  refine ni_xP (g := ni_gPush (.int 1) 2815) (ni_ro [a, b, c, d, e, f] (2814, ni_sP (ni_gPush (.int 1) 2815)) (ni_me85_43 [a, b, c, d, e, f] _ (List.mem_of_getElem? (i := 3) rfl))) rfl ?_
  refine ni_xP (g := ni_gI (fun x y => x + y) 2816) (ni_ro [a, b, c, d, e, f] (2815, ni_sP (ni_gI (fun x y => x + y) 2816)) (ni_me85_43 [a, b, c, d, e, f] _ (List.mem_of_getElem? (i := 4) rfl))) rfl ?_
  refine ni_xSld (ni_ro [a, b, c, d, e, f] (2816, ni_sSld [a, b, c, d, e, f] 2817) (ni_me85_43 [a, b, c, d, e, f] _ (List.mem_of_getElem? (i := 5) rfl))) ⟨by decide, rfl⟩ ?_
  refine ni_xLd (ni_ro [a, b, c, d, e, f] (2817, ni_sLd 3 3 2818) (ni_me85_43 [a, b, c, d, e, f] _ (List.mem_of_getElem? (i := 6) rfl))) rfl rfl ?_
  refine ni_xC (ni_ro [a, b, c, d, e, f] (2818, ni_sC 106 3 2821) (ni_me85_43 [a, b, c, d, e, f] _ (List.mem_of_getElem? (i := 7) rfl))) (Nat.le_of_ble_eq_true rfl) rfl rfl (Nat.le_of_ble_eq_true rfl) (ni_ofO (ni_kw106 [a, b, c, d, e, f] _)) ?_
  refine ni_xSt (ni_ro [a, b, c, d, e, f] (2821, ni_sSt 0 6 2823) (ni_me85_43 [a, b, c, d, e, f] _ (List.mem_of_getElem? (i := 8) rfl))) rfl rfl ?_
  refine ni_xLd (ni_ro [a, b, c, d, e, f] (2823, ni_sLd 3 2 2824) (ni_me85_43 [a, b, c, d, e, f] _ (List.mem_of_getElem? (i := 9) rfl))) rfl rfl ?_
  refine ni_xLd (ni_ro [a, b, c, d, e, f] (2824, ni_sLd 3 0 2825) (ni_me85_43 [a, b, c, d, e, f] _ (List.mem_of_getElem? (i := 10) rfl))) rfl rfl ?_
  refine ni_xLd (ni_ro [a, b, c, d, e, f] (2825, ni_sLd 0 5 2827) (ni_me85_43 [a, b, c, d, e, f] _ (List.mem_of_getElem? (i := 11) rfl))) rfl rfl ?_
  refine ni_xP (g := ni_gPush (.int 1) 2828) (ni_ro [a, b, c, d, e, f] (2827, ni_sP (ni_gPush (.int 1) 2828)) (ni_me85_43 [a, b, c, d, e, f] _ (List.mem_of_getElem? (i := 12) rfl))) rfl ?_
  refine ni_xP (g := ni_gI (fun x y => x + y) 2829) (ni_ro [a, b, c, d, e, f] (2828, ni_sP (ni_gI (fun x y => x + y) 2829)) (ni_me85_43 [a, b, c, d, e, f] _ (List.mem_of_getElem? (i := 13) rfl))) rfl ?_
  refine ni_xSld (ni_ro [a, b, c, d, e, f] (2829, ni_sSld [a, b, c, d, e, f] 2830) (ni_me85_43 [a, b, c, d, e, f] _ (List.mem_of_getElem? (i := 14) rfl))) ⟨by decide, rfl⟩ ?_
  refine ni_xV (ni_ro [a, b, c, d, e, f] (2830, ni_sV 169 1 18 2833) (ni_me85_43 [a, b, c, d, e, f] _ (List.mem_of_getElem? (i := 15) rfl))) rfl rfl rfl (Nat.le_of_ble_eq_true rfl) (ni_ofO (ni_km169 [a, b, c, d, e, f] _)) ?_
  refine ni_xSt (ni_ro [a, b, c, d, e, f] (2833, ni_sSt 0 7 2835) (ni_me85_43 [a, b, c, d, e, f] _ (List.mem_of_getElem? (i := 16) rfl))) rfl rfl ?_
  refine ni_xLd (ni_ro [a, b, c, d, e, f] (2835, ni_sLd 3 2 2836) (ni_me85_43 [a, b, c, d, e, f] _ (List.mem_of_getElem? (i := 17) rfl))) rfl rfl ?_
  refine ni_xV (ni_ro [a, b, c, d, e, f] (2836, ni_sV 167 0 18 2839) (ni_me85_43 [a, b, c, d, e, f] _ (List.mem_of_getElem? (i := 18) rfl))) rfl rfl rfl (Nat.le_of_ble_eq_true rfl) (ni_ofO (ni_k167 [a, b, c, d, e, f])) ?_
  refine ni_xLd (ni_ro [a, b, c, d, e, f] (2839, ni_sLd 0 6 2841) (ni_me85_43 [a, b, c, d, e, f] _ (List.mem_of_getElem? (i := 19) rfl))) rfl rfl ?_
  refine ni_xIc true (ni_ro [a, b, c, d, e, f] (2841, ni_sP (ni_gIc (fun x y => decide (x = y)) 2846 2844)) (ni_me85_43 [a, b, c, d, e, f] _ (List.mem_of_getElem? (i := 20) rfl))) rfl ?_
  refine ni_xLd (ni_ro [a, b, c, d, e, f] (2846, ni_sLd 0 6 2848) (ni_me85_43 [a, b, c, d, e, f] _ (List.mem_of_getElem? (i := 21) rfl))) rfl rfl ?_
  refine ni_xIf true (ni_ro [a, b, c, d, e, f] (2848, ni_sP (ni_gIf (fun x => decide (¬ x = 0)) 2863 2851)) (ni_me85_43 [a, b, c, d, e, f] _ (List.mem_of_getElem? (i := 22) rfl))) rfl ?_
  refine ni_xP (g := ni_gGo 3317) (ni_ro [a, b, c, d, e, f] (2863, ni_sP (ni_gGo 3317)) (ni_me85_43 [a, b, c, d, e, f] _ (List.mem_of_getElem? (i := 23) rfl))) rfl ?_
  refine ni_xInc (ni_ro [a, b, c, d, e, f] (3317, ni_sInc 5 (6) 3320) (ni_me85_52 [a, b, c, d, e, f] _ (List.mem_of_getElem? (i := 0) rfl))) rfl rfl ?_
  refine ni_xP (g := ni_gGo 28) (ni_ro [a, b, c, d, e, f] (3320, ni_sP (ni_gGo 28)) (ni_me85_52 [a, b, c, d, e, f] _ (List.mem_of_getElem? (i := 1) rfl))) rfl ?_
  refine ni_xLd (ni_ro [a, b, c, d, e, f] (28, ni_sLd 0 5 30) (ni_me85_1 [a, b, c, d, e, f] _ (List.mem_of_getElem? (i := 0) rfl))) rfl rfl ?_
  refine ni_xLd (ni_ro [a, b, c, d, e, f] (30, ni_sLd 3 0 31) (ni_me85_1 [a, b, c, d, e, f] _ (List.mem_of_getElem? (i := 1) rfl))) rfl rfl ?_
  refine ni_xSln (ni_ro [a, b, c, d, e, f] (31, ni_sSln [a, b, c, d, e, f] 32) (ni_me85_1 [a, b, c, d, e, f] _ (List.mem_of_getElem? (i := 2) rfl))) rfl ?_
  refine ni_xP (g := ni_gPush (.int 6) 34) (ni_ro [a, b, c, d, e, f] (32, ni_sP (ni_gPush (.int 6) 34)) (ni_me85_1 [a, b, c, d, e, f] _ (List.mem_of_getElem? (i := 3) rfl))) rfl ?_
  refine ni_xP (g := ni_gI (fun x y => x - y) 35) (ni_ro [a, b, c, d, e, f] (34, ni_sP (ni_gI (fun x y => x - y) 35)) (ni_me85_1 [a, b, c, d, e, f] _ (List.mem_of_getElem? (i := 4) rfl))) rfl ?_
  refine ni_xIc true (ni_ro [a, b, c, d, e, f] (35, ni_sP (ni_gIc (fun x y => decide (y < x)) 3323 38)) (ni_me85_1 [a, b, c, d, e, f] _ (List.mem_of_getElem? (i := 5) rfl))) (show decide (Int32.ofNat 6 - 6 < 0 + 6) = true from by decide) ?_
  refine ni_xP (g := ni_gPush (.int 1) 3324) (ni_ro [a, b, c, d, e, f] (3323, ni_sP (ni_gPush (.int 1) 3324)) (ni_me85_52 [a, b, c, d, e, f] _ (List.mem_of_getElem? (i := 2) rfl))) rfl ?_
  exact ni_xR (ni_ro [a, b, c, d, e, f] (3324, ni_sR (some .boolean)) (ni_me85_52 [a, b, c, d, e, f] _ (List.mem_of_getElem? (i := 3) rfl))) rfl
theorem ni_ca42 (a b c d e f : Int32) : ni_G [a, b, c, d, e, f] 9 85 2866 ni_ls0 [] (ni_P0, 0) (.inl (some (.int 1)), (ni_P1, 1)) := by
  refine ni_xLd (ni_ro [a, b, c, d, e, f] (2866, ni_sLd 3 1 2867) (ni_me85_44 [a, b, c, d, e, f] _ (List.mem_of_getElem? (i := 0) rfl))) rfl rfl ?_
  refine ni_xLd (ni_ro [a, b, c, d, e, f] (2867, ni_sLd 3 0 2868) (ni_me85_44 [a, b, c, d, e, f] _ (List.mem_of_getElem? (i := 1) rfl))) rfl rfl ?_
  refine ni_xLd (ni_ro [a, b, c, d, e, f] (2868, ni_sLd 0 5 2870) (ni_me85_44 [a, b, c, d, e, f] _ (List.mem_of_getElem? (i := 2) rfl))) rfl rfl ?_
  refine ni_xP (g := ni_gPush (.int 1) 2871) (ni_ro [a, b, c, d, e, f] (2870, ni_sP (ni_gPush (.int 1) 2871)) (ni_me85_44 [a, b, c, d, e, f] _ (List.mem_of_getElem? (i := 3) rfl))) rfl ?_
  refine ni_xP (g := ni_gI (fun x y => x + y) 2872) (ni_ro [a, b, c, d, e, f] (2871, ni_sP (ni_gI (fun x y => x + y) 2872)) (ni_me85_44 [a, b, c, d, e, f] _ (List.mem_of_getElem? (i := 4) rfl))) rfl ?_
  refine ni_xSld (ni_ro [a, b, c, d, e, f] (2872, ni_sSld [a, b, c, d, e, f] 2873) (ni_me85_44 [a, b, c, d, e, f] _ (List.mem_of_getElem? (i := 5) rfl))) ⟨by decide, rfl⟩ ?_
  refine ni_xLd (ni_ro [a, b, c, d, e, f] (2873, ni_sLd 3 3 2874) (ni_me85_44 [a, b, c, d, e, f] _ (List.mem_of_getElem? (i := 6) rfl))) rfl rfl ?_
  refine ni_xC (ni_ro [a, b, c, d, e, f] (2874, ni_sC 74 3 2877) (ni_me85_44 [a, b, c, d, e, f] _ (List.mem_of_getElem? (i := 7) rfl))) (Nat.le_of_ble_eq_true rfl) rfl rfl (Nat.le_of_ble_eq_true rfl) (ni_ofO (ni_kw74 [a, b, c, d, e, f] _)) ?_
  refine ni_xSt (ni_ro [a, b, c, d, e, f] (2877, ni_sSt 0 6 2879) (ni_me85_44 [a, b, c, d, e, f] _ (List.mem_of_getElem? (i := 8) rfl))) rfl rfl ?_
  refine ni_xLd (ni_ro [a, b, c, d, e, f] (2879, ni_sLd 3 2 2880) (ni_me85_44 [a, b, c, d, e, f] _ (List.mem_of_getElem? (i := 9) rfl))) rfl rfl ?_
  refine ni_xLd (ni_ro [a, b, c, d, e, f] (2880, ni_sLd 3 0 2881) (ni_me85_44 [a, b, c, d, e, f] _ (List.mem_of_getElem? (i := 10) rfl))) rfl rfl ?_
  refine ni_xLd (ni_ro [a, b, c, d, e, f] (2881, ni_sLd 0 5 2883) (ni_me85_44 [a, b, c, d, e, f] _ (List.mem_of_getElem? (i := 11) rfl))) rfl rfl ?_
  refine ni_xP (g := ni_gPush (.int 1) 2884) (ni_ro [a, b, c, d, e, f] (2883, ni_sP (ni_gPush (.int 1) 2884)) (ni_me85_44 [a, b, c, d, e, f] _ (List.mem_of_getElem? (i := 12) rfl))) rfl ?_
  refine ni_xP (g := ni_gI (fun x y => x + y) 2885) (ni_ro [a, b, c, d, e, f] (2884, ni_sP (ni_gI (fun x y => x + y) 2885)) (ni_me85_44 [a, b, c, d, e, f] _ (List.mem_of_getElem? (i := 13) rfl))) rfl ?_
  refine ni_xSld (ni_ro [a, b, c, d, e, f] (2885, ni_sSld [a, b, c, d, e, f] 2886) (ni_me85_44 [a, b, c, d, e, f] _ (List.mem_of_getElem? (i := 14) rfl))) ⟨by decide, rfl⟩ ?_
  refine ni_xV (ni_ro [a, b, c, d, e, f] (2886, ni_sV 119 1 18 2889) (ni_me85_44 [a, b, c, d, e, f] _ (List.mem_of_getElem? (i := 15) rfl))) rfl rfl rfl (Nat.le_of_ble_eq_true rfl) (ni_ofO (ni_km119 [a, b, c, d, e, f] _)) ?_
  refine ni_xSt (ni_ro [a, b, c, d, e, f] (2889, ni_sSt 0 7 2891) (ni_me85_44 [a, b, c, d, e, f] _ (List.mem_of_getElem? (i := 16) rfl))) rfl rfl ?_
  refine ni_xLd (ni_ro [a, b, c, d, e, f] (2891, ni_sLd 3 2 2892) (ni_me85_44 [a, b, c, d, e, f] _ (List.mem_of_getElem? (i := 17) rfl))) rfl rfl ?_
  refine ni_xV (ni_ro [a, b, c, d, e, f] (2892, ni_sV 167 0 18 2895) (ni_me85_44 [a, b, c, d, e, f] _ (List.mem_of_getElem? (i := 18) rfl))) rfl rfl rfl (Nat.le_of_ble_eq_true rfl) (ni_ofO (ni_k167 [a, b, c, d, e, f])) ?_
  refine ni_xLd (ni_ro [a, b, c, d, e, f] (2895, ni_sLd 0 6 2897) (ni_me85_44 [a, b, c, d, e, f] _ (List.mem_of_getElem? (i := 19) rfl))) rfl rfl ?_
  refine ni_xIc true (ni_ro [a, b, c, d, e, f] (2897, ni_sP (ni_gIc (fun x y => decide (x = y)) 2902 2900)) (ni_me85_44 [a, b, c, d, e, f] _ (List.mem_of_getElem? (i := 20) rfl))) rfl ?_
  refine ni_xLd (ni_ro [a, b, c, d, e, f] (2902, ni_sLd 0 6 2904) (ni_me85_44 [a, b, c, d, e, f] _ (List.mem_of_getElem? (i := 21) rfl))) rfl rfl ?_
  refine ni_xIf true (ni_ro [a, b, c, d, e, f] (2904, ni_sP (ni_gIf (fun x => decide (¬ x = 0)) 2919 2907)) (ni_me85_44 [a, b, c, d, e, f] _ (List.mem_of_getElem? (i := 22) rfl))) rfl ?_
  refine ni_xP (g := ni_gGo 3317) (ni_ro [a, b, c, d, e, f] (2919, ni_sP (ni_gGo 3317)) (ni_me85_44 [a, b, c, d, e, f] _ (List.mem_of_getElem? (i := 23) rfl))) rfl ?_
  refine ni_xInc (ni_ro [a, b, c, d, e, f] (3317, ni_sInc 5 (6) 3320) (ni_me85_52 [a, b, c, d, e, f] _ (List.mem_of_getElem? (i := 0) rfl))) rfl rfl ?_
  refine ni_xP (g := ni_gGo 28) (ni_ro [a, b, c, d, e, f] (3320, ni_sP (ni_gGo 28)) (ni_me85_52 [a, b, c, d, e, f] _ (List.mem_of_getElem? (i := 1) rfl))) rfl ?_
  refine ni_xLd (ni_ro [a, b, c, d, e, f] (28, ni_sLd 0 5 30) (ni_me85_1 [a, b, c, d, e, f] _ (List.mem_of_getElem? (i := 0) rfl))) rfl rfl ?_
  refine ni_xLd (ni_ro [a, b, c, d, e, f] (30, ni_sLd 3 0 31) (ni_me85_1 [a, b, c, d, e, f] _ (List.mem_of_getElem? (i := 1) rfl))) rfl rfl ?_
  refine ni_xSln (ni_ro [a, b, c, d, e, f] (31, ni_sSln [a, b, c, d, e, f] 32) (ni_me85_1 [a, b, c, d, e, f] _ (List.mem_of_getElem? (i := 2) rfl))) rfl ?_
  refine ni_xP (g := ni_gPush (.int 6) 34) (ni_ro [a, b, c, d, e, f] (32, ni_sP (ni_gPush (.int 6) 34)) (ni_me85_1 [a, b, c, d, e, f] _ (List.mem_of_getElem? (i := 3) rfl))) rfl ?_
  refine ni_xP (g := ni_gI (fun x y => x - y) 35) (ni_ro [a, b, c, d, e, f] (34, ni_sP (ni_gI (fun x y => x - y) 35)) (ni_me85_1 [a, b, c, d, e, f] _ (List.mem_of_getElem? (i := 4) rfl))) rfl ?_
  refine ni_xIc true (ni_ro [a, b, c, d, e, f] (35, ni_sP (ni_gIc (fun x y => decide (y < x)) 3323 38)) (ni_me85_1 [a, b, c, d, e, f] _ (List.mem_of_getElem? (i := 5) rfl))) (show decide (Int32.ofNat 6 - 6 < 0 + 6) = true from by decide) ?_
  refine ni_xP (g := ni_gPush (.int 1) 3324) (ni_ro [a, b, c, d, e, f] (3323, ni_sP (ni_gPush (.int 1) 3324)) (ni_me85_52 [a, b, c, d, e, f] _ (List.mem_of_getElem? (i := 2) rfl))) rfl ?_
  exact ni_xR (ni_ro [a, b, c, d, e, f] (3324, ni_sR (some .boolean)) (ni_me85_52 [a, b, c, d, e, f] _ (List.mem_of_getElem? (i := 3) rfl))) rfl
theorem ni_ca43 (a b c d e f : Int32) : ni_G [a, b, c, d, e, f] 9 85 2922 ni_ls0 [] (ni_P0, 0) (.inl (some (.int 1)), (ni_P1, 1)) := by
  refine ni_xLd (ni_ro [a, b, c, d, e, f] (2922, ni_sLd 3 1 2923) (ni_me85_45 [a, b, c, d, e, f] _ (List.mem_of_getElem? (i := 0) rfl))) rfl rfl ?_
  refine ni_xLd (ni_ro [a, b, c, d, e, f] (2923, ni_sLd 3 0 2924) (ni_me85_45 [a, b, c, d, e, f] _ (List.mem_of_getElem? (i := 1) rfl))) rfl rfl ?_
  refine ni_xLd (ni_ro [a, b, c, d, e, f] (2924, ni_sLd 0 5 2926) (ni_me85_45 [a, b, c, d, e, f] _ (List.mem_of_getElem? (i := 2) rfl))) rfl rfl ?_
  refine ni_xP (g := ni_gPush (.int 1) 2927) (ni_ro [a, b, c, d, e, f] (2926, ni_sP (ni_gPush (.int 1) 2927)) (ni_me85_45 [a, b, c, d, e, f] _ (List.mem_of_getElem? (i := 3) rfl))) rfl ?_
  refine ni_xP (g := ni_gI (fun x y => x + y) 2928) (ni_ro [a, b, c, d, e, f] (2927, ni_sP (ni_gI (fun x y => x + y) 2928)) (ni_me85_45 [a, b, c, d, e, f] _ (List.mem_of_getElem? (i := 4) rfl))) rfl ?_
  refine ni_xSld (ni_ro [a, b, c, d, e, f] (2928, ni_sSld [a, b, c, d, e, f] 2929) (ni_me85_45 [a, b, c, d, e, f] _ (List.mem_of_getElem? (i := 5) rfl))) ⟨by decide, rfl⟩ ?_
  refine ni_xLd (ni_ro [a, b, c, d, e, f] (2929, ni_sLd 3 0 2930) (ni_me85_45 [a, b, c, d, e, f] _ (List.mem_of_getElem? (i := 6) rfl))) rfl rfl ?_
  refine ni_xLd (ni_ro [a, b, c, d, e, f] (2930, ni_sLd 0 5 2932) (ni_me85_45 [a, b, c, d, e, f] _ (List.mem_of_getElem? (i := 7) rfl))) rfl rfl ?_
  refine ni_xP (g := ni_gPush (.int 2) 2933) (ni_ro [a, b, c, d, e, f] (2932, ni_sP (ni_gPush (.int 2) 2933)) (ni_me85_45 [a, b, c, d, e, f] _ (List.mem_of_getElem? (i := 8) rfl))) rfl ?_
  refine ni_xP (g := ni_gI (fun x y => x + y) 2934) (ni_ro [a, b, c, d, e, f] (2933, ni_sP (ni_gI (fun x y => x + y) 2934)) (ni_me85_45 [a, b, c, d, e, f] _ (List.mem_of_getElem? (i := 9) rfl))) rfl ?_
  refine ni_xSld (ni_ro [a, b, c, d, e, f] (2934, ni_sSld [a, b, c, d, e, f] 2935) (ni_me85_45 [a, b, c, d, e, f] _ (List.mem_of_getElem? (i := 10) rfl))) ⟨by decide, rfl⟩ ?_
  refine ni_xLd (ni_ro [a, b, c, d, e, f] (2935, ni_sLd 3 3 2936) (ni_me85_45 [a, b, c, d, e, f] _ (List.mem_of_getElem? (i := 11) rfl))) rfl rfl ?_
  refine ni_xC (ni_ro [a, b, c, d, e, f] (2936, ni_sC 79 4 2939) (ni_me85_45 [a, b, c, d, e, f] _ (List.mem_of_getElem? (i := 12) rfl))) (Nat.le_of_ble_eq_true rfl) rfl rfl (Nat.le_of_ble_eq_true rfl) (ni_ofO (ni_kw79 [a, b, c, d, e, f] _ _)) ?_
  refine ni_xSt (ni_ro [a, b, c, d, e, f] (2939, ni_sSt 0 6 2941) (ni_me85_45 [a, b, c, d, e, f] _ (List.mem_of_getElem? (i := 13) rfl))) rfl rfl ?_
  refine ni_xLd (ni_ro [a, b, c, d, e, f] (2941, ni_sLd 3 2 2942) (ni_me85_45 [a, b, c, d, e, f] _ (List.mem_of_getElem? (i := 14) rfl))) rfl rfl ?_
  refine ni_xLd (ni_ro [a, b, c, d, e, f] (2942, ni_sLd 3 0 2943) (ni_me85_45 [a, b, c, d, e, f] _ (List.mem_of_getElem? (i := 15) rfl))) rfl rfl ?_
  refine ni_xLd (ni_ro [a, b, c, d, e, f] (2943, ni_sLd 0 5 2945) (ni_me85_45 [a, b, c, d, e, f] _ (List.mem_of_getElem? (i := 16) rfl))) rfl rfl ?_
  refine ni_xP (g := ni_gPush (.int 1) 2946) (ni_ro [a, b, c, d, e, f] (2945, ni_sP (ni_gPush (.int 1) 2946)) (ni_me85_45 [a, b, c, d, e, f] _ (List.mem_of_getElem? (i := 17) rfl))) rfl ?_
  refine ni_xP (g := ni_gI (fun x y => x + y) 2947) (ni_ro [a, b, c, d, e, f] (2946, ni_sP (ni_gI (fun x y => x + y) 2947)) (ni_me85_45 [a, b, c, d, e, f] _ (List.mem_of_getElem? (i := 18) rfl))) rfl ?_
  refine ni_xSld (ni_ro [a, b, c, d, e, f] (2947, ni_sSld [a, b, c, d, e, f] 2948) (ni_me85_45 [a, b, c, d, e, f] _ (List.mem_of_getElem? (i := 19) rfl))) ⟨by decide, rfl⟩ ?_
  refine ni_xLd (ni_ro [a, b, c, d, e, f] (2948, ni_sLd 3 0 2949) (ni_me85_45 [a, b, c, d, e, f] _ (List.mem_of_getElem? (i := 20) rfl))) rfl rfl ?_
  refine ni_xLd (ni_ro [a, b, c, d, e, f] (2949, ni_sLd 0 5 2951) (ni_me85_45 [a, b, c, d, e, f] _ (List.mem_of_getElem? (i := 21) rfl))) rfl rfl ?_
  refine ni_xP (g := ni_gPush (.int 2) 2952) (ni_ro [a, b, c, d, e, f] (2951, ni_sP (ni_gPush (.int 2) 2952)) (ni_me85_45 [a, b, c, d, e, f] _ (List.mem_of_getElem? (i := 22) rfl))) rfl ?_
  refine ni_xP (g := ni_gI (fun x y => x + y) 2953) (ni_ro [a, b, c, d, e, f] (2952, ni_sP (ni_gI (fun x y => x + y) 2953)) (ni_me85_45 [a, b, c, d, e, f] _ (List.mem_of_getElem? (i := 23) rfl))) rfl ?_
  refine ni_xSld (ni_ro [a, b, c, d, e, f] (2953, ni_sSld [a, b, c, d, e, f] 2954) (ni_me85_45 [a, b, c, d, e, f] _ (List.mem_of_getElem? (i := 24) rfl))) ⟨by decide, rfl⟩ ?_
  refine ni_xV (ni_ro [a, b, c, d, e, f] (2954, ni_sV 125 2 18 2957) (ni_me85_45 [a, b, c, d, e, f] _ (List.mem_of_getElem? (i := 25) rfl))) rfl rfl rfl (Nat.le_of_ble_eq_true rfl) (ni_ofO (ni_km125 [a, b, c, d, e, f] _ _)) ?_
  refine ni_xSt (ni_ro [a, b, c, d, e, f] (2957, ni_sSt 0 7 2959) (ni_me85_45 [a, b, c, d, e, f] _ (List.mem_of_getElem? (i := 26) rfl))) rfl rfl ?_
  refine ni_xLd (ni_ro [a, b, c, d, e, f] (2959, ni_sLd 3 2 2960) (ni_me85_45 [a, b, c, d, e, f] _ (List.mem_of_getElem? (i := 27) rfl))) rfl rfl ?_
  refine ni_xV (ni_ro [a, b, c, d, e, f] (2960, ni_sV 167 0 18 2963) (ni_me85_45 [a, b, c, d, e, f] _ (List.mem_of_getElem? (i := 28) rfl))) rfl rfl rfl (Nat.le_of_ble_eq_true rfl) (ni_ofO (ni_k167 [a, b, c, d, e, f])) ?_
  refine ni_xLd (ni_ro [a, b, c, d, e, f] (2963, ni_sLd 0 6 2965) (ni_me85_45 [a, b, c, d, e, f] _ (List.mem_of_getElem? (i := 29) rfl))) rfl rfl ?_
  refine ni_xIc true (ni_ro [a, b, c, d, e, f] (2965, ni_sP (ni_gIc (fun x y => decide (x = y)) 2970 2968)) (ni_me85_45 [a, b, c, d, e, f] _ (List.mem_of_getElem? (i := 30) rfl))) rfl ?_
  refine ni_xLd (ni_ro [a, b, c, d, e, f] (2970, ni_sLd 0 6 2972) (ni_me85_45 [a, b, c, d, e, f] _ (List.mem_of_getElem? (i := 31) rfl))) rfl rfl ?_
  refine ni_xIf true (ni_ro [a, b, c, d, e, f] (2972, ni_sP (ni_gIf (fun x => decide (¬ x = 0)) 2987 2975)) (ni_me85_45 [a, b, c, d, e, f] _ (List.mem_of_getElem? (i := 32) rfl))) rfl ?_
  refine ni_xP (g := ni_gGo 3317) (ni_ro [a, b, c, d, e, f] (2987, ni_sP (ni_gGo 3317)) (ni_me85_45 [a, b, c, d, e, f] _ (List.mem_of_getElem? (i := 33) rfl))) rfl ?_
  refine ni_xInc (ni_ro [a, b, c, d, e, f] (3317, ni_sInc 5 (6) 3320) (ni_me85_52 [a, b, c, d, e, f] _ (List.mem_of_getElem? (i := 0) rfl))) rfl rfl ?_
  refine ni_xP (g := ni_gGo 28) (ni_ro [a, b, c, d, e, f] (3320, ni_sP (ni_gGo 28)) (ni_me85_52 [a, b, c, d, e, f] _ (List.mem_of_getElem? (i := 1) rfl))) rfl ?_
  refine ni_xLd (ni_ro [a, b, c, d, e, f] (28, ni_sLd 0 5 30) (ni_me85_1 [a, b, c, d, e, f] _ (List.mem_of_getElem? (i := 0) rfl))) rfl rfl ?_
  refine ni_xLd (ni_ro [a, b, c, d, e, f] (30, ni_sLd 3 0 31) (ni_me85_1 [a, b, c, d, e, f] _ (List.mem_of_getElem? (i := 1) rfl))) rfl rfl ?_
  refine ni_xSln (ni_ro [a, b, c, d, e, f] (31, ni_sSln [a, b, c, d, e, f] 32) (ni_me85_1 [a, b, c, d, e, f] _ (List.mem_of_getElem? (i := 2) rfl))) rfl ?_
  refine ni_xP (g := ni_gPush (.int 6) 34) (ni_ro [a, b, c, d, e, f] (32, ni_sP (ni_gPush (.int 6) 34)) (ni_me85_1 [a, b, c, d, e, f] _ (List.mem_of_getElem? (i := 3) rfl))) rfl ?_
  refine ni_xP (g := ni_gI (fun x y => x - y) 35) (ni_ro [a, b, c, d, e, f] (34, ni_sP (ni_gI (fun x y => x - y) 35)) (ni_me85_1 [a, b, c, d, e, f] _ (List.mem_of_getElem? (i := 4) rfl))) rfl ?_
  refine ni_xIc true (ni_ro [a, b, c, d, e, f] (35, ni_sP (ni_gIc (fun x y => decide (y < x)) 3323 38)) (ni_me85_1 [a, b, c, d, e, f] _ (List.mem_of_getElem? (i := 5) rfl))) (show decide (Int32.ofNat 6 - 6 < 0 + 6) = true from by decide) ?_
  refine ni_xP (g := ni_gPush (.int 1) 3324) (ni_ro [a, b, c, d, e, f] (3323, ni_sP (ni_gPush (.int 1) 3324)) (ni_me85_52 [a, b, c, d, e, f] _ (List.mem_of_getElem? (i := 2) rfl))) rfl ?_
  exact ni_xR (ni_ro [a, b, c, d, e, f] (3324, ni_sR (some .boolean)) (ni_me85_52 [a, b, c, d, e, f] _ (List.mem_of_getElem? (i := 3) rfl))) rfl
theorem ni_ca44 (a b c d e f : Int32) : ni_G [a, b, c, d, e, f] 9 85 2990 ni_ls0 [] (ni_P0, 0) (.inl (some (.int 1)), (ni_P1, 1)) := by
  refine ni_xLd (ni_ro [a, b, c, d, e, f] (2990, ni_sLd 3 1 2991) (ni_me85_46 [a, b, c, d, e, f] _ (List.mem_of_getElem? (i := 0) rfl))) rfl rfl ?_
  refine ni_xLd (ni_ro [a, b, c, d, e, f] (2991, ni_sLd 3 0 2992) (ni_me85_46 [a, b, c, d, e, f] _ (List.mem_of_getElem? (i := 1) rfl))) rfl rfl ?_
  refine ni_xLd (ni_ro [a, b, c, d, e, f] (2992, ni_sLd 0 5 2994) (ni_me85_46 [a, b, c, d, e, f] _ (List.mem_of_getElem? (i := 2) rfl))) rfl rfl ?_
  refine ni_xP (g := ni_gPush (.int 1) 2995) (ni_ro [a, b, c, d, e, f] (2994, ni_sP (ni_gPush (.int 1) 2995)) (ni_me85_46 [a, b, c, d, e, f] _ (List.mem_of_getElem? (i := 3) rfl))) rfl ?_
  refine ni_xP (g := ni_gI (fun x y => x + y) 2996) (ni_ro [a, b, c, d, e, f] (2995, ni_sP (ni_gI (fun x y => x + y) 2996)) (ni_me85_46 [a, b, c, d, e, f] _ (List.mem_of_getElem? (i := 4) rfl))) rfl ?_
  refine ni_xSld (ni_ro [a, b, c, d, e, f] (2996, ni_sSld [a, b, c, d, e, f] 2997) (ni_me85_46 [a, b, c, d, e, f] _ (List.mem_of_getElem? (i := 5) rfl))) ⟨by decide, rfl⟩ ?_
  refine ni_xLd (ni_ro [a, b, c, d, e, f] (2997, ni_sLd 3 3 2998) (ni_me85_46 [a, b, c, d, e, f] _ (List.mem_of_getElem? (i := 6) rfl))) rfl rfl ?_
  refine ni_xC (ni_ro [a, b, c, d, e, f] (2998, ni_sC 84 3 3001) (ni_me85_46 [a, b, c, d, e, f] _ (List.mem_of_getElem? (i := 7) rfl))) (Nat.le_of_ble_eq_true rfl) rfl rfl (Nat.le_of_ble_eq_true rfl) (ni_ofO (ni_kw84 [a, b, c, d, e, f] _)) ?_
  refine ni_xSt (ni_ro [a, b, c, d, e, f] (3001, ni_sSt 0 6 3003) (ni_me85_46 [a, b, c, d, e, f] _ (List.mem_of_getElem? (i := 8) rfl))) rfl rfl ?_
  refine ni_xLd (ni_ro [a, b, c, d, e, f] (3003, ni_sLd 3 2 3004) (ni_me85_46 [a, b, c, d, e, f] _ (List.mem_of_getElem? (i := 9) rfl))) rfl rfl ?_
  refine ni_xLd (ni_ro [a, b, c, d, e, f] (3004, ni_sLd 3 0 3005) (ni_me85_46 [a, b, c, d, e, f] _ (List.mem_of_getElem? (i := 10) rfl))) rfl rfl ?_
  refine ni_xLd (ni_ro [a, b, c, d, e, f] (3005, ni_sLd 0 5 3007) (ni_me85_46 [a, b, c, d, e, f] _ (List.mem_of_getElem? (i := 11) rfl))) rfl rfl ?_
  refine ni_xP (g := ni_gPush (.int 1) 3008) (ni_ro [a, b, c, d, e, f] (3007, ni_sP (ni_gPush (.int 1) 3008)) (ni_me85_46 [a, b, c, d, e, f] _ (List.mem_of_getElem? (i := 12) rfl))) rfl ?_
  refine ni_xP (g := ni_gI (fun x y => x + y) 3009) (ni_ro [a, b, c, d, e, f] (3008, ni_sP (ni_gI (fun x y => x + y) 3009)) (ni_me85_46 [a, b, c, d, e, f] _ (List.mem_of_getElem? (i := 13) rfl))) rfl ?_
  refine ni_xSld (ni_ro [a, b, c, d, e, f] (3009, ni_sSld [a, b, c, d, e, f] 3010) (ni_me85_46 [a, b, c, d, e, f] _ (List.mem_of_getElem? (i := 14) rfl))) ⟨by decide, rfl⟩ ?_
  refine ni_xV (ni_ro [a, b, c, d, e, f] (3010, ni_sV 138 1 18 3013) (ni_me85_46 [a, b, c, d, e, f] _ (List.mem_of_getElem? (i := 15) rfl))) rfl rfl rfl (Nat.le_of_ble_eq_true rfl) (ni_ofO (ni_km138 [a, b, c, d, e, f] _)) ?_
  refine ni_xSt (ni_ro [a, b, c, d, e, f] (3013, ni_sSt 0 7 3015) (ni_me85_46 [a, b, c, d, e, f] _ (List.mem_of_getElem? (i := 16) rfl))) rfl rfl ?_
  refine ni_xLd (ni_ro [a, b, c, d, e, f] (3015, ni_sLd 3 2 3016) (ni_me85_46 [a, b, c, d, e, f] _ (List.mem_of_getElem? (i := 17) rfl))) rfl rfl ?_
  refine ni_xV (ni_ro [a, b, c, d, e, f] (3016, ni_sV 167 0 18 3019) (ni_me85_46 [a, b, c, d, e, f] _ (List.mem_of_getElem? (i := 18) rfl))) rfl rfl rfl (Nat.le_of_ble_eq_true rfl) (ni_ofO (ni_k167 [a, b, c, d, e, f])) ?_
  refine ni_xLd (ni_ro [a, b, c, d, e, f] (3019, ni_sLd 0 6 3021) (ni_me85_46 [a, b, c, d, e, f] _ (List.mem_of_getElem? (i := 19) rfl))) rfl rfl ?_
  refine ni_xIc true (ni_ro [a, b, c, d, e, f] (3021, ni_sP (ni_gIc (fun x y => decide (x = y)) 3026 3024)) (ni_me85_46 [a, b, c, d, e, f] _ (List.mem_of_getElem? (i := 20) rfl))) rfl ?_
  refine ni_xLd (ni_ro [a, b, c, d, e, f] (3026, ni_sLd 0 6 3028) (ni_me85_46 [a, b, c, d, e, f] _ (List.mem_of_getElem? (i := 21) rfl))) rfl rfl ?_
  refine ni_xIf true (ni_ro [a, b, c, d, e, f] (3028, ni_sP (ni_gIf (fun x => decide (¬ x = 0)) 3043 3031)) (ni_me85_46 [a, b, c, d, e, f] _ (List.mem_of_getElem? (i := 22) rfl))) rfl ?_
  refine ni_xP (g := ni_gGo 3317) (ni_ro [a, b, c, d, e, f] (3043, ni_sP (ni_gGo 3317)) (ni_me85_46 [a, b, c, d, e, f] _ (List.mem_of_getElem? (i := 23) rfl))) rfl ?_
  refine ni_xInc (ni_ro [a, b, c, d, e, f] (3317, ni_sInc 5 (6) 3320) (ni_me85_52 [a, b, c, d, e, f] _ (List.mem_of_getElem? (i := 0) rfl))) rfl rfl ?_
  refine ni_xP (g := ni_gGo 28) (ni_ro [a, b, c, d, e, f] (3320, ni_sP (ni_gGo 28)) (ni_me85_52 [a, b, c, d, e, f] _ (List.mem_of_getElem? (i := 1) rfl))) rfl ?_
  refine ni_xLd (ni_ro [a, b, c, d, e, f] (28, ni_sLd 0 5 30) (ni_me85_1 [a, b, c, d, e, f] _ (List.mem_of_getElem? (i := 0) rfl))) rfl rfl ?_
  refine ni_xLd (ni_ro [a, b, c, d, e, f] (30, ni_sLd 3 0 31) (ni_me85_1 [a, b, c, d, e, f] _ (List.mem_of_getElem? (i := 1) rfl))) rfl rfl ?_
  refine ni_xSln (ni_ro [a, b, c, d, e, f] (31, ni_sSln [a, b, c, d, e, f] 32) (ni_me85_1 [a, b, c, d, e, f] _ (List.mem_of_getElem? (i := 2) rfl))) rfl ?_
  refine ni_xP (g := ni_gPush (.int 6) 34) (ni_ro [a, b, c, d, e, f] (32, ni_sP (ni_gPush (.int 6) 34)) (ni_me85_1 [a, b, c, d, e, f] _ (List.mem_of_getElem? (i := 3) rfl))) rfl ?_
  refine ni_xP (g := ni_gI (fun x y => x - y) 35) (ni_ro [a, b, c, d, e, f] (34, ni_sP (ni_gI (fun x y => x - y) 35)) (ni_me85_1 [a, b, c, d, e, f] _ (List.mem_of_getElem? (i := 4) rfl))) rfl ?_
  refine ni_xIc true (ni_ro [a, b, c, d, e, f] (35, ni_sP (ni_gIc (fun x y => decide (y < x)) 3323 38)) (ni_me85_1 [a, b, c, d, e, f] _ (List.mem_of_getElem? (i := 5) rfl))) (show decide (Int32.ofNat 6 - 6 < 0 + 6) = true from by decide) ?_
  refine ni_xP (g := ni_gPush (.int 1) 3324) (ni_ro [a, b, c, d, e, f] (3323, ni_sP (ni_gPush (.int 1) 3324)) (ni_me85_52 [a, b, c, d, e, f] _ (List.mem_of_getElem? (i := 2) rfl))) rfl ?_
  exact ni_xR (ni_ro [a, b, c, d, e, f] (3324, ni_sR (some .boolean)) (ni_me85_52 [a, b, c, d, e, f] _ (List.mem_of_getElem? (i := 3) rfl))) rfl
theorem ni_ca45 (a b c d e f : Int32) : ni_G [a, b, c, d, e, f] 9 85 3046 ni_ls0 [] (ni_P0, 0) (.inl (some (.int 1)), (ni_P1, 1)) := by
  refine ni_xLd (ni_ro [a, b, c, d, e, f] (3046, ni_sLd 3 1 3047) (ni_me85_47 [a, b, c, d, e, f] _ (List.mem_of_getElem? (i := 0) rfl))) rfl rfl ?_
  refine ni_xLd (ni_ro [a, b, c, d, e, f] (3047, ni_sLd 3 0 3048) (ni_me85_47 [a, b, c, d, e, f] _ (List.mem_of_getElem? (i := 1) rfl))) rfl rfl ?_
  refine ni_xLd (ni_ro [a, b, c, d, e, f] (3048, ni_sLd 0 5 3050) (ni_me85_47 [a, b, c, d, e, f] _ (List.mem_of_getElem? (i := 2) rfl))) rfl rfl ?_
  refine ni_xP (g := ni_gPush (.int 1) 3051) (ni_ro [a, b, c, d, e, f] (3050, ni_sP (ni_gPush (.int 1) 3051)) (ni_me85_47 [a, b, c, d, e, f] _ (List.mem_of_getElem? (i := 3) rfl))) rfl ?_
  refine ni_xP (g := ni_gI (fun x y => x + y) 3052) (ni_ro [a, b, c, d, e, f] (3051, ni_sP (ni_gI (fun x y => x + y) 3052)) (ni_me85_47 [a, b, c, d, e, f] _ (List.mem_of_getElem? (i := 4) rfl))) rfl ?_
  refine ni_xSld (ni_ro [a, b, c, d, e, f] (3052, ni_sSld [a, b, c, d, e, f] 3053) (ni_me85_47 [a, b, c, d, e, f] _ (List.mem_of_getElem? (i := 5) rfl))) ⟨by decide, rfl⟩ ?_
  refine ni_xLd (ni_ro [a, b, c, d, e, f] (3053, ni_sLd 3 4 3055) (ni_me85_47 [a, b, c, d, e, f] _ (List.mem_of_getElem? (i := 6) rfl))) rfl rfl ?_
  refine ni_xC (ni_ro [a, b, c, d, e, f] (3055, ni_sC 88 3 3058) (ni_me85_47 [a, b, c, d, e, f] _ (List.mem_of_getElem? (i := 7) rfl))) (Nat.le_of_ble_eq_true rfl) rfl rfl (Nat.le_of_ble_eq_true rfl) (ni_ofO (ni_kw88 [a, b, c, d, e, f] _)) ?_
  refine ni_xSt (ni_ro [a, b, c, d, e, f] (3058, ni_sSt 0 6 3060) (ni_me85_47 [a, b, c, d, e, f] _ (List.mem_of_getElem? (i := 8) rfl))) rfl rfl ?_
  refine ni_xLd (ni_ro [a, b, c, d, e, f] (3060, ni_sLd 3 2 3061) (ni_me85_47 [a, b, c, d, e, f] _ (List.mem_of_getElem? (i := 9) rfl))) rfl rfl ?_
  refine ni_xLd (ni_ro [a, b, c, d, e, f] (3061, ni_sLd 3 0 3062) (ni_me85_47 [a, b, c, d, e, f] _ (List.mem_of_getElem? (i := 10) rfl))) rfl rfl ?_
  refine ni_xLd (ni_ro [a, b, c, d, e, f] (3062, ni_sLd 0 5 3064) (ni_me85_47 [a, b, c, d, e, f] _ (List.mem_of_getElem? (i := 11) rfl))) rfl rfl ?_
  refine ni_xP (g := ni_gPush (.int 1) 3065) (ni_ro [a, b, c, d, e, f] (3064, ni_sP (ni_gPush (.int 1) 3065)) (ni_me85_47 [a, b, c, d, e, f] _ (List.mem_of_getElem? (i := 12) rfl))) rfl ?_
  refine ni_xP (g := ni_gI (fun x y => x + y) 3066) (ni_ro [a, b, c, d, e, f] (3065, ni_sP (ni_gI (fun x y => x + y) 3066)) (ni_me85_47 [a, b, c, d, e, f] _ (List.mem_of_getElem? (i := 13) rfl))) rfl ?_
  refine ni_xSld (ni_ro [a, b, c, d, e, f] (3066, ni_sSld [a, b, c, d, e, f] 3067) (ni_me85_47 [a, b, c, d, e, f] _ (List.mem_of_getElem? (i := 14) rfl))) ⟨by decide, rfl⟩ ?_
  refine ni_xV (ni_ro [a, b, c, d, e, f] (3067, ni_sV 143 1 18 3070) (ni_me85_47 [a, b, c, d, e, f] _ (List.mem_of_getElem? (i := 15) rfl))) rfl rfl rfl (Nat.le_of_ble_eq_true rfl) (ni_ofO (ni_km143 [a, b, c, d, e, f] _)) ?_
  refine ni_xSt (ni_ro [a, b, c, d, e, f] (3070, ni_sSt 2 7 3072) (ni_me85_47 [a, b, c, d, e, f] _ (List.mem_of_getElem? (i := 16) rfl))) rfl rfl ?_
  refine ni_xLd (ni_ro [a, b, c, d, e, f] (3072, ni_sLd 3 2 3073) (ni_me85_47 [a, b, c, d, e, f] _ (List.mem_of_getElem? (i := 17) rfl))) rfl rfl ?_
  refine ni_xV (ni_ro [a, b, c, d, e, f] (3073, ni_sV 167 0 18 3076) (ni_me85_47 [a, b, c, d, e, f] _ (List.mem_of_getElem? (i := 18) rfl))) rfl rfl rfl (Nat.le_of_ble_eq_true rfl) (ni_ofO (ni_k167 [a, b, c, d, e, f])) ?_
  refine ni_xLd (ni_ro [a, b, c, d, e, f] (3076, ni_sLd 0 6 3078) (ni_me85_47 [a, b, c, d, e, f] _ (List.mem_of_getElem? (i := 19) rfl))) rfl rfl ?_
  refine ni_xIc true (ni_ro [a, b, c, d, e, f] (3078, ni_sP (ni_gIc (fun x y => decide (x = y)) 3083 3081)) (ni_me85_47 [a, b, c, d, e, f] _ (List.mem_of_getElem? (i := 20) rfl))) rfl ?_
  refine ni_xLd (ni_ro [a, b, c, d, e, f] (3083, ni_sLd 0 6 3085) (ni_me85_47 [a, b, c, d, e, f] _ (List.mem_of_getElem? (i := 21) rfl))) rfl rfl ?_
  refine ni_xIf true (ni_ro [a, b, c, d, e, f] (3085, ni_sP (ni_gIf (fun x => decide (¬ x = 0)) 3120 3088)) (ni_me85_47 [a, b, c, d, e, f] _ (List.mem_of_getElem? (i := 22) rfl))) rfl ?_
  refine ni_xP (g := ni_gGo 3317) (ni_ro [a, b, c, d, e, f] (3120, ni_sP (ni_gGo 3317)) (ni_me85_47 [a, b, c, d, e, f] _ (List.mem_of_getElem? (i := 23) rfl))) rfl ?_
  refine ni_xInc (ni_ro [a, b, c, d, e, f] (3317, ni_sInc 5 (6) 3320) (ni_me85_52 [a, b, c, d, e, f] _ (List.mem_of_getElem? (i := 0) rfl))) rfl rfl ?_
  refine ni_xP (g := ni_gGo 28) (ni_ro [a, b, c, d, e, f] (3320, ni_sP (ni_gGo 28)) (ni_me85_52 [a, b, c, d, e, f] _ (List.mem_of_getElem? (i := 1) rfl))) rfl ?_
  refine ni_xLd (ni_ro [a, b, c, d, e, f] (28, ni_sLd 0 5 30) (ni_me85_1 [a, b, c, d, e, f] _ (List.mem_of_getElem? (i := 0) rfl))) rfl rfl ?_
  refine ni_xLd (ni_ro [a, b, c, d, e, f] (30, ni_sLd 3 0 31) (ni_me85_1 [a, b, c, d, e, f] _ (List.mem_of_getElem? (i := 1) rfl))) rfl rfl ?_
  refine ni_xSln (ni_ro [a, b, c, d, e, f] (31, ni_sSln [a, b, c, d, e, f] 32) (ni_me85_1 [a, b, c, d, e, f] _ (List.mem_of_getElem? (i := 2) rfl))) rfl ?_
  refine ni_xP (g := ni_gPush (.int 6) 34) (ni_ro [a, b, c, d, e, f] (32, ni_sP (ni_gPush (.int 6) 34)) (ni_me85_1 [a, b, c, d, e, f] _ (List.mem_of_getElem? (i := 3) rfl))) rfl ?_
  refine ni_xP (g := ni_gI (fun x y => x - y) 35) (ni_ro [a, b, c, d, e, f] (34, ni_sP (ni_gI (fun x y => x - y) 35)) (ni_me85_1 [a, b, c, d, e, f] _ (List.mem_of_getElem? (i := 4) rfl))) rfl ?_
  refine ni_xIc true (ni_ro [a, b, c, d, e, f] (35, ni_sP (ni_gIc (fun x y => decide (y < x)) 3323 38)) (ni_me85_1 [a, b, c, d, e, f] _ (List.mem_of_getElem? (i := 5) rfl))) (show decide (Int32.ofNat 6 - 6 < 0 + 6) = true from by decide) ?_
  refine ni_xP (g := ni_gPush (.int 1) 3324) (ni_ro [a, b, c, d, e, f] (3323, ni_sP (ni_gPush (.int 1) 3324)) (ni_me85_52 [a, b, c, d, e, f] _ (List.mem_of_getElem? (i := 2) rfl))) rfl ?_
  exact ni_xR (ni_ro [a, b, c, d, e, f] (3324, ni_sR (some .boolean)) (ni_me85_52 [a, b, c, d, e, f] _ (List.mem_of_getElem? (i := 3) rfl))) rfl
theorem ni_ca46 (a b c d e f : Int32) : ni_G [a, b, c, d, e, f] 9 85 3123 ni_ls0 [] (ni_P0, 0) (.inl (some (.int 1)), (ni_P1, 1)) := by
  refine ni_xLd (ni_ro [a, b, c, d, e, f] (3123, ni_sLd 3 1 3124) (ni_me85_48 [a, b, c, d, e, f] _ (List.mem_of_getElem? (i := 0) rfl))) rfl rfl ?_
  refine ni_xLd (ni_ro [a, b, c, d, e, f] (3124, ni_sLd 3 0 3125) (ni_me85_48 [a, b, c, d, e, f] _ (List.mem_of_getElem? (i := 1) rfl))) rfl rfl ?_
  refine ni_xLd (ni_ro [a, b, c, d, e, f] (3125, ni_sLd 0 5 3127) (ni_me85_48 [a, b, c, d, e, f] _ (List.mem_of_getElem? (i := 2) rfl))) rfl rfl ?_
  refine ni_xP (g := ni_gPush (.int 1) 3128) (ni_ro [a, b, c, d, e, f] (3127, ni_sP (ni_gPush (.int 1) 3128)) (ni_me85_48 [a, b, c, d, e, f] _ (List.mem_of_getElem? (i := 3) rfl))) rfl ?_
  refine ni_xP (g := ni_gI (fun x y => x + y) 3129) (ni_ro [a, b, c, d, e, f] (3128, ni_sP (ni_gI (fun x y => x + y) 3129)) (ni_me85_48 [a, b, c, d, e, f] _ (List.mem_of_getElem? (i := 4) rfl))) rfl ?_
  refine ni_xSld (ni_ro [a, b, c, d, e, f] (3129, ni_sSld [a, b, c, d, e, f] 3130) (ni_me85_48 [a, b, c, d, e, f] _ (List.mem_of_getElem? (i := 5) rfl))) ⟨by decide, rfl⟩ ?_
  refine ni_xLd (ni_ro [a, b, c, d, e, f] (3130, ni_sLd 3 3 3131) (ni_me85_48 [a, b, c, d, e, f] _ (List.mem_of_getElem? (i := 6) rfl))) rfl rfl ?_
  refine ni_xC (ni_ro [a, b, c, d, e, f] (3131, ni_sC 92 3 3134) (ni_me85_48 [a, b, c, d, e, f] _ (List.mem_of_getElem? (i := 7) rfl))) (Nat.le_of_ble_eq_true rfl) rfl rfl (Nat.le_of_ble_eq_true rfl) (ni_ofO (ni_kw92 [a, b, c, d, e, f] _)) ?_
  refine ni_xSt (ni_ro [a, b, c, d, e, f] (3134, ni_sSt 0 6 3136) (ni_me85_48 [a, b, c, d, e, f] _ (List.mem_of_getElem? (i := 8) rfl))) rfl rfl ?_
  refine ni_xLd (ni_ro [a, b, c, d, e, f] (3136, ni_sLd 3 2 3137) (ni_me85_48 [a, b, c, d, e, f] _ (List.mem_of_getElem? (i := 9) rfl))) rfl rfl ?_
  refine ni_xLd (ni_ro [a, b, c, d, e, f] (3137, ni_sLd 3 0 3138) (ni_me85_48 [a, b, c, d, e, f] _ (List.mem_of_getElem? (i := 10) rfl))) rfl rfl ?_
  refine ni_xLd (ni_ro [a, b, c, d, e, f] (3138, ni_sLd 0 5 3140) (ni_me85_48 [a, b, c, d, e, f] _ (List.mem_of_getElem? (i := 11) rfl))) rfl rfl ?_
  refine ni_xP (g := ni_gPush (.int 1) 3141) (ni_ro [a, b, c, d, e, f] (3140, ni_sP (ni_gPush (.int 1) 3141)) (ni_me85_48 [a, b, c, d, e, f] _ (List.mem_of_getElem? (i := 12) rfl))) rfl ?_
  refine ni_xP (g := ni_gI (fun x y => x + y) 3142) (ni_ro [a, b, c, d, e, f] (3141, ni_sP (ni_gI (fun x y => x + y) 3142)) (ni_me85_48 [a, b, c, d, e, f] _ (List.mem_of_getElem? (i := 13) rfl))) rfl ?_
  refine ni_xSld (ni_ro [a, b, c, d, e, f] (3142, ni_sSld [a, b, c, d, e, f] 3143) (ni_me85_48 [a, b, c, d, e, f] _ (List.mem_of_getElem? (i := 14) rfl))) ⟨by decide, rfl⟩ ?_
  refine ni_xV (ni_ro [a, b, c, d, e, f] (3143, ni_sV 148 1 18 3146) (ni_me85_48 [a, b, c, d, e, f] _ (List.mem_of_getElem? (i := 15) rfl))) rfl rfl rfl (Nat.le_of_ble_eq_true rfl) (ni_ofO (ni_km148 [a, b, c, d, e, f] _)) ?_
  refine ni_xSt (ni_ro [a, b, c, d, e, f] (3146, ni_sSt 0 7 3148) (ni_me85_48 [a, b, c, d, e, f] _ (List.mem_of_getElem? (i := 16) rfl))) rfl rfl ?_
  refine ni_xLd (ni_ro [a, b, c, d, e, f] (3148, ni_sLd 3 2 3149) (ni_me85_48 [a, b, c, d, e, f] _ (List.mem_of_getElem? (i := 17) rfl))) rfl rfl ?_
  refine ni_xV (ni_ro [a, b, c, d, e, f] (3149, ni_sV 167 0 18 3152) (ni_me85_48 [a, b, c, d, e, f] _ (List.mem_of_getElem? (i := 18) rfl))) rfl rfl rfl (Nat.le_of_ble_eq_true rfl) (ni_ofO (ni_k167 [a, b, c, d, e, f])) ?_
  refine ni_xLd (ni_ro [a, b, c, d, e, f] (3152, ni_sLd 0 6 3154) (ni_me85_48 [a, b, c, d, e, f] _ (List.mem_of_getElem? (i := 19) rfl))) rfl rfl ?_
  refine ni_xIc true (ni_ro [a, b, c, d, e, f] (3154, ni_sP (ni_gIc (fun x y => decide (x = y)) 3159 3157)) (ni_me85_48 [a, b, c, d, e, f] _ (List.mem_of_getElem? (i := 20) rfl))) rfl ?_
  refine ni_xLd (ni_ro [a, b, c, d, e, f] (3159, ni_sLd 0 6 3161) (ni_me85_48 [a, b, c, d, e, f] _ (List.mem_of_getElem? (i := 21) rfl))) rfl rfl ?_
  refine ni_xIf true (ni_ro [a, b, c, d, e, f] (3161, ni_sP (ni_gIf (fun x => decide (¬ x = 0)) 3176 3164)) (ni_me85_48 [a, b, c, d, e, f] _ (List.mem_of_getElem? (i := 22) rfl))) rfl ?_
  refine ni_xP (g := ni_gGo 3317) (ni_ro [a, b, c, d, e, f] (3176, ni_sP (ni_gGo 3317)) (ni_me85_48 [a, b, c, d, e, f] _ (List.mem_of_getElem? (i := 23) rfl))) rfl ?_
  refine ni_xInc (ni_ro [a, b, c, d, e, f] (3317, ni_sInc 5 (6) 3320) (ni_me85_52 [a, b, c, d, e, f] _ (List.mem_of_getElem? (i := 0) rfl))) rfl rfl ?_
  refine ni_xP (g := ni_gGo 28) (ni_ro [a, b, c, d, e, f] (3320, ni_sP (ni_gGo 28)) (ni_me85_52 [a, b, c, d, e, f] _ (List.mem_of_getElem? (i := 1) rfl))) rfl ?_
  refine ni_xLd (ni_ro [a, b, c, d, e, f] (28, ni_sLd 0 5 30) (ni_me85_1 [a, b, c, d, e, f] _ (List.mem_of_getElem? (i := 0) rfl))) rfl rfl ?_
  refine ni_xLd (ni_ro [a, b, c, d, e, f] (30, ni_sLd 3 0 31) (ni_me85_1 [a, b, c, d, e, f] _ (List.mem_of_getElem? (i := 1) rfl))) rfl rfl ?_
  refine ni_xSln (ni_ro [a, b, c, d, e, f] (31, ni_sSln [a, b, c, d, e, f] 32) (ni_me85_1 [a, b, c, d, e, f] _ (List.mem_of_getElem? (i := 2) rfl))) rfl ?_
  refine ni_xP (g := ni_gPush (.int 6) 34) (ni_ro [a, b, c, d, e, f] (32, ni_sP (ni_gPush (.int 6) 34)) (ni_me85_1 [a, b, c, d, e, f] _ (List.mem_of_getElem? (i := 3) rfl))) rfl ?_
  refine ni_xP (g := ni_gI (fun x y => x - y) 35) (ni_ro [a, b, c, d, e, f] (34, ni_sP (ni_gI (fun x y => x - y) 35)) (ni_me85_1 [a, b, c, d, e, f] _ (List.mem_of_getElem? (i := 4) rfl))) rfl ?_
  refine ni_xIc true (ni_ro [a, b, c, d, e, f] (35, ni_sP (ni_gIc (fun x y => decide (y < x)) 3323 38)) (ni_me85_1 [a, b, c, d, e, f] _ (List.mem_of_getElem? (i := 5) rfl))) (show decide (Int32.ofNat 6 - 6 < 0 + 6) = true from by decide) ?_
  refine ni_xP (g := ni_gPush (.int 1) 3324) (ni_ro [a, b, c, d, e, f] (3323, ni_sP (ni_gPush (.int 1) 3324)) (ni_me85_52 [a, b, c, d, e, f] _ (List.mem_of_getElem? (i := 2) rfl))) rfl ?_
  exact ni_xR (ni_ro [a, b, c, d, e, f] (3324, ni_sR (some .boolean)) (ni_me85_52 [a, b, c, d, e, f] _ (List.mem_of_getElem? (i := 3) rfl))) rfl
theorem ni_ca47 (a b c d e f : Int32) : ni_G [a, b, c, d, e, f] 9 85 3179 ni_ls0 [] (ni_P0, 0) (.inl (some (.int 1)), (ni_P1, 1)) := by
  refine ni_xLd (ni_ro [a, b, c, d, e, f] (3179, ni_sLd 3 1 3180) (ni_me85_49 [a, b, c, d, e, f] _ (List.mem_of_getElem? (i := 0) rfl))) rfl rfl ?_
  refine ni_xLd (ni_ro [a, b, c, d, e, f] (3180, ni_sLd 3 0 3181) (ni_me85_49 [a, b, c, d, e, f] _ (List.mem_of_getElem? (i := 1) rfl))) rfl rfl ?_
  refine ni_xLd (ni_ro [a, b, c, d, e, f] (3181, ni_sLd 0 5 3183) (ni_me85_49 [a, b, c, d, e, f] _ (List.mem_of_getElem? (i := 2) rfl))) rfl rfl ?_
  refine ni_xP (g := ni_gPush (.int 1) 3184) (ni_ro [a, b, c, d, e, f] (3183, ni_sP (ni_gPush (.int 1) 3184)) (ni_me85_49 [a, b, c, d, e, f] _ (List.mem_of_getElem? (i := 3) rfl))) rfl ?_
  refine ni_xP (g := ni_gI (fun x y => x + y) 3185) (ni_ro [a, b, c, d, e, f] (3184, ni_sP (ni_gI (fun x y => x + y) 3185)) (ni_me85_49 [a, b, c, d, e, f] _ (List.mem_of_getElem? (i := 4) rfl))) rfl ?_
  refine ni_xSld (ni_ro [a, b, c, d, e, f] (3185, ni_sSld [a, b, c, d, e, f] 3186) (ni_me85_49 [a, b, c, d, e, f] _ (List.mem_of_getElem? (i := 5) rfl))) ⟨by decide, rfl⟩ ?_
  refine ni_xLd (ni_ro [a, b, c, d, e, f] (3186, ni_sLd 3 0 3187) (ni_me85_49 [a, b, c, d, e, f] _ (List.mem_of_getElem? (i := 6) rfl))) rfl rfl ?_
  refine ni_xLd (ni_ro [a, b, c, d, e, f] (3187, ni_sLd 0 5 3189) (ni_me85_49 [a, b, c, d, e, f] _ (List.mem_of_getElem? (i := 7) rfl))) rfl rfl ?_
  refine ni_xP (g := ni_gPush (.int 2) 3190) (ni_ro [a, b, c, d, e, f] (3189, ni_sP (ni_gPush (.int 2) 3190)) (ni_me85_49 [a, b, c, d, e, f] _ (List.mem_of_getElem? (i := 8) rfl))) rfl ?_
  refine ni_xP (g := ni_gI (fun x y => x + y) 3191) (ni_ro [a, b, c, d, e, f] (3190, ni_sP (ni_gI (fun x y => x + y) 3191)) (ni_me85_49 [a, b, c, d, e, f] _ (List.mem_of_getElem? (i := 9) rfl))) rfl ?_
  refine ni_xSld (ni_ro [a, b, c, d, e, f] (3191, ni_sSld [a, b, c, d, e, f] 3192) (ni_me85_49 [a, b, c, d, e, f] _ (List.mem_of_getElem? (i := 10) rfl))) ⟨by decide, rfl⟩ ?_
  refine ni_xLd (ni_ro [a, b, c, d, e, f] (3192, ni_sLd 3 3 3193) (ni_me85_49 [a, b, c, d, e, f] _ (List.mem_of_getElem? (i := 11) rfl))) rfl rfl ?_
  refine ni_xC (ni_ro [a, b, c, d, e, f] (3193, ni_sC 75 4 3196) (ni_me85_49 [a, b, c, d, e, f] _ (List.mem_of_getElem? (i := 12) rfl))) (Nat.le_of_ble_eq_true rfl) rfl rfl (Nat.le_of_ble_eq_true rfl) (ni_ofO (ni_kw75 [a, b, c, d, e, f] _ _)) ?_
  refine ni_xSt (ni_ro [a, b, c, d, e, f] (3196, ni_sSt 0 6 3198) (ni_me85_49 [a, b, c, d, e, f] _ (List.mem_of_getElem? (i := 13) rfl))) rfl rfl ?_
  refine ni_xLd (ni_ro [a, b, c, d, e, f] (3198, ni_sLd 3 2 3199) (ni_me85_49 [a, b, c, d, e, f] _ (List.mem_of_getElem? (i := 14) rfl))) rfl rfl ?_
  refine ni_xLd (ni_ro [a, b, c, d, e, f] (3199, ni_sLd 3 0 3200) (ni_me85_49 [a, b, c, d, e, f] _ (List.mem_of_getElem? (i := 15) rfl))) rfl rfl ?_
  refine ni_xLd (ni_ro [a, b, c, d, e, f] (3200, ni_sLd 0 5 3202) (ni_me85_49 [a, b, c, d, e, f] _ (List.mem_of_getElem? (i := 16) rfl))) rfl rfl ?_
  refine ni_xP (g := ni_gPush (.int 1) 3203) (ni_ro [a, b, c, d, e, f] (3202, ni_sP (ni_gPush (.int 1) 3203)) (ni_me85_49 [a, b, c, d, e, f] _ (List.mem_of_getElem? (i := 17) rfl))) rfl ?_
  refine ni_xP (g := ni_gI (fun x y => x + y) 3204) (ni_ro [a, b, c, d, e, f] (3203, ni_sP (ni_gI (fun x y => x + y) 3204)) (ni_me85_49 [a, b, c, d, e, f] _ (List.mem_of_getElem? (i := 18) rfl))) rfl ?_
  refine ni_xSld (ni_ro [a, b, c, d, e, f] (3204, ni_sSld [a, b, c, d, e, f] 3205) (ni_me85_49 [a, b, c, d, e, f] _ (List.mem_of_getElem? (i := 19) rfl))) ⟨by decide, rfl⟩ ?_
  refine ni_xLd (ni_ro [a, b, c, d, e, f] (3205, ni_sLd 3 0 3206) (ni_me85_49 [a, b, c, d, e, f] _ (List.mem_of_getElem? (i := 20) rfl))) rfl rfl ?_
  refine ni_xLd (ni_ro [a, b, c, d, e, f] (3206, ni_sLd 0 5 3208) (ni_me85_49 [a, b, c, d, e, f] _ (List.mem_of_getElem? (i := 21) rfl))) rfl rfl ?_
  refine ni_xP (g := ni_gPush (.int 2) 3209) (ni_ro [a, b, c, d, e, f] (3208, ni_sP (ni_gPush (.int 2) 3209)) (ni_me85_49 [a, b, c, d, e, f] _ (List.mem_of_getElem? (i := 22) rfl))) rfl ?_
  refine ni_xP (g := ni_gI (fun x y => x + y) 3210) (ni_ro [a, b, c, d, e, f] (3209, ni_sP (ni_gI (fun x y => x + y) 3210)) (ni_me85_49 [a, b, c, d, e, f] _ (List.mem_of_getElem? (i := 23) rfl))) rfl ?_
  refine ni_xSld (ni_ro [a, b, c, d, e, f] (3210, ni_sSld [a, b, c, d, e, f] 3211) (ni_me85_49 [a, b, c, d, e, f] _ (List.mem_of_getElem? (i := 24) rfl))) ⟨by decide, rfl⟩ ?_
  refine ni_xV (ni_ro [a, b, c, d, e, f] (3211, ni_sV 120 2 18 3214) (ni_me85_49 [a, b, c, d, e, f] _ (List.mem_of_getElem? (i := 25) rfl))) rfl rfl rfl (Nat.le_of_ble_eq_true rfl) (ni_ofO (ni_km120 [a, b, c, d, e, f] _ _)) ?_
  refine ni_xSt (ni_ro [a, b, c, d, e, f] (3214, ni_sSt 0 7 3216) (ni_me85_49 [a, b, c, d, e, f] _ (List.mem_of_getElem? (i := 26) rfl))) rfl rfl ?_
  refine ni_xLd (ni_ro [a, b, c, d, e, f] (3216, ni_sLd 3 2 3217) (ni_me85_49 [a, b, c, d, e, f] _ (List.mem_of_getElem? (i := 27) rfl))) rfl rfl ?_
  refine ni_xV (ni_ro [a, b, c, d, e, f] (3217, ni_sV 167 0 18 3220) (ni_me85_49 [a, b, c, d, e, f] _ (List.mem_of_getElem? (i := 28) rfl))) rfl rfl rfl (Nat.le_of_ble_eq_true rfl) (ni_ofO (ni_k167 [a, b, c, d, e, f])) ?_
  refine ni_xLd (ni_ro [a, b, c, d, e, f] (3220, ni_sLd 0 6 3222) (ni_me85_49 [a, b, c, d, e, f] _ (List.mem_of_getElem? (i := 29) rfl))) rfl rfl ?_
  refine ni_xIc true (ni_ro [a, b, c, d, e, f] (3222, ni_sP (ni_gIc (fun x y => decide (x = y)) 3227 3225)) (ni_me85_49 [a, b, c, d, e, f] _ (List.mem_of_getElem? (i := 30) rfl))) rfl ?_
  refine ni_xLd (ni_ro [a, b, c, d, e, f] (3227, ni_sLd 0 6 3229) (ni_me85_49 [a, b, c, d, e, f] _ (List.mem_of_getElem? (i := 31) rfl))) rfl rfl ?_
  refine ni_xIf true (ni_ro [a, b, c, d, e, f] (3229, ni_sP (ni_gIf (fun x => decide (¬ x = 0)) 3244 3232)) (ni_me85_49 [a, b, c, d, e, f] _ (List.mem_of_getElem? (i := 32) rfl))) rfl ?_
  refine ni_xP (g := ni_gGo 3317) (ni_ro [a, b, c, d, e, f] (3244, ni_sP (ni_gGo 3317)) (ni_me85_49 [a, b, c, d, e, f] _ (List.mem_of_getElem? (i := 33) rfl))) rfl ?_
  refine ni_xInc (ni_ro [a, b, c, d, e, f] (3317, ni_sInc 5 (6) 3320) (ni_me85_52 [a, b, c, d, e, f] _ (List.mem_of_getElem? (i := 0) rfl))) rfl rfl ?_
  refine ni_xP (g := ni_gGo 28) (ni_ro [a, b, c, d, e, f] (3320, ni_sP (ni_gGo 28)) (ni_me85_52 [a, b, c, d, e, f] _ (List.mem_of_getElem? (i := 1) rfl))) rfl ?_
  refine ni_xLd (ni_ro [a, b, c, d, e, f] (28, ni_sLd 0 5 30) (ni_me85_1 [a, b, c, d, e, f] _ (List.mem_of_getElem? (i := 0) rfl))) rfl rfl ?_
  refine ni_xLd (ni_ro [a, b, c, d, e, f] (30, ni_sLd 3 0 31) (ni_me85_1 [a, b, c, d, e, f] _ (List.mem_of_getElem? (i := 1) rfl))) rfl rfl ?_
  refine ni_xSln (ni_ro [a, b, c, d, e, f] (31, ni_sSln [a, b, c, d, e, f] 32) (ni_me85_1 [a, b, c, d, e, f] _ (List.mem_of_getElem? (i := 2) rfl))) rfl ?_
  refine ni_xP (g := ni_gPush (.int 6) 34) (ni_ro [a, b, c, d, e, f] (32, ni_sP (ni_gPush (.int 6) 34)) (ni_me85_1 [a, b, c, d, e, f] _ (List.mem_of_getElem? (i := 3) rfl))) rfl ?_
  refine ni_xP (g := ni_gI (fun x y => x - y) 35) (ni_ro [a, b, c, d, e, f] (34, ni_sP (ni_gI (fun x y => x - y) 35)) (ni_me85_1 [a, b, c, d, e, f] _ (List.mem_of_getElem? (i := 4) rfl))) rfl ?_
  refine ni_xIc true (ni_ro [a, b, c, d, e, f] (35, ni_sP (ni_gIc (fun x y => decide (y < x)) 3323 38)) (ni_me85_1 [a, b, c, d, e, f] _ (List.mem_of_getElem? (i := 5) rfl))) (show decide (Int32.ofNat 6 - 6 < 0 + 6) = true from by decide) ?_
  refine ni_xP (g := ni_gPush (.int 1) 3324) (ni_ro [a, b, c, d, e, f] (3323, ni_sP (ni_gPush (.int 1) 3324)) (ni_me85_52 [a, b, c, d, e, f] _ (List.mem_of_getElem? (i := 2) rfl))) rfl ?_
  exact ni_xR (ni_ro [a, b, c, d, e, f] (3324, ni_sR (some .boolean)) (ni_me85_52 [a, b, c, d, e, f] _ (List.mem_of_getElem? (i := 3) rfl))) rfl
theorem ni_rd14 (xs : List Int32) : ni_clO ni_o7 (ni_exO ni_o7 (ni_prog xs) 300) 8 14 [.ref 0] (ni_P0, 0) = some (.inl (some (.long 1596446946404886)), (ni_P0, 0)) := rfl
theorem ni_rd121 (xs : List Int32) : ni_clO ni_o7 (ni_exO ni_o7 (ni_prog xs) 300) 8 121 [.ref 14] (ni_P0, 0) = some (.inl (some (.long 1596446946404886)), (ni_P0, 0)) := rfl
theorem ni_ca49 (a b c d e f : Int32) : ni_G [a, b, c, d, e, f] 9 85 3303 ni_ls0 [] (ni_P0, 0) (.inl (some (.int 1)), (ni_P0, 0)) := by
  refine ni_xLd (ni_ro [a, b, c, d, e, f] (3303, ni_sLd 3 1 3304) (ni_me85_51 [a, b, c, d, e, f] _ (List.mem_of_getElem? (i := 0) rfl))) rfl rfl ?_
  refine ni_xV (ni_ro [a, b, c, d, e, f] (3304, ni_sV 14 0 10 3307) (ni_me85_51 [a, b, c, d, e, f] _ (List.mem_of_getElem? (i := 1) rfl))) rfl rfl rfl (Nat.le_of_ble_eq_true rfl) (ni_ofO (ni_rd14 [a, b, c, d, e, f])) ?_
  refine ni_xLd (ni_ro [a, b, c, d, e, f] (3307, ni_sLd 3 2 3308) (ni_me85_51 [a, b, c, d, e, f] _ (List.mem_of_getElem? (i := 2) rfl))) rfl rfl ?_
  refine ni_xV (ni_ro [a, b, c, d, e, f] (3308, ni_sV 121 0 18 3311) (ni_me85_51 [a, b, c, d, e, f] _ (List.mem_of_getElem? (i := 3) rfl))) rfl rfl rfl (Nat.le_of_ble_eq_true rfl) (ni_ofO (ni_rd121 [a, b, c, d, e, f])) ?_
  refine ni_xP (g := ni_gJ (fun x y => .int (lg_cmp x y)) 3312) (ni_ro [a, b, c, d, e, f] (3311, ni_sP (ni_gJ (fun x y => .int (lg_cmp x y)) 3312)) (ni_me85_51 [a, b, c, d, e, f] _ (List.mem_of_getElem? (i := 4) rfl))) rfl ?_
  refine ni_xIf true (ni_ro [a, b, c, d, e, f] (3312, ni_sP (ni_gIf (fun x => decide (x = 0)) 3317 3315)) (ni_me85_51 [a, b, c, d, e, f] _ (List.mem_of_getElem? (i := 5) rfl))) (by decide) ?_
  refine ni_xInc (ni_ro [a, b, c, d, e, f] (3317, ni_sInc 5 (6) 3320) (ni_me85_52 [a, b, c, d, e, f] _ (List.mem_of_getElem? (i := 0) rfl))) rfl rfl ?_
  refine ni_xP (g := ni_gGo 28) (ni_ro [a, b, c, d, e, f] (3320, ni_sP (ni_gGo 28)) (ni_me85_52 [a, b, c, d, e, f] _ (List.mem_of_getElem? (i := 1) rfl))) rfl ?_
  refine ni_xLd (ni_ro [a, b, c, d, e, f] (28, ni_sLd 0 5 30) (ni_me85_1 [a, b, c, d, e, f] _ (List.mem_of_getElem? (i := 0) rfl))) rfl rfl ?_
  refine ni_xLd (ni_ro [a, b, c, d, e, f] (30, ni_sLd 3 0 31) (ni_me85_1 [a, b, c, d, e, f] _ (List.mem_of_getElem? (i := 1) rfl))) rfl rfl ?_
  refine ni_xSln (ni_ro [a, b, c, d, e, f] (31, ni_sSln [a, b, c, d, e, f] 32) (ni_me85_1 [a, b, c, d, e, f] _ (List.mem_of_getElem? (i := 2) rfl))) rfl ?_
  refine ni_xP (g := ni_gPush (.int 6) 34) (ni_ro [a, b, c, d, e, f] (32, ni_sP (ni_gPush (.int 6) 34)) (ni_me85_1 [a, b, c, d, e, f] _ (List.mem_of_getElem? (i := 3) rfl))) rfl ?_
  refine ni_xP (g := ni_gI (fun x y => x - y) 35) (ni_ro [a, b, c, d, e, f] (34, ni_sP (ni_gI (fun x y => x - y) 35)) (ni_me85_1 [a, b, c, d, e, f] _ (List.mem_of_getElem? (i := 4) rfl))) rfl ?_
  refine ni_xIc true (ni_ro [a, b, c, d, e, f] (35, ni_sP (ni_gIc (fun x y => decide (y < x)) 3323 38)) (ni_me85_1 [a, b, c, d, e, f] _ (List.mem_of_getElem? (i := 5) rfl))) (show decide (Int32.ofNat 6 - 6 < 0 + 6) = true from by decide) ?_
  refine ni_xP (g := ni_gPush (.int 1) 3324) (ni_ro [a, b, c, d, e, f] (3323, ni_sP (ni_gPush (.int 1) 3324)) (ni_me85_52 [a, b, c, d, e, f] _ (List.mem_of_getElem? (i := 2) rfl))) rfl ?_
  exact ni_xR (ni_ro [a, b, c, d, e, f] (3324, ni_sR (some .boolean)) (ni_me85_52 [a, b, c, d, e, f] _ (List.mem_of_getElem? (i := 3) rfl))) rfl
end NCS
