section NIP
variable {xs : List Int32}
def ni_pr127 : List (Nat × ni_S) := [(0, ni_sLd 3 0 1),
  (1, ni_sLd 0 1 2),
  (2, ni_sLd 0 2 3),
  (3, ni_sV 117 2 18 6),
  (6, ni_sP (ni_gIf (fun x => decide (x = 0)) 13 9)),
  (9, ni_sP (ni_gPush (.int 0) 10)),
  (10, ni_sP (ni_gGo 28)),
  (28, ni_sR (some .int))]
theorem ni_pk127 : ∀ r ∈ ni_pr127, ni_Ok xs yX19_firstLinks cX19_firstLinks 3 (some .int) [] r.1 r.2 ∧ ni_MU r.2 := ni_row (ni_aloadn ni_dX19_firstLinks_0 rfl) ni_muLd <|
  ni_row (ni_iloadn ni_dX19_firstLinks_1 rfl) ni_muLd <|
  ni_row (ni_iloadn ni_dX19_firstLinks_2 rfl) ni_muLd <|
  ni_row (ni_virt (y := 117) (T := TX19) ni_dX19_firstLinks_3 (by decide) rfl rfl ni_w1596 ni_w1598 ni_w32 ni_w71 ni_w1599 ⟨by decide +kernel, by decide +kernel, by decide +kernel⟩ (by decide) rfl) (ni_muV (by decide)) <|
  ni_row (ni_okP (ni_if_eq ni_dX19_firstLinks_6 (by decide))) (ni_muP ni_eqIf) <|
  ni_row (ni_okP (ni_iconst ni_dX19_firstLinks_9 (by decide +kernel))) (ni_muP (ni_eqPush fun _ => rfl)) <|
  ni_row (ni_okP (ni_goto ni_dX19_firstLinks_10 (by decide))) (ni_muP ni_eqGo) <|
  ni_row (ni_ret ni_dX19_firstLinks_28) ni_muR <|
  ni_row0
def ni_pr128 : List (Nat × ni_S) := [(0, ni_sLd 3 0 1),
  (1, ni_sLd 3 0 2),
  (2, ni_sGet 18 0 5),
  (5, ni_sGet 14 19 8),
  (8, ni_sV 187 0 0 11),
  (11, ni_sV 149 1 18 14),
  (14, ni_sR (some .int))]
theorem ni_pk128 : ∀ r ∈ ni_pr128, ni_Ok xs yX19_flows cX19_flows 1 (some .int) [] r.1 r.2 ∧ ni_MU r.2 := ni_row (ni_aloadn ni_dX19_flows_0 rfl) ni_muLd <|
  ni_row (ni_aloadn ni_dX19_flows_1 rfl) ni_muLd <|
  ni_row (ni_get (T := TX19) ni_dX19_flows_2 (by decide) rfl (by decide) ni_uX19 ni_w1569) ni_muGet <|
  ni_row (ni_get (T := TX15) ni_dX19_flows_5 (by decide) rfl (by decide) ni_uX15 ni_w1512) ni_muGet <|
  ni_row (ni_virt (y := 187) (T := TJx4a65c) ni_dX19_flows_8 (by decide) rfl rfl ni_w1841 ni_w1770 ni_w1771 ni_w75 ni_w1772 ⟨by decide +kernel, by decide +kernel, by decide +kernel⟩ (by decide) rfl) (ni_muV (by decide)) <|
  ni_row (ni_virt (y := 149) (T := TX19) ni_dX19_flows_11 (by decide) rfl rfl ni_w2119 ni_w2121 ni_w55 ni_w71 ni_w2122 ⟨by decide +kernel, by decide +kernel, by decide +kernel⟩ (by decide) rfl) (ni_muV (by decide)) <|
  ni_row (ni_ret ni_dX19_flows_14) ni_muR <|
  ni_row0
def ni_pr129 : List (Nat × ni_S) := [(0, ni_sLd 3 0 1),
  (1, ni_sLd 0 1 2),
  (2, ni_sLd 0 2 3),
  (3, ni_sV 131 2 18 6),
  (6, ni_sP (ni_gIf (fun x => decide (x = 0)) 11 9)),
  (9, ni_sP (ni_gPush (.int 0) 10)),
  (10, ni_sR (some .int))]
theorem ni_pk129 : ∀ r ∈ ni_pr129, ni_Ok xs yX19_found cX19_found 4 (some .int) [] r.1 r.2 ∧ ni_MU r.2 := ni_row (ni_aloadn ni_dX19_found_0 rfl) ni_muLd <|
  ni_row (ni_iloadn ni_dX19_found_1 rfl) ni_muLd <|
  ni_row (ni_iloadn ni_dX19_found_2 rfl) ni_muLd <|
  ni_row (ni_virt (y := 131) (T := TX19) ni_dX19_found_3 (by decide) rfl rfl ni_w2203 ni_w2205 ni_w56 ni_w71 ni_w2206 ⟨by decide +kernel, by decide +kernel, by decide +kernel⟩ (by decide) rfl) (ni_muV (by decide)) <|
  ni_row (ni_okP (ni_if_eq ni_dX19_found_6 (by decide))) (ni_muP ni_eqIf) <|
  ni_row (ni_okP (ni_iconst ni_dX19_found_9 (by decide +kernel))) (ni_muP (ni_eqPush fun _ => rfl)) <|
  ni_row (ni_ret ni_dX19_found_10) ni_muR <|
  ni_row0
def ni_pr130 : List (Nat × ni_S) := [(0, ni_sLd 0 0 1),
  (1, ni_sLd 0 1 2),
  (2, ni_sP (ni_gIc (fun x y => decide (x < y)) 14 5)),
  (5, ni_sLd 0 0 6),
  (6, ni_sLd 0 2 7),
  (7, ni_sP (ni_gIc (fun x y => decide (y < x)) 14 10)),
  (10, ni_sP (ni_gPush (.int 1) 11)),
  (11, ni_sP (ni_gGo 15)),
  (14, ni_sP (ni_gPush (.int 0) 15)),
  (15, ni_sR (some .boolean))]
theorem ni_pk130 : ∀ r ∈ ni_pr130, ni_Ok xs yX19_isIn cX19_isIn 3 (some .boolean) [] r.1 r.2 ∧ ni_MU r.2 := ni_row (ni_iloadn ni_dX19_isIn_0 rfl) ni_muLd <|
  ni_row (ni_iloadn ni_dX19_isIn_1 rfl) ni_muLd <|
  ni_row (ni_okP (ni_ic_lt ni_dX19_isIn_2 (by decide))) (ni_muP ni_eqIc) <|
  ni_row (ni_iloadn ni_dX19_isIn_5 rfl) ni_muLd <|
  ni_row (ni_iloadn ni_dX19_isIn_6 rfl) ni_muLd <|
  ni_row (ni_okP (ni_ic_gt ni_dX19_isIn_7 (by decide))) (ni_muP ni_eqIc) <|
  ni_row (ni_okP (ni_iconst ni_dX19_isIn_10 (by decide +kernel))) (ni_muP (ni_eqPush fun _ => rfl)) <|
  ni_row (ni_okP (ni_goto ni_dX19_isIn_11 (by decide))) (ni_muP ni_eqGo) <|
  ni_row (ni_okP (ni_iconst ni_dX19_isIn_14 (by decide +kernel))) (ni_muP (ni_eqPush fun _ => rfl)) <|
  ni_row (ni_ret ni_dX19_isIn_15) ni_muR <|
  ni_row0
def ni_pr131 : List (Nat × ni_S) := [(0, ni_sLd 3 0 1),
  (1, ni_sLd 0 1 2),
  (2, ni_sV 135 1 18 5),
  (5, ni_sP (ni_gIf (fun x => decide (¬ x = 0)) 31 8)),
  (31, ni_sP (ni_gPush (.int 1) 32)),
  (32, ni_sP (ni_gGo 36)),
  (36, ni_sR (some .boolean))]
theorem ni_pk131 : ∀ r ∈ ni_pr131, ni_Ok xs yX19_isNoAddress cX19_isNoAddress 3 (some .boolean) [] r.1 r.2 ∧ ni_MU r.2 := ni_row (ni_aloadn ni_dX19_isNoAddress_0 rfl) ni_muLd <|
  ni_row (ni_iloadn ni_dX19_isNoAddress_1 rfl) ni_muLd <|
  ni_row (ni_virt (y := 135) (T := TX19) ni_dX19_isNoAddress_2 (by decide) rfl rfl ni_w1600 ni_w1602 ni_w33 ni_w71 ni_w1603 ⟨by decide +kernel, by decide +kernel, by decide +kernel⟩ (by decide) rfl) (ni_muV (by decide)) <|
  ni_row (ni_okP (ni_if_ne ni_dX19_isNoAddress_5 (by decide))) (ni_muP ni_eqIf) <|
  ni_row (ni_okP (ni_iconst ni_dX19_isNoAddress_31 (by decide +kernel))) (ni_muP (ni_eqPush fun _ => rfl)) <|
  ni_row (ni_okP (ni_goto ni_dX19_isNoAddress_32 (by decide))) (ni_muP ni_eqGo) <|
  ni_row (ni_ret ni_dX19_isNoAddress_36) ni_muR <|
  ni_row0
def ni_pr132 : List (Nat × ni_S) := [(0, ni_sLd 3 0 1),
  (1, ni_sLd 0 1 2),
  (2, ni_sV 134 1 18 5),
  (5, ni_sP (ni_gIf (fun x => decide (¬ x = 0)) 30 8)),
  (30, ni_sP (ni_gPush (.int 1) 31)),
  (31, ni_sP (ni_gGo 35)),
  (35, ni_sR (some .boolean))]
theorem ni_pk132 : ∀ r ∈ ni_pr132, ni_Ok xs yX19_isNoClass cX19_isNoClass 3 (some .boolean) [] r.1 r.2 ∧ ni_MU r.2 := ni_row (ni_aloadn ni_dX19_isNoClass_0 rfl) ni_muLd <|
  ni_row (ni_iloadn ni_dX19_isNoClass_1 rfl) ni_muLd <|
  ni_row (ni_virt (y := 134) (T := TX19) ni_dX19_isNoClass_2 (by decide) rfl rfl ni_w1756 ni_w1758 ni_w39 ni_w71 ni_w1759 ⟨by decide +kernel, by decide +kernel, by decide +kernel⟩ (by decide) rfl) (ni_muV (by decide)) <|
  ni_row (ni_okP (ni_if_ne ni_dX19_isNoClass_5 (by decide))) (ni_muP ni_eqIf) <|
  ni_row (ni_okP (ni_iconst ni_dX19_isNoClass_30 (by decide +kernel))) (ni_muP (ni_eqPush fun _ => rfl)) <|
  ni_row (ni_okP (ni_goto ni_dX19_isNoClass_31 (by decide))) (ni_muP ni_eqGo) <|
  ni_row (ni_ret ni_dX19_isNoClass_35) ni_muR <|
  ni_row0
def ni_pr133 : List (Nat × ni_S) := [(0, ni_sLd 3 0 1),
  (1, ni_sLd 0 1 2),
  (2, ni_sP (ni_gPush (.int 0) 3)),
  (3, ni_sLd 3 0 4),
  (4, ni_sGet 18 0 7),
  (7, ni_sGet 14 19 10),
  (10, ni_sV 187 0 0 13),
  (13, ni_sP (ni_gPush (.int 1) 14)),
  (14, ni_sP (ni_gI (fun x y => x - y) 15)),
  (15, ni_sC 130 3 18),
  (18, ni_sP (ni_gIf (fun x => decide (¬ x = 0)) 25 21)),
  (21, ni_sP (ni_gPush (.int 1) 22)),
  (22, ni_sP (ni_gGo 26)),
  (26, ni_sP (ni_gPush (.int 1) 27)),
  (27, ni_sV 164 2 18 30),
  (30, ni_sR (some .boolean))]
theorem ni_pk133 : ∀ r ∈ ni_pr133, ni_Ok xs yX19_isNoFlow cX19_isNoFlow 2 (some .boolean) [] r.1 r.2 ∧ ni_MU r.2 := ni_row (ni_aloadn ni_dX19_isNoFlow_0 rfl) ni_muLd <|
  ni_row (ni_iloadn ni_dX19_isNoFlow_1 rfl) ni_muLd <|
  ni_row (ni_okP (ni_iconst ni_dX19_isNoFlow_2 (by decide +kernel))) (ni_muP (ni_eqPush fun _ => rfl)) <|
  ni_row (ni_aloadn ni_dX19_isNoFlow_3 rfl) ni_muLd <|
  ni_row (ni_get (T := TX19) ni_dX19_isNoFlow_4 (by decide) rfl (by decide) ni_uX19 ni_w1569) ni_muGet <|
  ni_row (ni_get (T := TX15) ni_dX19_isNoFlow_7 (by decide) rfl (by decide) ni_uX15 ni_w1512) ni_muGet <|
  ni_row (ni_virt (y := 187) (T := TJx4a65c) ni_dX19_isNoFlow_10 (by decide) rfl rfl ni_w1841 ni_w1770 ni_w1771 ni_w75 ni_w1772 ⟨by decide +kernel, by decide +kernel, by decide +kernel⟩ (by decide) rfl) (ni_muV (by decide)) <|
  ni_row (ni_okP (ni_iconst ni_dX19_isNoFlow_13 (by decide +kernel))) (ni_muP (ni_eqPush fun _ => rfl)) <|
  ni_row (ni_okP (ni_isub ni_dX19_isNoFlow_14)) (ni_muP ni_eqI) <|
  ni_row (ni_stat (y := 130) ni_dX19_isNoFlow_15 ni_w1604 ni_w1605 ni_w71 ni_w1606 ⟨by decide +kernel, by decide +kernel, by decide +kernel⟩ (by decide) rfl) ni_muC <|
  ni_row (ni_okP (ni_if_ne ni_dX19_isNoFlow_18 (by decide))) (ni_muP ni_eqIf) <|
  ni_row (ni_okP (ni_iconst ni_dX19_isNoFlow_21 (by decide +kernel))) (ni_muP (ni_eqPush fun _ => rfl)) <|
  ni_row (ni_okP (ni_goto ni_dX19_isNoFlow_22 (by decide))) (ni_muP ni_eqGo) <|
  ni_row (ni_okP (ni_iconst ni_dX19_isNoFlow_26 (by decide +kernel))) (ni_muP (ni_eqPush fun _ => rfl)) <|
  ni_row (ni_virt (y := 164) (T := TX19) ni_dX19_isNoFlow_27 (by decide) rfl rfl ni_w1584 ni_w1586 ni_w30 ni_w71 ni_w1587 ⟨by decide +kernel, by decide +kernel, by decide +kernel⟩ (by decide) rfl) (ni_muV (by decide)) <|
  ni_row (ni_ret ni_dX19_isNoFlow_30) ni_muR <|
  ni_row0
def ni_pr134 : List (Nat × ni_S) := [(0, ni_sLd 3 0 1),
  (1, ni_sLd 0 1 2),
  (2, ni_sP (ni_gPush (.int 0) 3)),
  (3, ni_sLd 3 0 4),
  (4, ni_sGet 18 0 7),
  (7, ni_sGet 14 2 10),
  (10, ni_sP (ni_gPush (.int 1) 11)),
  (11, ni_sP (ni_gI (fun x y => x - y) 12)),
  (12, ni_sC 130 3 15),
  (15, ni_sP (ni_gIf (fun x => decide (¬ x = 0)) 22 18)),
  (18, ni_sP (ni_gPush (.int 1) 19)),
  (19, ni_sP (ni_gGo 23)),
  (23, ni_sP (ni_gPush (.int 1) 24)),
  (24, ni_sV 164 2 18 27),
  (27, ni_sR (some .boolean))]
theorem ni_pk134 : ∀ r ∈ ni_pr134, ni_Ok xs yX19_isNoLink cX19_isNoLink 2 (some .boolean) [] r.1 r.2 ∧ ni_MU r.2 := ni_row (ni_aloadn ni_dX19_isNoLink_0 rfl) ni_muLd <|
  ni_row (ni_iloadn ni_dX19_isNoLink_1 rfl) ni_muLd <|
  ni_row (ni_okP (ni_iconst ni_dX19_isNoLink_2 (by decide +kernel))) (ni_muP (ni_eqPush fun _ => rfl)) <|
  ni_row (ni_aloadn ni_dX19_isNoLink_3 rfl) ni_muLd <|
  ni_row (ni_get (T := TX19) ni_dX19_isNoLink_4 (by decide) rfl (by decide) ni_uX19 ni_w1569) ni_muGet <|
  ni_row (ni_get (T := TX15) ni_dX19_isNoLink_7 (by decide) rfl (by decide) ni_uX15 ni_w1478) ni_muGet <|
  ni_row (ni_okP (ni_iconst ni_dX19_isNoLink_10 (by decide +kernel))) (ni_muP (ni_eqPush fun _ => rfl)) <|
  ni_row (ni_okP (ni_isub ni_dX19_isNoLink_11)) (ni_muP ni_eqI) <|
  ni_row (ni_stat (y := 130) ni_dX19_isNoLink_12 ni_w1604 ni_w1605 ni_w71 ni_w1606 ⟨by decide +kernel, by decide +kernel, by decide +kernel⟩ (by decide) rfl) ni_muC <|
  ni_row (ni_okP (ni_if_ne ni_dX19_isNoLink_15 (by decide))) (ni_muP ni_eqIf) <|
  ni_row (ni_okP (ni_iconst ni_dX19_isNoLink_18 (by decide +kernel))) (ni_muP (ni_eqPush fun _ => rfl)) <|
  ni_row (ni_okP (ni_goto ni_dX19_isNoLink_19 (by decide))) (ni_muP ni_eqGo) <|
  ni_row (ni_okP (ni_iconst ni_dX19_isNoLink_23 (by decide +kernel))) (ni_muP (ni_eqPush fun _ => rfl)) <|
  ni_row (ni_virt (y := 164) (T := TX19) ni_dX19_isNoLink_24 (by decide) rfl rfl ni_w1584 ni_w1586 ni_w30 ni_w71 ni_w1587 ⟨by decide +kernel, by decide +kernel, by decide +kernel⟩ (by decide) rfl) (ni_muV (by decide)) <|
  ni_row (ni_ret ni_dX19_isNoLink_27) ni_muR <|
  ni_row0
def ni_pr135 : List (Nat × ni_S) := [(0, ni_sLd 3 0 1),
  (1, ni_sLd 0 1 2),
  (2, ni_sP (ni_gPush (.int 0) 3)),
  (3, ni_sLd 3 0 4),
  (4, ni_sGet 18 0 7),
  (7, ni_sGet 14 1 10),
  (10, ni_sP (ni_gPush (.int 1) 11)),
  (11, ni_sP (ni_gI (fun x y => x - y) 12)),
  (12, ni_sC 130 3 15),
  (15, ni_sP (ni_gIf (fun x => decide (¬ x = 0)) 22 18)),
  (18, ni_sP (ni_gPush (.int 1) 19)),
  (19, ni_sP (ni_gGo 23)),
  (23, ni_sP (ni_gPush (.int 1) 24)),
  (24, ni_sV 164 2 18 27),
  (27, ni_sR (some .boolean))]
theorem ni_pk135 : ∀ r ∈ ni_pr135, ni_Ok xs yX19_isNoRouter cX19_isNoRouter 2 (some .boolean) [] r.1 r.2 ∧ ni_MU r.2 := ni_row (ni_aloadn ni_dX19_isNoRouter_0 rfl) ni_muLd <|
  ni_row (ni_iloadn ni_dX19_isNoRouter_1 rfl) ni_muLd <|
  ni_row (ni_okP (ni_iconst ni_dX19_isNoRouter_2 (by decide +kernel))) (ni_muP (ni_eqPush fun _ => rfl)) <|
  ni_row (ni_aloadn ni_dX19_isNoRouter_3 rfl) ni_muLd <|
  ni_row (ni_get (T := TX19) ni_dX19_isNoRouter_4 (by decide) rfl (by decide) ni_uX19 ni_w1569) ni_muGet <|
  ni_row (ni_get (T := TX15) ni_dX19_isNoRouter_7 (by decide) rfl (by decide) ni_uX15 ni_w1476) ni_muGet <|
  ni_row (ni_okP (ni_iconst ni_dX19_isNoRouter_10 (by decide +kernel))) (ni_muP (ni_eqPush fun _ => rfl)) <|
  ni_row (ni_okP (ni_isub ni_dX19_isNoRouter_11)) (ni_muP ni_eqI) <|
  ni_row (ni_stat (y := 130) ni_dX19_isNoRouter_12 ni_w1604 ni_w1605 ni_w71 ni_w1606 ⟨by decide +kernel, by decide +kernel, by decide +kernel⟩ (by decide) rfl) ni_muC <|
  ni_row (ni_okP (ni_if_ne ni_dX19_isNoRouter_15 (by decide))) (ni_muP ni_eqIf) <|
  ni_row (ni_okP (ni_iconst ni_dX19_isNoRouter_18 (by decide +kernel))) (ni_muP (ni_eqPush fun _ => rfl)) <|
  ni_row (ni_okP (ni_goto ni_dX19_isNoRouter_19 (by decide))) (ni_muP ni_eqGo) <|
  ni_row (ni_okP (ni_iconst ni_dX19_isNoRouter_23 (by decide +kernel))) (ni_muP (ni_eqPush fun _ => rfl)) <|
  ni_row (ni_virt (y := 164) (T := TX19) ni_dX19_isNoRouter_24 (by decide) rfl rfl ni_w1584 ni_w1586 ni_w30 ni_w71 ni_w1587 ⟨by decide +kernel, by decide +kernel, by decide +kernel⟩ (by decide) rfl) (ni_muV (by decide)) <|
  ni_row (ni_ret ni_dX19_isNoRouter_27) ni_muR <|
  ni_row0
def ni_pr136 : List (Nat × ni_S) := [(0, ni_sLd 3 0 1),
  (1, ni_sP (ni_gPush (.int 0) 2)),
  (2, ni_sPut 18 1 (.int) 5),
  (5, ni_sLd 3 0 6),
  (6, ni_sGet 18 0 9),
  (9, ni_sV 175 0 14 12),
  (12, ni_sP (ni_gIf (fun x => decide (¬ x = 0)) 19 15)),
  (15, ni_sP (ni_gPush (.int 1) 16)),
  (16, ni_sP (ni_gGo 20)),
  (20, ni_sR (some .boolean))]
theorem ni_pk136 : ∀ r ∈ ni_pr136, ni_Ok xs yX19_isSettled cX19_isSettled 1 (some .boolean) [] r.1 r.2 ∧ ni_MU r.2 := ni_row (ni_aloadn ni_dX19_isSettled_0 rfl) ni_muLd <|
  ni_row (ni_okP (ni_iconst ni_dX19_isSettled_1 (by decide +kernel))) (ni_muP (ni_eqPush fun _ => rfl)) <|
  ni_row (ni_putA (T := TX19) (ty0 := tyX19) (b := false) (Or.inl rfl) rfl ni_dX19_isSettled_2 (by decide) rfl (by decide) ni_uX19 tyX19_ok nmX19 ni_w1570) ni_muPut <|
  ni_row (ni_aloadn ni_dX19_isSettled_5 rfl) ni_muLd <|
  ni_row (ni_get (T := TX19) ni_dX19_isSettled_6 (by decide) rfl (by decide) ni_uX19 ni_w1569) ni_muGet <|
  ni_row (ni_virt (y := 175) (T := TX15) ni_dX19_isSettled_9 (by decide) rfl rfl ni_w2156 ni_w2157 ni_w2158 ni_w72 ni_w2159 ⟨by decide +kernel, by decide +kernel, by decide +kernel⟩ (by decide) rfl) (ni_muV (by decide)) <|
  ni_row (ni_okP (ni_if_ne ni_dX19_isSettled_12 (by decide))) (ni_muP ni_eqIf) <|
  ni_row (ni_okP (ni_iconst ni_dX19_isSettled_15 (by decide +kernel))) (ni_muP (ni_eqPush fun _ => rfl)) <|
  ni_row (ni_okP (ni_goto ni_dX19_isSettled_16 (by decide))) (ni_muP ni_eqGo) <|
  ni_row (ni_ret ni_dX19_isSettled_20) ni_muR <|
  ni_row0
def ni_pr137 : List (Nat × ni_S) := [(0, ni_sLd 3 0 1),
  (1, ni_sLd 0 1 2),
  (2, ni_sV 134 1 18 5),
  (5, ni_sP (ni_gIf (fun x => decide (¬ x = 0)) 24 8)),
  (24, ni_sP (ni_gPush (.int 0) 25)),
  (25, ni_sR (some .boolean))]
theorem ni_pk137 : ∀ r ∈ ni_pr137, ni_Ok xs yX19_isUp cX19_isUp 2 (some .boolean) [] r.1 r.2 ∧ ni_MU r.2 := ni_row (ni_aloadn ni_dX19_isUp_0 rfl) ni_muLd <|
  ni_row (ni_iloadn ni_dX19_isUp_1 rfl) ni_muLd <|
  ni_row (ni_virt (y := 134) (T := TX19) ni_dX19_isUp_2 (by decide) rfl rfl ni_w1756 ni_w1758 ni_w39 ni_w71 ni_w1759 ⟨by decide +kernel, by decide +kernel, by decide +kernel⟩ (by decide) rfl) (ni_muV (by decide)) <|
  ni_row (ni_okP (ni_if_ne ni_dX19_isUp_5 (by decide))) (ni_muP ni_eqIf) <|
  ni_row (ni_okP (ni_iconst ni_dX19_isUp_24 (by decide +kernel))) (ni_muP (ni_eqPush fun _ => rfl)) <|
  ni_row (ni_ret ni_dX19_isUp_25) ni_muR <|
  ni_row0
def ni_pr138 : List (Nat × ni_S) := [(0, ni_sLd 3 0 1),
  (1, ni_sLd 0 1 2),
  (2, ni_sV 133 1 18 5),
  (5, ni_sP (ni_gIf (fun x => decide (x = 0)) 12 8)),
  (8, ni_sP (ni_gPush (.int 0) 9)),
  (9, ni_sP (ni_gGo 29)),
  (29, ni_sR (some .int))]
theorem ni_pk138 : ∀ r ∈ ni_pr138, ni_Ok xs yX19_latest cX19_latest 2 (some .int) [] r.1 r.2 ∧ ni_MU r.2 := ni_row (ni_aloadn ni_dX19_latest_0 rfl) ni_muLd <|
  ni_row (ni_iloadn ni_dX19_latest_1 rfl) ni_muLd <|
  ni_row (ni_virt (y := 133) (T := TX19) ni_dX19_latest_2 (by decide) rfl rfl ni_w1963 ni_w1965 ni_w43 ni_w71 ni_w1966 ⟨by decide +kernel, by decide +kernel, by decide +kernel⟩ (by decide) rfl) (ni_muV (by decide)) <|
  ni_row (ni_okP (ni_if_eq ni_dX19_latest_5 (by decide))) (ni_muP ni_eqIf) <|
  ni_row (ni_okP (ni_iconst ni_dX19_latest_8 (by decide +kernel))) (ni_muP (ni_eqPush fun _ => rfl)) <|
  ni_row (ni_okP (ni_goto ni_dX19_latest_9 (by decide))) (ni_muP ni_eqGo) <|
  ni_row (ni_ret ni_dX19_latest_29) ni_muR <|
  ni_row0
def ni_pr139 : List (Nat × ni_S) := [(0, ni_sLd 3 0 1),
  (1, ni_sLd 0 1 2),
  (2, ni_sLd 0 2 3),
  (3, ni_sV 117 2 18 6),
  (6, ni_sP (ni_gIf (fun x => decide (x = 0)) 13 9)),
  (9, ni_sP (ni_gPush (.int 0) 10)),
  (10, ni_sP (ni_gGo 22)),
  (22, ni_sR (some .int))]
theorem ni_pk139 : ∀ r ∈ ni_pr139, ni_Ok xs yX19_letterOf cX19_letterOf 3 (some .int) [] r.1 r.2 ∧ ni_MU r.2 := ni_row (ni_aloadn ni_dX19_letterOf_0 rfl) ni_muLd <|
  ni_row (ni_iloadn ni_dX19_letterOf_1 rfl) ni_muLd <|
  ni_row (ni_iloadn ni_dX19_letterOf_2 rfl) ni_muLd <|
  ni_row (ni_virt (y := 117) (T := TX19) ni_dX19_letterOf_3 (by decide) rfl rfl ni_w1596 ni_w1598 ni_w32 ni_w71 ni_w1599 ⟨by decide +kernel, by decide +kernel, by decide +kernel⟩ (by decide) rfl) (ni_muV (by decide)) <|
  ni_row (ni_okP (ni_if_eq ni_dX19_letterOf_6 (by decide))) (ni_muP ni_eqIf) <|
  ni_row (ni_okP (ni_iconst ni_dX19_letterOf_9 (by decide +kernel))) (ni_muP (ni_eqPush fun _ => rfl)) <|
  ni_row (ni_okP (ni_goto ni_dX19_letterOf_10 (by decide))) (ni_muP ni_eqGo) <|
  ni_row (ni_ret ni_dX19_letterOf_22) ni_muR <|
  ni_row0
def ni_pr140 : List (Nat × ni_S) := [(0, ni_sLd 3 0 1),
  (1, ni_sLd 3 0 2),
  (2, ni_sGet 18 0 5),
  (5, ni_sV 175 0 14 8),
  (8, ni_sV 149 1 18 11),
  (11, ni_sR (some .int))]
theorem ni_pk140 : ∀ r ∈ ni_pr140, ni_Ok xs yX19_letters cX19_letters 1 (some .int) [] r.1 r.2 ∧ ni_MU r.2 := ni_row (ni_aloadn ni_dX19_letters_0 rfl) ni_muLd <|
  ni_row (ni_aloadn ni_dX19_letters_1 rfl) ni_muLd <|
  ni_row (ni_get (T := TX19) ni_dX19_letters_2 (by decide) rfl (by decide) ni_uX19 ni_w1569) ni_muGet <|
  ni_row (ni_virt (y := 175) (T := TX15) ni_dX19_letters_5 (by decide) rfl rfl ni_w2156 ni_w2157 ni_w2158 ni_w72 ni_w2159 ⟨by decide +kernel, by decide +kernel, by decide +kernel⟩ (by decide) rfl) (ni_muV (by decide)) <|
  ni_row (ni_virt (y := 149) (T := TX19) ni_dX19_letters_8 (by decide) rfl rfl ni_w2119 ni_w2121 ni_w55 ni_w71 ni_w2122 ⟨by decide +kernel, by decide +kernel, by decide +kernel⟩ (by decide) rfl) (ni_muV (by decide)) <|
  ni_row (ni_ret ni_dX19_letters_11) ni_muR <|
  ni_row0
def ni_pr141 : List (Nat × ni_S) := [(0, ni_sLd 3 0 1),
  (1, ni_sLd 3 0 2),
  (2, ni_sGet 18 0 5),
  (5, ni_sGet 14 2 8),
  (8, ni_sV 149 1 18 11),
  (11, ni_sR (some .int))]
theorem ni_pk141 : ∀ r ∈ ni_pr141, ni_Ok xs yX19_links cX19_links 1 (some .int) [] r.1 r.2 ∧ ni_MU r.2 := ni_row (ni_aloadn ni_dX19_links_0 rfl) ni_muLd <|
  ni_row (ni_aloadn ni_dX19_links_1 rfl) ni_muLd <|
  ni_row (ni_get (T := TX19) ni_dX19_links_2 (by decide) rfl (by decide) ni_uX19 ni_w1569) ni_muGet <|
  ni_row (ni_get (T := TX15) ni_dX19_links_5 (by decide) rfl (by decide) ni_uX15 ni_w1478) ni_muGet <|
  ni_row (ni_virt (y := 149) (T := TX19) ni_dX19_links_8 (by decide) rfl rfl ni_w2119 ni_w2121 ni_w55 ni_w71 ni_w2122 ⟨by decide +kernel, by decide +kernel, by decide +kernel⟩ (by decide) rfl) (ni_muV (by decide)) <|
  ni_row (ni_ret ni_dX19_links_11) ni_muR <|
  ni_row0
def ni_pr142 : List (Nat × ni_S) := [(0, ni_sLd 3 0 1),
  (1, ni_sLd 0 1 2),
  (2, ni_sLd 0 2 3),
  (3, ni_sV 131 2 18 6),
  (6, ni_sP (ni_gIf (fun x => decide (x = 0)) 13 9)),
  (9, ni_sP (ni_gPush (.int 0) 10)),
  (10, ni_sP (ni_gGo 34)),
  (34, ni_sR (some .int))]
theorem ni_pk142 : ∀ r ∈ ni_pr142, ni_Ok xs yX19_looks_ cX19_looks_ 3 (some .int) [] r.1 r.2 ∧ ni_MU r.2 := ni_row (ni_aloadn ni_dX19_looks__0 rfl) ni_muLd <|
  ni_row (ni_iloadn ni_dX19_looks__1 rfl) ni_muLd <|
  ni_row (ni_iloadn ni_dX19_looks__2 rfl) ni_muLd <|
  ni_row (ni_virt (y := 131) (T := TX19) ni_dX19_looks__3 (by decide) rfl rfl ni_w2203 ni_w2205 ni_w56 ni_w71 ni_w2206 ⟨by decide +kernel, by decide +kernel, by decide +kernel⟩ (by decide) rfl) (ni_muV (by decide)) <|
  ni_row (ni_okP (ni_if_eq ni_dX19_looks__6 (by decide))) (ni_muP ni_eqIf) <|
  ni_row (ni_okP (ni_iconst ni_dX19_looks__9 (by decide +kernel))) (ni_muP (ni_eqPush fun _ => rfl)) <|
  ni_row (ni_okP (ni_goto ni_dX19_looks__10 (by decide))) (ni_muP ni_eqGo) <|
  ni_row (ni_ret ni_dX19_looks__34) ni_muR <|
  ni_row0
def ni_pr143 : List (Nat × ni_S) := [(0, ni_sLd 3 0 1),
  (1, ni_sLd 0 1 2),
  (2, ni_sV 133 1 18 5),
  (5, ni_sP (ni_gIf (fun x => decide (x = 0)) 10 8)),
  (8, ni_sP (ni_gPush (.double FP.dconst0) 9)),
  (9, ni_sR (some .double))]
theorem ni_pk143 : ∀ r ∈ ni_pr143, ni_Ok xs yX19_meanLate cX19_meanLate 3 (some .double) [] r.1 r.2 ∧ ni_MU r.2 := ni_row (ni_aloadn ni_dX19_meanLate_0 rfl) ni_muLd <|
  ni_row (ni_iloadn ni_dX19_meanLate_1 rfl) ni_muLd <|
  ni_row (ni_virt (y := 133) (T := TX19) ni_dX19_meanLate_2 (by decide) rfl rfl ni_w1963 ni_w1965 ni_w43 ni_w71 ni_w1966 ⟨by decide +kernel, by decide +kernel, by decide +kernel⟩ (by decide) rfl) (ni_muV (by decide)) <|
  ni_row (ni_okP (ni_if_eq ni_dX19_meanLate_5 (by decide))) (ni_muP ni_eqIf) <|
  ni_row (ni_okP (ni_dconst0 ni_dX19_meanLate_8)) (ni_muP (ni_eqPush fun _ => rfl)) <|
  ni_row (ni_ret ni_dX19_meanLate_9) ni_muR <|
  ni_row0
def ni_pr144 : List (Nat × ni_S) := [(0, ni_sLd 3 0 1),
  (1, ni_sLd 3 0 2),
  (2, ni_sGet 18 0 5),
  (5, ni_sGet 14 10 8),
  (8, ni_sV 149 1 18 11),
  (11, ni_sR (some .int))]
theorem ni_pk144 : ∀ r ∈ ni_pr144, ni_Ok xs yX19_networks cX19_networks 1 (some .int) [] r.1 r.2 ∧ ni_MU r.2 := ni_row (ni_aloadn ni_dX19_networks_0 rfl) ni_muLd <|
  ni_row (ni_aloadn ni_dX19_networks_1 rfl) ni_muLd <|
  ni_row (ni_get (T := TX19) ni_dX19_networks_2 (by decide) rfl (by decide) ni_uX19 ni_w1569) ni_muGet <|
  ni_row (ni_get (T := TX15) ni_dX19_networks_5 (by decide) rfl (by decide) ni_uX15 ni_w1494) ni_muGet <|
  ni_row (ni_virt (y := 149) (T := TX19) ni_dX19_networks_8 (by decide) rfl rfl ni_w2119 ni_w2121 ni_w55 ni_w71 ni_w2122 ⟨by decide +kernel, by decide +kernel, by decide +kernel⟩ (by decide) rfl) (ni_muV (by decide)) <|
  ni_row (ni_ret ni_dX19_networks_11) ni_muR <|
  ni_row0
def ni_pr145 : List (Nat × ni_S) := [(0, ni_sLd 3 0 1),
  (1, ni_sLd 0 1 2),
  (2, ni_sV 135 1 18 5),
  (5, ni_sP (ni_gIf (fun x => decide (¬ x = 0)) 41 8)),
  (41, ni_sP (ni_gPush (.int 0) 42)),
  (42, ni_sP (ni_gGo 54)),
  (54, ni_sR (some .int))]
theorem ni_pk145 : ∀ r ∈ ni_pr145, ni_Ok xs yX19_nextLink cX19_nextLink 3 (some .int) [] r.1 r.2 ∧ ni_MU r.2 := ni_row (ni_aloadn ni_dX19_nextLink_0 rfl) ni_muLd <|
  ni_row (ni_iloadn ni_dX19_nextLink_1 rfl) ni_muLd <|
  ni_row (ni_virt (y := 135) (T := TX19) ni_dX19_nextLink_2 (by decide) rfl rfl ni_w1600 ni_w1602 ni_w33 ni_w71 ni_w1603 ⟨by decide +kernel, by decide +kernel, by decide +kernel⟩ (by decide) rfl) (ni_muV (by decide)) <|
  ni_row (ni_okP (ni_if_ne ni_dX19_nextLink_5 (by decide))) (ni_muP ni_eqIf) <|
  ni_row (ni_okP (ni_iconst ni_dX19_nextLink_41 (by decide +kernel))) (ni_muP (ni_eqPush fun _ => rfl)) <|
  ni_row (ni_okP (ni_goto ni_dX19_nextLink_42 (by decide))) (ni_muP ni_eqGo) <|
  ni_row (ni_ret ni_dX19_nextLink_54) ni_muR <|
  ni_row0
def ni_pr146 : List (Nat × ni_S) := [(0, ni_sLd 3 0 1),
  (1, ni_sLd 0 1 2),
  (2, ni_sV 133 1 18 5),
  (5, ni_sP (ni_gIf (fun x => decide (x = 0)) 12 8)),
  (8, ni_sP (ni_gPush (.int 0) 9)),
  (9, ni_sP (ni_gGo 29)),
  (29, ni_sR (some .int))]
theorem ni_pk146 : ∀ r ∈ ni_pr146, ni_Ok xs yX19_offered cX19_offered 2 (some .int) [] r.1 r.2 ∧ ni_MU r.2 := ni_row (ni_aloadn ni_dX19_offered_0 rfl) ni_muLd <|
  ni_row (ni_iloadn ni_dX19_offered_1 rfl) ni_muLd <|
  ni_row (ni_virt (y := 133) (T := TX19) ni_dX19_offered_2 (by decide) rfl rfl ni_w1963 ni_w1965 ni_w43 ni_w71 ni_w1966 ⟨by decide +kernel, by decide +kernel, by decide +kernel⟩ (by decide) rfl) (ni_muV (by decide)) <|
  ni_row (ni_okP (ni_if_eq ni_dX19_offered_5 (by decide))) (ni_muP ni_eqIf) <|
  ni_row (ni_okP (ni_iconst ni_dX19_offered_8 (by decide +kernel))) (ni_muP (ni_eqPush fun _ => rfl)) <|
  ni_row (ni_okP (ni_goto ni_dX19_offered_9 (by decide))) (ni_muP ni_eqGo) <|
  ni_row (ni_ret ni_dX19_offered_29) ni_muR <|
  ni_row0
def ni_pr147 : List (Nat × ni_S) := [(0, ni_sLd 3 0 1),
  (1, ni_sLd 0 1 2),
  (2, ni_sV 134 1 18 5),
  (5, ni_sP (ni_gIf (fun x => decide (x = 0)) 12 8)),
  (8, ni_sP (ni_gPush (.int 0) 9)),
  (9, ni_sP (ni_gGo 17)),
  (17, ni_sR (some .int))]
theorem ni_pk147 : ∀ r ∈ ni_pr147, ni_Ok xs yX19_onLink cX19_onLink 2 (some .int) [] r.1 r.2 ∧ ni_MU r.2 := ni_row (ni_aloadn ni_dX19_onLink_0 rfl) ni_muLd <|
  ni_row (ni_iloadn ni_dX19_onLink_1 rfl) ni_muLd <|
  ni_row (ni_virt (y := 134) (T := TX19) ni_dX19_onLink_2 (by decide) rfl rfl ni_w1756 ni_w1758 ni_w39 ni_w71 ni_w1759 ⟨by decide +kernel, by decide +kernel, by decide +kernel⟩ (by decide) rfl) (ni_muV (by decide)) <|
  ni_row (ni_okP (ni_if_eq ni_dX19_onLink_5 (by decide))) (ni_muP ni_eqIf) <|
  ni_row (ni_okP (ni_iconst ni_dX19_onLink_8 (by decide +kernel))) (ni_muP (ni_eqPush fun _ => rfl)) <|
  ni_row (ni_okP (ni_goto ni_dX19_onLink_9 (by decide))) (ni_muP ni_eqGo) <|
  ni_row (ni_ret ni_dX19_onLink_17) ni_muR <|
  ni_row0
def ni_pr148 : List (Nat × ni_S) := [(0, ni_sLd 3 0 1),
  (1, ni_sLd 0 1 2),
  (2, ni_sV 133 1 18 5),
  (5, ni_sP (ni_gIf (fun x => decide (x = 0)) 12 8)),
  (8, ni_sP (ni_gPush (.int 0) 9)),
  (9, ni_sP (ni_gGo 29)),
  (29, ni_sR (some .int))]
theorem ni_pk148 : ∀ r ∈ ni_pr148, ni_Ok xs yX19_outOfOrder cX19_outOfOrder 2 (some .int) [] r.1 r.2 ∧ ni_MU r.2 := ni_row (ni_aloadn ni_dX19_outOfOrder_0 rfl) ni_muLd <|
  ni_row (ni_iloadn ni_dX19_outOfOrder_1 rfl) ni_muLd <|
  ni_row (ni_virt (y := 133) (T := TX19) ni_dX19_outOfOrder_2 (by decide) rfl rfl ni_w1963 ni_w1965 ni_w43 ni_w71 ni_w1966 ⟨by decide +kernel, by decide +kernel, by decide +kernel⟩ (by decide) rfl) (ni_muV (by decide)) <|
  ni_row (ni_okP (ni_if_eq ni_dX19_outOfOrder_5 (by decide))) (ni_muP ni_eqIf) <|
  ni_row (ni_okP (ni_iconst ni_dX19_outOfOrder_8 (by decide +kernel))) (ni_muP (ni_eqPush fun _ => rfl)) <|
  ni_row (ni_okP (ni_goto ni_dX19_outOfOrder_9 (by decide))) (ni_muP ni_eqGo) <|
  ni_row (ni_ret ni_dX19_outOfOrder_29) ni_muR <|
  ni_row0
def ni_pr149 : List (Nat × ni_S) := [(0, ni_sLd 3 0 1),
  (1, ni_sP (ni_gPush (.int 0) 2)),
  (2, ni_sPut 18 1 (.int) 5),
  (5, ni_sLd 0 1 6),
  (6, ni_sR (some .int))]
theorem ni_pk149 : ∀ r ∈ ni_pr149, ni_Ok xs yX19_plain cX19_plain 2 (some .int) [] r.1 r.2 ∧ ni_MU r.2 := ni_row (ni_aloadn ni_dX19_plain_0 rfl) ni_muLd <|
  ni_row (ni_okP (ni_iconst ni_dX19_plain_1 (by decide +kernel))) (ni_muP (ni_eqPush fun _ => rfl)) <|
  ni_row (ni_putA (T := TX19) (ty0 := tyX19) (b := false) (Or.inl rfl) rfl ni_dX19_plain_2 (by decide) rfl (by decide) ni_uX19 tyX19_ok nmX19 ni_w1570) ni_muPut <|
  ni_row (ni_iloadn ni_dX19_plain_5 rfl) ni_muLd <|
  ni_row (ni_ret ni_dX19_plain_6) ni_muR <|
  ni_row0
def ni_pr150 : List (Nat × ni_S) := [(0, ni_sLd 3 0 1),
  (1, ni_sLd 0 1 2),
  (2, ni_sLd 0 3 3),
  (3, ni_sV 132 2 18 6),
  (6, ni_sP (ni_gIf (fun x => decide (x = 0)) 13 9)),
  (9, ni_sP (ni_gPush (.int 0) 10)),
  (10, ni_sP (ni_gGo 24)),
  (24, ni_sR (some .int))]
theorem ni_pk150 : ∀ r ∈ ni_pr150, ni_Ok xs yX19_queued cX19_queued 4 (some .int) [] r.1 r.2 ∧ ni_MU r.2 := ni_row (ni_aloadn ni_dX19_queued_0 rfl) ni_muLd <|
  ni_row (ni_iloadn ni_dX19_queued_1 rfl) ni_muLd <|
  ni_row (ni_iloadn ni_dX19_queued_2 rfl) ni_muLd <|
  ni_row (ni_virt (y := 132) (T := TX19) ni_dX19_queued_3 (by decide) rfl rfl ni_w2244 ni_w2246 ni_w57 ni_w71 ni_w2247 ⟨by decide +kernel, by decide +kernel, by decide +kernel⟩ (by decide) rfl) (ni_muV (by decide)) <|
  ni_row (ni_okP (ni_if_eq ni_dX19_queued_6 (by decide))) (ni_muP ni_eqIf) <|
  ni_row (ni_okP (ni_iconst ni_dX19_queued_9 (by decide +kernel))) (ni_muP (ni_eqPush fun _ => rfl)) <|
  ni_row (ni_okP (ni_goto ni_dX19_queued_10 (by decide))) (ni_muP ni_eqGo) <|
  ni_row (ni_ret ni_dX19_queued_24) ni_muR <|
  ni_row0
def ni_pr151 : List (Nat × ni_S) := [(0, ni_sLd 0 1 1),
  (1, ni_sP (ni_gIf (fun x => decide (x = 0)) 16 4)),
  (4, ni_sLd 3 0 5),
  (5, ni_sGet 18 1 8),
  (8, ni_sP (ni_gIf (fun x => decide (¬ x = 0)) 16 11)),
  (11, ni_sLd 3 0 12),
  (12, ni_sLd 0 2 13),
  (13, ni_sPut 18 1 (.int) 16),
  (16, ni_sLd 3 0 17),
  (17, ni_sGet 18 1 20),
  (20, ni_sP (ni_gIf (fun x => decide (x ≤ 0)) 27 23)),
  (23, ni_sP (ni_gPush (.int 1) 24)),
  (24, ni_sP (ni_gGo 28)),
  (27, ni_sP (ni_gPush (.int 0) 28)),
  (28, ni_sR (some .boolean))]
theorem ni_pk151 : ∀ r ∈ ni_pr151, ni_Ok xs yX19_refuse cX19_refuse 3 (some .boolean) [] r.1 r.2 ∧ ni_MU r.2 := ni_row (ni_iloadn ni_dX19_refuse_0 rfl) ni_muLd <|
  ni_row (ni_okP (ni_if_eq ni_dX19_refuse_1 (by decide))) (ni_muP ni_eqIf) <|
  ni_row (ni_aloadn ni_dX19_refuse_4 rfl) ni_muLd <|
  ni_row (ni_get (T := TX19) ni_dX19_refuse_5 (by decide) rfl (by decide) ni_uX19 ni_w1570) ni_muGet <|
  ni_row (ni_okP (ni_if_ne ni_dX19_refuse_8 (by decide))) (ni_muP ni_eqIf) <|
  ni_row (ni_aloadn ni_dX19_refuse_11 rfl) ni_muLd <|
  ni_row (ni_iloadn ni_dX19_refuse_12 rfl) ni_muLd <|
  ni_row (ni_putA (T := TX19) (ty0 := tyX19) (b := false) (Or.inl rfl) rfl ni_dX19_refuse_13 (by decide) rfl (by decide) ni_uX19 tyX19_ok nmX19 ni_w1570) ni_muPut <|
  ni_row (ni_aloadn ni_dX19_refuse_16 rfl) ni_muLd <|
  ni_row (ni_get (T := TX19) ni_dX19_refuse_17 (by decide) rfl (by decide) ni_uX19 ni_w1570) ni_muGet <|
  ni_row (ni_okP (ni_if_le ni_dX19_refuse_20 (by decide))) (ni_muP ni_eqIf) <|
  ni_row (ni_okP (ni_iconst ni_dX19_refuse_23 (by decide +kernel))) (ni_muP (ni_eqPush fun _ => rfl)) <|
  ni_row (ni_okP (ni_goto ni_dX19_refuse_24 (by decide))) (ni_muP ni_eqGo) <|
  ni_row (ni_okP (ni_iconst ni_dX19_refuse_27 (by decide +kernel))) (ni_muP (ni_eqPush fun _ => rfl)) <|
  ni_row (ni_ret ni_dX19_refuse_28) ni_muR <|
  ni_row0
def ni_pr152 : List (Nat × ni_S) := [(0, ni_sLd 3 0 1),
  (1, ni_sLd 0 1 2),
  (2, ni_sV 133 1 18 5),
  (5, ni_sP (ni_gIf (fun x => decide (x = 0)) 12 8)),
  (8, ni_sP (ni_gPush (.int 0) 9)),
  (9, ni_sP (ni_gGo 20)),
  (20, ni_sR (some .int))]
theorem ni_pk152 : ∀ r ∈ ni_pr152, ni_Ok xs yX19_route cX19_route 2 (some .int) [] r.1 r.2 ∧ ni_MU r.2 := ni_row (ni_aloadn ni_dX19_route_0 rfl) ni_muLd <|
  ni_row (ni_iloadn ni_dX19_route_1 rfl) ni_muLd <|
  ni_row (ni_virt (y := 133) (T := TX19) ni_dX19_route_2 (by decide) rfl rfl ni_w1963 ni_w1965 ni_w43 ni_w71 ni_w1966 ⟨by decide +kernel, by decide +kernel, by decide +kernel⟩ (by decide) rfl) (ni_muV (by decide)) <|
  ni_row (ni_okP (ni_if_eq ni_dX19_route_5 (by decide))) (ni_muP ni_eqIf) <|
  ni_row (ni_okP (ni_iconst ni_dX19_route_8 (by decide +kernel))) (ni_muP (ni_eqPush fun _ => rfl)) <|
  ni_row (ni_okP (ni_goto ni_dX19_route_9 (by decide))) (ni_muP ni_eqGo) <|
  ni_row (ni_ret ni_dX19_route_20) ni_muR <|
  ni_row0
def ni_pr153 : List (Nat × ni_S) := [(0, ni_sLd 3 0 1),
  (1, ni_sLd 3 0 2),
  (2, ni_sGet 18 0 5),
  (5, ni_sGet 14 1 8),
  (8, ni_sV 149 1 18 11),
  (11, ni_sR (some .int))]
theorem ni_pk153 : ∀ r ∈ ni_pr153, ni_Ok xs yX19_routers cX19_routers 1 (some .int) [] r.1 r.2 ∧ ni_MU r.2 := ni_row (ni_aloadn ni_dX19_routers_0 rfl) ni_muLd <|
  ni_row (ni_aloadn ni_dX19_routers_1 rfl) ni_muLd <|
  ni_row (ni_get (T := TX19) ni_dX19_routers_2 (by decide) rfl (by decide) ni_uX19 ni_w1569) ni_muGet <|
  ni_row (ni_get (T := TX15) ni_dX19_routers_5 (by decide) rfl (by decide) ni_uX15 ni_w1476) ni_muGet <|
  ni_row (ni_virt (y := 149) (T := TX19) ni_dX19_routers_8 (by decide) rfl rfl ni_w2119 ni_w2121 ni_w55 ni_w71 ni_w2122 ⟨by decide +kernel, by decide +kernel, by decide +kernel⟩ (by decide) rfl) (ni_muV (by decide)) <|
  ni_row (ni_ret ni_dX19_routers_11) ni_muR <|
  ni_row0
def ni_pr154 : List (Nat × ni_S) := [(0, ni_sLd 3 0 1),
  (1, ni_sLd 0 1 2),
  (2, ni_sV 133 1 18 5),
  (5, ni_sP (ni_gIf (fun x => decide (¬ x = 0)) 93 8)),
  (93, ni_sP (ni_gPush (.int 0) 94)),
  (94, ni_sR (some .int))]
theorem ni_pk154 : ∀ r ∈ ni_pr154, ni_Ok xs yX19_schedule cX19_schedule 6 (some .int) [] r.1 r.2 ∧ ni_MU r.2 := ni_row (ni_aloadn ni_dX19_schedule_0 rfl) ni_muLd <|
  ni_row (ni_iloadn ni_dX19_schedule_1 rfl) ni_muLd <|
  ni_row (ni_virt (y := 133) (T := TX19) ni_dX19_schedule_2 (by decide) rfl rfl ni_w1963 ni_w1965 ni_w43 ni_w71 ni_w1966 ⟨by decide +kernel, by decide +kernel, by decide +kernel⟩ (by decide) rfl) (ni_muV (by decide)) <|
  ni_row (ni_okP (ni_if_ne ni_dX19_schedule_5 (by decide))) (ni_muP ni_eqIf) <|
  ni_row (ni_okP (ni_iconst ni_dX19_schedule_93 (by decide +kernel))) (ni_muP (ni_eqPush fun _ => rfl)) <|
  ni_row (ni_ret ni_dX19_schedule_94) ni_muR <|
  ni_row0
def ni_pr155 : List (Nat × ni_S) := [(0, ni_sLd 3 0 1),
  (1, ni_sLd 0 1 2),
  (2, ni_sV 134 1 18 5),
  (5, ni_sP (ni_gIf (fun x => decide (x = 0)) 12 8)),
  (8, ni_sP (ni_gPush (.int 0) 9)),
  (9, ni_sP (ni_gGo 21)),
  (21, ni_sR (some .int))]
theorem ni_pk155 : ∀ r ∈ ni_pr155, ni_Ok xs yX19_sending cX19_sending 3 (some .int) [] r.1 r.2 ∧ ni_MU r.2 := ni_row (ni_aloadn ni_dX19_sending_0 rfl) ni_muLd <|
  ni_row (ni_iloadn ni_dX19_sending_1 rfl) ni_muLd <|
  ni_row (ni_virt (y := 134) (T := TX19) ni_dX19_sending_2 (by decide) rfl rfl ni_w1756 ni_w1758 ni_w39 ni_w71 ni_w1759 ⟨by decide +kernel, by decide +kernel, by decide +kernel⟩ (by decide) rfl) (ni_muV (by decide)) <|
  ni_row (ni_okP (ni_if_eq ni_dX19_sending_5 (by decide))) (ni_muP ni_eqIf) <|
  ni_row (ni_okP (ni_iconst ni_dX19_sending_8 (by decide +kernel))) (ni_muP (ni_eqPush fun _ => rfl)) <|
  ni_row (ni_okP (ni_goto ni_dX19_sending_9 (by decide))) (ni_muP ni_eqGo) <|
  ni_row (ni_ret ni_dX19_sending_21) ni_muR <|
  ni_row0
def ni_pr156 : List (Nat × ni_S) := [(0, ni_sLd 3 0 1),
  (1, ni_sLd 0 1 2),
  (2, ni_sV 134 1 18 5),
  (5, ni_sP (ni_gIf (fun x => decide (¬ x = 0)) 31 8)),
  (31, ni_sP (ni_gPush (.int 0) 32)),
  (32, ni_sR (some .int))]
theorem ni_pk156 : ∀ r ∈ ni_pr156, ni_Ok xs yX19_setCost cX19_setCost 4 (some .int) [] r.1 r.2 ∧ ni_MU r.2 := ni_row (ni_aloadn ni_dX19_setCost_0 rfl) ni_muLd <|
  ni_row (ni_iloadn ni_dX19_setCost_1 rfl) ni_muLd <|
  ni_row (ni_virt (y := 134) (T := TX19) ni_dX19_setCost_2 (by decide) rfl rfl ni_w1756 ni_w1758 ni_w39 ni_w71 ni_w1759 ⟨by decide +kernel, by decide +kernel, by decide +kernel⟩ (by decide) rfl) (ni_muV (by decide)) <|
  ni_row (ni_okP (ni_if_ne ni_dX19_setCost_5 (by decide))) (ni_muP ni_eqIf) <|
  ni_row (ni_okP (ni_iconst ni_dX19_setCost_31 (by decide +kernel))) (ni_muP (ni_eqPush fun _ => rfl)) <|
  ni_row (ni_ret ni_dX19_setCost_32) ni_muR <|
  ni_row0
def ni_pr157 : List (Nat × ni_S) := [(0, ni_sLd 3 0 1),
  (1, ni_sLd 0 1 2),
  (2, ni_sV 134 1 18 5),
  (5, ni_sP (ni_gIf (fun x => decide (¬ x = 0)) 43 8)),
  (43, ni_sP (ni_gPush (.int 0) 44)),
  (44, ni_sR (some .int))]
theorem ni_pk157 : ∀ r ∈ ni_pr157, ni_Ok xs yX19_setPort cX19_setPort 7 (some .int) [] r.1 r.2 ∧ ni_MU r.2 := ni_row (ni_aloadn ni_dX19_setPort_0 rfl) ni_muLd <|
  ni_row (ni_iloadn ni_dX19_setPort_1 rfl) ni_muLd <|
  ni_row (ni_virt (y := 134) (T := TX19) ni_dX19_setPort_2 (by decide) rfl rfl ni_w1756 ni_w1758 ni_w39 ni_w71 ni_w1759 ⟨by decide +kernel, by decide +kernel, by decide +kernel⟩ (by decide) rfl) (ni_muV (by decide)) <|
  ni_row (ni_okP (ni_if_ne ni_dX19_setPort_5 (by decide))) (ni_muP ni_eqIf) <|
  ni_row (ni_okP (ni_iconst ni_dX19_setPort_43 (by decide +kernel))) (ni_muP (ni_eqPush fun _ => rfl)) <|
  ni_row (ni_ret ni_dX19_setPort_44) ni_muR <|
  ni_row0
def ni_pr158 : List (Nat × ni_S) := [(0, ni_sLd 3 0 1),
  (1, ni_sLd 0 1 2),
  (2, ni_sV 134 1 18 5),
  (5, ni_sP (ni_gIf (fun x => decide (x = 0)) 10 8)),
  (8, ni_sP (ni_gPush (.int 0) 9)),
  (9, ni_sR (some .boolean))]
theorem ni_pk158 : ∀ r ∈ ni_pr158, ni_Ok xs yX19_setUp cX19_setUp 4 (some .boolean) [] r.1 r.2 ∧ ni_MU r.2 := ni_row (ni_aloadn ni_dX19_setUp_0 rfl) ni_muLd <|
  ni_row (ni_iloadn ni_dX19_setUp_1 rfl) ni_muLd <|
  ni_row (ni_virt (y := 134) (T := TX19) ni_dX19_setUp_2 (by decide) rfl rfl ni_w1756 ni_w1758 ni_w39 ni_w71 ni_w1759 ⟨by decide +kernel, by decide +kernel, by decide +kernel⟩ (by decide) rfl) (ni_muV (by decide)) <|
  ni_row (ni_okP (ni_if_eq ni_dX19_setUp_5 (by decide))) (ni_muP ni_eqIf) <|
  ni_row (ni_okP (ni_iconst ni_dX19_setUp_8 (by decide +kernel))) (ni_muP (ni_eqPush fun _ => rfl)) <|
  ni_row (ni_ret ni_dX19_setUp_9) ni_muR <|
  ni_row0
def ni_pr159 : List (Nat × ni_S) := [(0, ni_sLd 3 0 1),
  (1, ni_sLd 0 1 2),
  (2, ni_sV 134 1 18 5),
  (5, ni_sP (ni_gIf (fun x => decide (¬ x = 0)) 53 8)),
  (53, ni_sP (ni_gPush (.int 0) 54)),
  (54, ni_sR (some .int))]
theorem ni_pk159 : ∀ r ∈ ni_pr159, ni_Ok xs yX19_setWeight cX19_setWeight 6 (some .int) [] r.1 r.2 ∧ ni_MU r.2 := ni_row (ni_aloadn ni_dX19_setWeight_0 rfl) ni_muLd <|
  ni_row (ni_iloadn ni_dX19_setWeight_1 rfl) ni_muLd <|
  ni_row (ni_virt (y := 134) (T := TX19) ni_dX19_setWeight_2 (by decide) rfl rfl ni_w1756 ni_w1758 ni_w39 ni_w71 ni_w1759 ⟨by decide +kernel, by decide +kernel, by decide +kernel⟩ (by decide) rfl) (ni_muV (by decide)) <|
  ni_row (ni_okP (ni_if_ne ni_dX19_setWeight_5 (by decide))) (ni_muP ni_eqIf) <|
  ni_row (ni_okP (ni_iconst ni_dX19_setWeight_53 (by decide +kernel))) (ni_muP (ni_eqPush fun _ => rfl)) <|
  ni_row (ni_ret ni_dX19_setWeight_54) ni_muR <|
  ni_row0
def ni_pr160 : List (Nat × ni_S) := [(0, ni_sLd 3 0 1),
  (1, ni_sLd 0 1 2),
  (2, ni_sP (ni_gPush (.int 1) 3)),
  (3, ni_sP (ni_gPush (.int 60) 5)),
  (5, ni_sC 130 3 8),
  (8, ni_sP (ni_gIf (fun x => decide (¬ x = 0)) 15 11)),
  (11, ni_sP (ni_gPush (.int 1) 12)),
  (12, ni_sP (ni_gGo 16)),
  (15, ni_sP (ni_gPush (.int 0) 16)),
  (16, ni_sP (ni_gPush (.int 1) 17)),
  (17, ni_sV 164 2 18 20),
  (20, ni_sP (ni_gIf (fun x => decide (x = 0)) 25 23)),
  (23, ni_sP (ni_gPush (.int 0) 24)),
  (24, ni_sR (some .int)),
  (25, ni_sLd 3 0 26),
  (26, ni_sGet 18 0 29),
  (29, ni_sV 174 0 14 32),
  (32, ni_sSt 3 2 33),
  (33, ni_sP (ni_gPush (.int 0) 34)),
  (34, ni_sSt 0 3 35),
  (35, ni_sLd 0 3 36),
  (36, ni_sLd 0 1 37),
  (37, ni_sP (ni_gIc (fun x y => decide (y < x)) 59 40)),
  (40, ni_sLd 3 2 41),
  (41, ni_sV 175 0 14 44),
  (44, ni_sP (ni_gIf (fun x => decide (¬ x = 0)) 49 47)),
  (47, ni_sLd 0 3 48),
  (48, ni_sR (some .int))]
theorem ni_pk160 : ∀ r ∈ ni_pr160, ni_Ok xs yX19_settledIn cX19_settledIn 4 (some .int) [] r.1 r.2 ∧ ni_MU r.2 := ni_row (ni_aloadn ni_dX19_settledIn_0 rfl) ni_muLd <|
  ni_row (ni_iloadn ni_dX19_settledIn_1 rfl) ni_muLd <|
  ni_row (ni_okP (ni_iconst ni_dX19_settledIn_2 (by decide +kernel))) (ni_muP (ni_eqPush fun _ => rfl)) <|
  ni_row (ni_okP (ni_bipush ni_dX19_settledIn_3 (by decide +kernel))) (ni_muP (ni_eqPush fun _ => rfl)) <|
  ni_row (ni_stat (y := 130) ni_dX19_settledIn_5 ni_w1604 ni_w1605 ni_w71 ni_w1606 ⟨by decide +kernel, by decide +kernel, by decide +kernel⟩ (by decide) rfl) ni_muC <|
  ni_row (ni_okP (ni_if_ne ni_dX19_settledIn_8 (by decide))) (ni_muP ni_eqIf) <|
  ni_row (ni_okP (ni_iconst ni_dX19_settledIn_11 (by decide +kernel))) (ni_muP (ni_eqPush fun _ => rfl)) <|
  ni_row (ni_okP (ni_goto ni_dX19_settledIn_12 (by decide))) (ni_muP ni_eqGo) <|
  ni_row (ni_okP (ni_iconst ni_dX19_settledIn_15 (by decide +kernel))) (ni_muP (ni_eqPush fun _ => rfl)) <|
  ni_row (ni_okP (ni_iconst ni_dX19_settledIn_16 (by decide +kernel))) (ni_muP (ni_eqPush fun _ => rfl)) <|
  ni_row (ni_virt (y := 164) (T := TX19) ni_dX19_settledIn_17 (by decide) rfl rfl ni_w1584 ni_w1586 ni_w30 ni_w71 ni_w1587 ⟨by decide +kernel, by decide +kernel, by decide +kernel⟩ (by decide) rfl) (ni_muV (by decide)) <|
  ni_row (ni_okP (ni_if_eq ni_dX19_settledIn_20 (by decide))) (ni_muP ni_eqIf) <|
  ni_row (ni_okP (ni_iconst ni_dX19_settledIn_23 (by decide +kernel))) (ni_muP (ni_eqPush fun _ => rfl)) <|
  ni_row (ni_ret ni_dX19_settledIn_24) ni_muR <|
  ni_row (ni_aloadn ni_dX19_settledIn_25 rfl) ni_muLd <|
  ni_row (ni_get (T := TX19) ni_dX19_settledIn_26 (by decide) rfl (by decide) ni_uX19 ni_w1569) ni_muGet <|
  ni_row (ni_virt (y := 174) (T := TX15) ni_dX19_settledIn_29 (by decide) rfl rfl ni_w2305 ni_w2306 ni_w2307 ni_w72 ni_w2308 ⟨by decide +kernel, by decide +kernel, by decide +kernel⟩ (by decide) rfl) (ni_muV (by decide)) <|
  ni_row (ni_astoren ni_dX19_settledIn_32 rfl (by decide)) ni_muSt <|
  ni_row (ni_okP (ni_iconst ni_dX19_settledIn_33 (by decide +kernel))) (ni_muP (ni_eqPush fun _ => rfl)) <|
  ni_row (ni_istoren ni_dX19_settledIn_34 rfl (by decide)) ni_muSt <|
  ni_row (ni_iloadn ni_dX19_settledIn_35 rfl) ni_muLd <|
  ni_row (ni_iloadn ni_dX19_settledIn_36 rfl) ni_muLd <|
  ni_row (ni_okP (ni_ic_gt ni_dX19_settledIn_37 (by decide))) (ni_muP ni_eqIc) <|
  ni_row (ni_aloadn ni_dX19_settledIn_40 rfl) ni_muLd <|
  ni_row (ni_virt (y := 175) (T := TX15) ni_dX19_settledIn_41 (by decide) rfl rfl ni_w2156 ni_w2157 ni_w2158 ni_w72 ni_w2159 ⟨by decide +kernel, by decide +kernel, by decide +kernel⟩ (by decide) rfl) (ni_muV (by decide)) <|
  ni_row (ni_okP (ni_if_ne ni_dX19_settledIn_44 (by decide))) (ni_muP ni_eqIf) <|
  ni_row (ni_iloadn ni_dX19_settledIn_47 rfl) ni_muLd <|
  ni_row (ni_ret ni_dX19_settledIn_48) ni_muR <|
  ni_row0
def ni_pr161 : List (Nat × ni_S) := [(0, ni_sLd 3 0 1),
  (1, ni_sLd 0 1 2),
  (2, ni_sV 133 1 18 5),
  (5, ni_sP (ni_gIf (fun x => decide (¬ x = 0)) 59 8)),
  (59, ni_sP (ni_gPush (.int 0) 60)),
  (60, ni_sR (some .int))]
theorem ni_pk161 : ∀ r ∈ ni_pr161, ni_Ok xs yX19_shape cX19_shape 5 (some .int) [] r.1 r.2 ∧ ni_MU r.2 := ni_row (ni_aloadn ni_dX19_shape_0 rfl) ni_muLd <|
  ni_row (ni_iloadn ni_dX19_shape_1 rfl) ni_muLd <|
  ni_row (ni_virt (y := 133) (T := TX19) ni_dX19_shape_2 (by decide) rfl rfl ni_w1963 ni_w1965 ni_w43 ni_w71 ni_w1966 ⟨by decide +kernel, by decide +kernel, by decide +kernel⟩ (by decide) rfl) (ni_muV (by decide)) <|
  ni_row (ni_okP (ni_if_ne ni_dX19_shape_5 (by decide))) (ni_muP ni_eqIf) <|
  ni_row (ni_okP (ni_iconst ni_dX19_shape_59 (by decide +kernel))) (ni_muP (ni_eqPush fun _ => rfl)) <|
  ni_row (ni_ret ni_dX19_shape_60) ni_muR <|
  ni_row0
def ni_pr162 : List (Nat × ni_S) := [(0, ni_sLd 3 0 1),
  (1, ni_sLd 0 1 2),
  (2, ni_sV 133 1 18 5),
  (5, ni_sP (ni_gIf (fun x => decide (x = 0)) 12 8)),
  (8, ni_sP (ni_gPush (.int 0) 9)),
  (9, ni_sP (ni_gGo 32)),
  (32, ni_sR (some .int))]
theorem ni_pk162 : ∀ r ∈ ni_pr162, ni_Ok xs yX19_shaping cX19_shaping 2 (some .int) [] r.1 r.2 ∧ ni_MU r.2 := ni_row (ni_aloadn ni_dX19_shaping_0 rfl) ni_muLd <|
  ni_row (ni_iloadn ni_dX19_shaping_1 rfl) ni_muLd <|
  ni_row (ni_virt (y := 133) (T := TX19) ni_dX19_shaping_2 (by decide) rfl rfl ni_w1963 ni_w1965 ni_w43 ni_w71 ni_w1966 ⟨by decide +kernel, by decide +kernel, by decide +kernel⟩ (by decide) rfl) (ni_muV (by decide)) <|
  ni_row (ni_okP (ni_if_eq ni_dX19_shaping_5 (by decide))) (ni_muP ni_eqIf) <|
  ni_row (ni_okP (ni_iconst ni_dX19_shaping_8 (by decide +kernel))) (ni_muP (ni_eqPush fun _ => rfl)) <|
  ni_row (ni_okP (ni_goto ni_dX19_shaping_9 (by decide))) (ni_muP ni_eqGo) <|
  ni_row (ni_ret ni_dX19_shaping_32) ni_muR <|
  ni_row0
def ni_pr163 : List (Nat × ni_S) := [(0, ni_sLd 3 0 1),
  (1, ni_sLd 0 1 2),
  (2, ni_sLd 0 2 3),
  (3, ni_sV 131 2 18 6),
  (6, ni_sP (ni_gIf (fun x => decide (x = 0)) 11 9)),
  (9, ni_sP (ni_gPush (.int 0) 10)),
  (10, ni_sR (some .int))]
theorem ni_pk163 : ∀ r ∈ ni_pr163, ni_Ok xs yX19_sortOf cX19_sortOf 4 (some .int) [] r.1 r.2 ∧ ni_MU r.2 := ni_row (ni_aloadn ni_dX19_sortOf_0 rfl) ni_muLd <|
  ni_row (ni_iloadn ni_dX19_sortOf_1 rfl) ni_muLd <|
  ni_row (ni_iloadn ni_dX19_sortOf_2 rfl) ni_muLd <|
  ni_row (ni_virt (y := 131) (T := TX19) ni_dX19_sortOf_3 (by decide) rfl rfl ni_w2203 ni_w2205 ni_w56 ni_w71 ni_w2206 ⟨by decide +kernel, by decide +kernel, by decide +kernel⟩ (by decide) rfl) (ni_muV (by decide)) <|
  ni_row (ni_okP (ni_if_eq ni_dX19_sortOf_6 (by decide))) (ni_muP ni_eqIf) <|
  ni_row (ni_okP (ni_iconst ni_dX19_sortOf_9 (by decide +kernel))) (ni_muP (ni_eqPush fun _ => rfl)) <|
  ni_row (ni_ret ni_dX19_sortOf_10) ni_muR <|
  ni_row0
def ni_pr164 : List (Nat × ni_S) := [(0, ni_sLd 3 0 1),
  (1, ni_sP (ni_gPush (.int 0) 2)),
  (2, ni_sPut 18 1 (.int) 5),
  (5, ni_sLd 3 0 6),
  (6, ni_sLd 0 1 7),
  (7, ni_sLd 0 2 8),
  (8, ni_sV 151 2 18 11),
  (11, ni_sR (some .boolean))]
theorem ni_pk164 : ∀ r ∈ ni_pr164, ni_Ok xs yX19_start cX19_start 3 (some .boolean) [] r.1 r.2 ∧ ni_MU r.2 := ni_row (ni_aloadn ni_dX19_start_0 rfl) ni_muLd <|
  ni_row (ni_okP (ni_iconst ni_dX19_start_1 (by decide +kernel))) (ni_muP (ni_eqPush fun _ => rfl)) <|
  ni_row (ni_putA (T := TX19) (ty0 := tyX19) (b := false) (Or.inl rfl) rfl ni_dX19_start_2 (by decide) rfl (by decide) ni_uX19 tyX19_ok nmX19 ni_w1570) ni_muPut <|
  ni_row (ni_aloadn ni_dX19_start_5 rfl) ni_muLd <|
  ni_row (ni_iloadn ni_dX19_start_6 rfl) ni_muLd <|
  ni_row (ni_iloadn ni_dX19_start_7 rfl) ni_muLd <|
  ni_row (ni_virt (y := 151) (T := TX19) ni_dX19_start_8 (by decide) rfl rfl ni_w1588 ni_w1590 ni_w31 ni_w71 ni_w1591 ⟨by decide +kernel, by decide +kernel, by decide +kernel⟩ (by decide) rfl) (ni_muV (by decide)) <|
  ni_row (ni_ret ni_dX19_start_11) ni_muR <|
  ni_row0
def ni_pr165 : List (Nat × ni_S) := [(0, ni_sLd 3 0 1),
  (1, ni_sLd 3 0 2),
  (2, ni_sGet 18 0 5),
  (5, ni_sGet 14 14 8),
  (8, ni_sV 149 1 18 11),
  (11, ni_sR (some .int))]
theorem ni_pk165 : ∀ r ∈ ni_pr165, ni_Ok xs yX19_statics cX19_statics 1 (some .int) [] r.1 r.2 ∧ ni_MU r.2 := ni_row (ni_aloadn ni_dX19_statics_0 rfl) ni_muLd <|
  ni_row (ni_aloadn ni_dX19_statics_1 rfl) ni_muLd <|
  ni_row (ni_get (T := TX19) ni_dX19_statics_2 (by decide) rfl (by decide) ni_uX19 ni_w1569) ni_muGet <|
  ni_row (ni_get (T := TX15) ni_dX19_statics_5 (by decide) rfl (by decide) ni_uX15 ni_w1502) ni_muGet <|
  ni_row (ni_virt (y := 149) (T := TX19) ni_dX19_statics_8 (by decide) rfl rfl ni_w2119 ni_w2121 ni_w55 ni_w71 ni_w2122 ⟨by decide +kernel, by decide +kernel, by decide +kernel⟩ (by decide) rfl) (ni_muV (by decide)) <|
  ni_row (ni_ret ni_dX19_statics_11) ni_muR <|
  ni_row0
def ni_pr166 : List (Nat × ni_S) := [(0, ni_sLd 3 0 1),
  (1, ni_sLd 0 1 2),
  (2, ni_sP (ni_gPush (.int 1) 3)),
  (3, ni_sP (ni_gPush (.int 60) 5)),
  (5, ni_sC 130 3 8),
  (8, ni_sP (ni_gIf (fun x => decide (¬ x = 0)) 15 11)),
  (11, ni_sP (ni_gPush (.int 1) 12)),
  (12, ni_sP (ni_gGo 16)),
  (15, ni_sP (ni_gPush (.int 0) 16)),
  (16, ni_sP (ni_gPush (.int 1) 17)),
  (17, ni_sV 164 2 18 20),
  (20, ni_sP (ni_gIf (fun x => decide (x = 0)) 25 23)),
  (23, ni_sP (ni_gPush (.int 0) 24)),
  (24, ni_sR (some .int)),
  (25, ni_sP (ni_gPush (.int 0) 26)),
  (26, ni_sSt 0 2 27),
  (27, ni_sLd 0 2 28),
  (28, ni_sLd 0 1 29),
  (29, ni_sP (ni_gIc (fun x y => decide (y ≤ x)) 45 32)),
  (32, ni_sLd 3 0 33),
  (33, ni_sGet 18 0 36),
  (36, ni_sV 176 0 14 39),
  (39, ni_sInc 2 (1) 42),
  (42, ni_sP (ni_gGo 27)),
  (45, ni_sLd 3 0 46),
  (46, ni_sGet 18 0 49),
  (49, ni_sGet 14 0 52),
  (52, ni_sR (some .int))]
theorem ni_pk166 : ∀ r ∈ ni_pr166, ni_Ok xs yX19_step cX19_step 3 (some .int) [] r.1 r.2 ∧ ni_MU r.2 := ni_row (ni_aloadn ni_dX19_step_0 rfl) ni_muLd <|
  ni_row (ni_iloadn ni_dX19_step_1 rfl) ni_muLd <|
  ni_row (ni_okP (ni_iconst ni_dX19_step_2 (by decide +kernel))) (ni_muP (ni_eqPush fun _ => rfl)) <|
  ni_row (ni_okP (ni_bipush ni_dX19_step_3 (by decide +kernel))) (ni_muP (ni_eqPush fun _ => rfl)) <|
  ni_row (ni_stat (y := 130) ni_dX19_step_5 ni_w1604 ni_w1605 ni_w71 ni_w1606 ⟨by decide +kernel, by decide +kernel, by decide +kernel⟩ (by decide) rfl) ni_muC <|
  ni_row (ni_okP (ni_if_ne ni_dX19_step_8 (by decide))) (ni_muP ni_eqIf) <|
  ni_row (ni_okP (ni_iconst ni_dX19_step_11 (by decide +kernel))) (ni_muP (ni_eqPush fun _ => rfl)) <|
  ni_row (ni_okP (ni_goto ni_dX19_step_12 (by decide))) (ni_muP ni_eqGo) <|
  ni_row (ni_okP (ni_iconst ni_dX19_step_15 (by decide +kernel))) (ni_muP (ni_eqPush fun _ => rfl)) <|
  ni_row (ni_okP (ni_iconst ni_dX19_step_16 (by decide +kernel))) (ni_muP (ni_eqPush fun _ => rfl)) <|
  ni_row (ni_virt (y := 164) (T := TX19) ni_dX19_step_17 (by decide) rfl rfl ni_w1584 ni_w1586 ni_w30 ni_w71 ni_w1587 ⟨by decide +kernel, by decide +kernel, by decide +kernel⟩ (by decide) rfl) (ni_muV (by decide)) <|
  ni_row (ni_okP (ni_if_eq ni_dX19_step_20 (by decide))) (ni_muP ni_eqIf) <|
  ni_row (ni_okP (ni_iconst ni_dX19_step_23 (by decide +kernel))) (ni_muP (ni_eqPush fun _ => rfl)) <|
  ni_row (ni_ret ni_dX19_step_24) ni_muR <|
  ni_row (ni_okP (ni_iconst ni_dX19_step_25 (by decide +kernel))) (ni_muP (ni_eqPush fun _ => rfl)) <|
  ni_row (ni_istoren ni_dX19_step_26 rfl (by decide)) ni_muSt <|
  ni_row (ni_iloadn ni_dX19_step_27 rfl) ni_muLd <|
  ni_row (ni_iloadn ni_dX19_step_28 rfl) ni_muLd <|
  ni_row (ni_okP (ni_ic_ge ni_dX19_step_29 (by decide))) (ni_muP ni_eqIc) <|
  ni_row (ni_aloadn ni_dX19_step_32 rfl) ni_muLd <|
  ni_row (ni_get (T := TX19) ni_dX19_step_33 (by decide) rfl (by decide) ni_uX19 ni_w1569) ni_muGet <|
  ni_row (ni_virt (y := 176) (T := TX15) ni_dX19_step_36 (by decide) rfl rfl ni_w1976 ni_w1977 ni_w1978 ni_w72 ni_w1979 ⟨by decide +kernel, by decide +kernel, by decide +kernel⟩ (by decide) rfl) (ni_muV (by decide)) <|
  ni_row (ni_iinc (n := 1) ni_dX19_step_39 (by decide)) ni_muInc <|
  ni_row (ni_okP (ni_goto ni_dX19_step_42 (by decide))) (ni_muP ni_eqGo) <|
  ni_row (ni_aloadn ni_dX19_step_45 rfl) ni_muLd <|
  ni_row (ni_get (T := TX19) ni_dX19_step_46 (by decide) rfl (by decide) ni_uX19 ni_w1569) ni_muGet <|
  ni_row (ni_get (T := TX15) ni_dX19_step_49 (by decide) rfl (by decide) ni_uX15 ni_w1474) ni_muGet <|
  ni_row (ni_ret ni_dX19_step_52) ni_muR <|
  ni_row0
def ni_pr167 : List (Nat × ni_S) := [(0, ni_sLd 3 0 1),
  (1, ni_sGet 18 1 4),
  (4, ni_sR (some .int))]
theorem ni_pk167 : ∀ r ∈ ni_pr167, ni_Ok xs yX19_thrown cX19_thrown 1 (some .int) [] r.1 r.2 ∧ ni_MU r.2 := ni_row (ni_aloadn ni_dX19_thrown_0 rfl) ni_muLd <|
  ni_row (ni_get (T := TX19) ni_dX19_thrown_1 (by decide) rfl (by decide) ni_uX19 ni_w1570) ni_muGet <|
  ni_row (ni_ret ni_dX19_thrown_4) ni_muR <|
  ni_row0
def ni_pr168 : List (Nat × ni_S) := [(0, ni_sLd 3 0 1),
  (1, ni_sLd 3 0 2),
  (2, ni_sGet 18 0 5),
  (5, ni_sGet 14 0 8),
  (8, ni_sV 149 1 18 11),
  (11, ni_sR (some .int))]
theorem ni_pk168 : ∀ r ∈ ni_pr168, ni_Ok xs yX19_time cX19_time 1 (some .int) [] r.1 r.2 ∧ ni_MU r.2 := ni_row (ni_aloadn ni_dX19_time_0 rfl) ni_muLd <|
  ni_row (ni_aloadn ni_dX19_time_1 rfl) ni_muLd <|
  ni_row (ni_get (T := TX19) ni_dX19_time_2 (by decide) rfl (by decide) ni_uX19 ni_w1569) ni_muGet <|
  ni_row (ni_get (T := TX15) ni_dX19_time_5 (by decide) rfl (by decide) ni_uX15 ni_w1474) ni_muGet <|
  ni_row (ni_virt (y := 149) (T := TX19) ni_dX19_time_8 (by decide) rfl rfl ni_w2119 ni_w2121 ni_w55 ni_w71 ni_w2122 ⟨by decide +kernel, by decide +kernel, by decide +kernel⟩ (by decide) rfl) (ni_muV (by decide)) <|
  ni_row (ni_ret ni_dX19_time_11) ni_muR <|
  ni_row0
def ni_pr169 : List (Nat × ni_S) := [(0, ni_sLd 3 0 1),
  (1, ni_sLd 0 1 2),
  (2, ni_sV 133 1 18 5),
  (5, ni_sP (ni_gIf (fun x => decide (x = 0)) 12 8)),
  (8, ni_sP (ni_gPush (.int 0) 9)),
  (9, ni_sP (ni_gGo 29)),
  (29, ni_sR (some .int))]
theorem ni_pk169 : ∀ r ∈ ni_pr169, ni_Ok xs yX19_tokens cX19_tokens 2 (some .int) [] r.1 r.2 ∧ ni_MU r.2 := ni_row (ni_aloadn ni_dX19_tokens_0 rfl) ni_muLd <|
  ni_row (ni_iloadn ni_dX19_tokens_1 rfl) ni_muLd <|
  ni_row (ni_virt (y := 133) (T := TX19) ni_dX19_tokens_2 (by decide) rfl rfl ni_w1963 ni_w1965 ni_w43 ni_w71 ni_w1966 ⟨by decide +kernel, by decide +kernel, by decide +kernel⟩ (by decide) rfl) (ni_muV (by decide)) <|
  ni_row (ni_okP (ni_if_eq ni_dX19_tokens_5 (by decide))) (ni_muP ni_eqIf) <|
  ni_row (ni_okP (ni_iconst ni_dX19_tokens_8 (by decide +kernel))) (ni_muP (ni_eqPush fun _ => rfl)) <|
  ni_row (ni_okP (ni_goto ni_dX19_tokens_9 (by decide))) (ni_muP ni_eqGo) <|
  ni_row (ni_ret ni_dX19_tokens_29) ni_muR <|
  ni_row0
def ni_pr170 : List (Nat × ni_S) := [(0, ni_sLd 3 0 1),
  (1, ni_sLd 0 1 2),
  (2, ni_sV 135 1 18 5),
  (5, ni_sP (ni_gIf (fun x => decide (x = 0)) 12 8)),
  (8, ni_sP (ni_gPush (.int 0) 9)),
  (9, ni_sP (ni_gGo 32)),
  (32, ni_sR (some .int))]
theorem ni_pk170 : ∀ r ∈ ni_pr170, ni_Ok xs yX19_trieDepth cX19_trieDepth 2 (some .int) [] r.1 r.2 ∧ ni_MU r.2 := ni_row (ni_aloadn ni_dX19_trieDepth_0 rfl) ni_muLd <|
  ni_row (ni_iloadn ni_dX19_trieDepth_1 rfl) ni_muLd <|
  ni_row (ni_virt (y := 135) (T := TX19) ni_dX19_trieDepth_2 (by decide) rfl rfl ni_w1600 ni_w1602 ni_w33 ni_w71 ni_w1603 ⟨by decide +kernel, by decide +kernel, by decide +kernel⟩ (by decide) rfl) (ni_muV (by decide)) <|
  ni_row (ni_okP (ni_if_eq ni_dX19_trieDepth_5 (by decide))) (ni_muP ni_eqIf) <|
  ni_row (ni_okP (ni_iconst ni_dX19_trieDepth_8 (by decide +kernel))) (ni_muP (ni_eqPush fun _ => rfl)) <|
  ni_row (ni_okP (ni_goto ni_dX19_trieDepth_9 (by decide))) (ni_muP ni_eqGo) <|
  ni_row (ni_ret ni_dX19_trieDepth_32) ni_muR <|
  ni_row0
def ni_pr171 : List (Nat × ni_S) := [(0, ni_sLd 3 0 1),
  (1, ni_sLd 0 1 2),
  (2, ni_sV 135 1 18 5),
  (5, ni_sP (ni_gIf (fun x => decide (x = 0)) 12 8)),
  (8, ni_sP (ni_gPush (.int 0) 9)),
  (9, ni_sP (ni_gGo 32)),
  (32, ni_sR (some .int))]
theorem ni_pk171 : ∀ r ∈ ni_pr171, ni_Ok xs yX19_trieNodes cX19_trieNodes 2 (some .int) [] r.1 r.2 ∧ ni_MU r.2 := ni_row (ni_aloadn ni_dX19_trieNodes_0 rfl) ni_muLd <|
  ni_row (ni_iloadn ni_dX19_trieNodes_1 rfl) ni_muLd <|
  ni_row (ni_virt (y := 135) (T := TX19) ni_dX19_trieNodes_2 (by decide) rfl rfl ni_w1600 ni_w1602 ni_w33 ni_w71 ni_w1603 ⟨by decide +kernel, by decide +kernel, by decide +kernel⟩ (by decide) rfl) (ni_muV (by decide)) <|
  ni_row (ni_okP (ni_if_eq ni_dX19_trieNodes_5 (by decide))) (ni_muP ni_eqIf) <|
  ni_row (ni_okP (ni_iconst ni_dX19_trieNodes_8 (by decide +kernel))) (ni_muP (ni_eqPush fun _ => rfl)) <|
  ni_row (ni_okP (ni_goto ni_dX19_trieNodes_9 (by decide))) (ni_muP ni_eqGo) <|
  ni_row (ni_ret ni_dX19_trieNodes_32) ni_muR <|
  ni_row0
def ni_pr172 : List (Nat × ni_S) := [(0, ni_sLd 3 0 1),
  (1, ni_sLd 0 1 2),
  (2, ni_sV 134 1 18 5),
  (5, ni_sP (ni_gIf (fun x => decide (x = 0)) 12 8)),
  (8, ni_sP (ni_gPush (.int 0) 9)),
  (9, ni_sP (ni_gGo 25)),
  (25, ni_sR (some .int))]
theorem ni_pk172 : ∀ r ∈ ni_pr172, ni_Ok xs yX19_waiting cX19_waiting 3 (some .int) [] r.1 r.2 ∧ ni_MU r.2 := ni_row (ni_aloadn ni_dX19_waiting_0 rfl) ni_muLd <|
  ni_row (ni_iloadn ni_dX19_waiting_1 rfl) ni_muLd <|
  ni_row (ni_virt (y := 134) (T := TX19) ni_dX19_waiting_2 (by decide) rfl rfl ni_w1756 ni_w1758 ni_w39 ni_w71 ni_w1759 ⟨by decide +kernel, by decide +kernel, by decide +kernel⟩ (by decide) rfl) (ni_muV (by decide)) <|
  ni_row (ni_okP (ni_if_eq ni_dX19_waiting_5 (by decide))) (ni_muP ni_eqIf) <|
  ni_row (ni_okP (ni_iconst ni_dX19_waiting_8 (by decide +kernel))) (ni_muP (ni_eqPush fun _ => rfl)) <|
  ni_row (ni_okP (ni_goto ni_dX19_waiting_9 (by decide))) (ni_muP ni_eqGo) <|
  ni_row (ni_ret ni_dX19_waiting_25) ni_muR <|
  ni_row0
def ni_pr173 : List (Nat × ni_S) := [(0, ni_sLd 3 0 1),
  (1, ni_sP (ni_gObj 4)),
  (4, ni_sLd 3 0 5),
  (5, ni_sP (ni_gPush (.int 14) 7)),
  (7, ni_sNewa 0 .int 9),
  (9, ni_sPut 14 3 (.array (.int)) 12),
  (12, ni_sLd 3 0 13),
  (13, ni_sP (ni_gPush (.int 14) 15)),
  (15, ni_sNewa 0 .int 17),
  (17, ni_sPut 14 4 (.array (.int)) 20),
  (20, ni_sLd 3 0 21),
  (21, ni_sP (ni_gPush (.int 14) 23)),
  (23, ni_sNewa 0 .int 25),
  (25, ni_sPut 14 5 (.array (.int)) 28),
  (28, ni_sLd 3 0 29),
  (29, ni_sP (ni_gPush (.int 14) 31)),
  (31, ni_sNewa 0 .int 33),
  (33, ni_sPut 14 6 (.array (.int)) 36),
  (36, ni_sLd 3 0 37),
  (37, ni_sP (ni_gPush (.int 14) 39)),
  (39, ni_sNewa 0 .int 41),
  (41, ni_sPut 14 7 (.array (.int)) 44),
  (44, ni_sLd 3 0 45),
  (45, ni_sP (ni_gPush (.int 14) 47)),
  (47, ni_sNewa 3 .boolean 49),
  (49, ni_sPut 14 8 (.array (.boolean)) 52),
  (52, ni_sLd 3 0 53),
  (53, ni_sP (ni_gPush (.int 28) 55)),
  (55, ni_sANew 8 58),
  (58, ni_sPut 14 9 (.array (.object "SwitchyardModel$Port")) 61),
  (61, ni_sLd 3 0 62),
  (62, ni_sP (ni_gPush (.int 24) 64)),
  (64, ni_sNewa 0 .int 66),
  (66, ni_sPut 14 11 (.array (.int)) 69),
  (69, ni_sLd 3 0 70),
  (70, ni_sP (ni_gPush (.int 24) 72)),
  (72, ni_sNewa 0 .int 74),
  (74, ni_sPut 14 12 (.array (.int)) 77),
  (77, ni_sLd 3 0 78),
  (78, ni_sP (ni_gPush (.int 24) 80)),
  (80, ni_sNewa 0 .int 82),
  (82, ni_sPut 14 13 (.array (.int)) 85),
  (85, ni_sLd 3 0 86),
  (86, ni_sP (ni_gPush (.int 24) 88)),
  (88, ni_sNewa 0 .int 90),
  (90, ni_sPut 14 15 (.array (.int)) 93),
  (93, ni_sLd 3 0 94),
  (94, ni_sP (ni_gPush (.int 24) 96)),
  (96, ni_sNewa 0 .int 98),
  (98, ni_sPut 14 16 (.array (.int)) 101),
  (101, ni_sLd 3 0 102),
  (102, ni_sP (ni_gPush (.int 24) 104)),
  (104, ni_sNewa 0 .int 106),
  (106, ni_sPut 14 17 (.array (.int)) 109),
  (109, ni_sLd 3 0 110),
  (110, ni_sP (ni_gPush (.int 24) 112)),
  (112, ni_sNewa 0 .int 114),
  (114, ni_sPut 14 18 (.array (.int)) 117),
  (117, ni_sLd 3 0 118),
  (118, ni_sNew 0 [.int 0, .null, .int 0] 121),
  (121, ni_sP (ni_gDup 122)),
  (122, ni_sI 179 0 125),
  (125, ni_sPut 14 19 (.object "java/util/ArrayList") 128),
  (128, ni_sLd 3 0 129),
  (129, ni_sP (ni_gPush (.int 64) 131)),
  (131, ni_sANew 9 134),
  (134, ni_sPut 14 20 (.array (.object "SwitchyardModel$Letter")) 137),
  (137, ni_sLd 3 0 138),
  (138, ni_sP (ni_gPush (.int 64) 140)),
  (140, ni_sNewa 0 .int 142),
  (142, ni_sPut 14 21 (.array (.int)) 145),
  (145, ni_sLd 3 0 146),
  (146, ni_sP (ni_gPush (.int 64) 148)),
  (148, ni_sANew 11 151),
  (151, ni_sPut 14 22 (.array (.array (.int))) 154),
  (154, ni_sLd 3 0 155),
  (155, ni_sNew 0 [.int 0, .null, .int 0] 158),
  (158, ni_sP (ni_gDup 159)),
  (159, ni_sI 179 0 162),
  (162, ni_sPut 14 23 (.object "java/util/ArrayList") 165),
  (165, ni_sP (ni_gPush (.int 0) 166)),
  (166, ni_sSt 0 1 167),
  (167, ni_sLd 0 1 168),
  (168, ni_sP (ni_gPush (.int 64) 170)),
  (170, ni_sP (ni_gIc (fun x y => decide (y ≤ x)) 210 173)),
  (173, ni_sLd 3 0 174),
  (174, ni_sGet 14 21 177),
  (177, ni_sLd 0 1 178),
  (178, ni_sLd 0 1 179),
  (179, ni_sP (ni_gPush (.int 8) 181)),
  (181, ni_sP (ni_gI0 (fun x y => x / y) 182)),
  (182, ni_sLd 0 1 183),
  (183, ni_sP (ni_gPush (.int 8) 185)),
  (185, ni_sP (ni_gI0 (fun x y => x - x / y * y) 186)),
  (186, ni_sP (ni_gIc (fun x y => decide (¬ x = y)) 193 189)),
  (189, ni_sP (ni_gPush (.int 0) 190)),
  (190, ni_sP (ni_gGo 194)),
  (193, ni_sP (ni_gPush (.int (-1)) 194)),
  (194, ni_sAst .int 0 195),
  (195, ni_sLd 3 0 196),
  (196, ni_sGet 14 22 199),
  (199, ni_sLd 0 1 200),
  (200, ni_sP (ni_gPush (.int 0) 201)),
  (201, ni_sNewa 0 .int 203),
  (203, ni_sQsA 204),
  (204, ni_sInc 1 (1) 207),
  (207, ni_sP (ni_gGo 167)),
  (210, ni_sP (ni_gPush (.int 0) 211)),
  (211, ni_sSt 0 1 212),
  (212, ni_sLd 0 1 213),
  (213, ni_sP (ni_gPush (.int 8) 215)),
  (215, ni_sP (ni_gIc (fun x y => decide (y ≤ x)) 239 218)),
  (218, ni_sLd 3 0 219),
  (219, ni_sGet 14 23 222),
  (222, ni_sNew 0 [.int 0, .null, .int 0] 225),
  (225, ni_sP (ni_gDup 226)),
  (226, ni_sI 179 0 229),
  (229, ni_sV 180 1 0 232),
  (232, ni_sP (ni_gPop 233)),
  (233, ni_sInc 1 (1) 236),
  (236, ni_sP (ni_gGo 212)),
  (239, ni_sR (none))]
theorem ni_pk173 : ∀ r ∈ ni_pr173, ni_Ok xs yX15_init cX15_init 2 (none) [] r.1 r.2 ∧ ni_MU r.2 := ni_row (ni_aloadn ni_dX15_init_0 rfl) ni_muLd <|
  ni_row (ni_okP (ni_objInit ni_dX15_init_1 ni_w1376 ni_w103 ni_w104)) (ni_muP ni_eqObj) <|
  ni_row (ni_aloadn ni_dX15_init_4 rfl) ni_muLd <|
  ni_row (ni_okP (ni_bipush ni_dX15_init_5 (by decide +kernel))) (ni_muP (ni_eqPush fun _ => rfl)) <|
  ni_row (ni_newa ni_dX15_init_7 rfl rfl (by decide) ni_w143) ni_muNewa <|
  ni_row (ni_putA (T := TX15) (ty0 := tyX15) (b := true) (Or.inr ⟨rfl, rfl, rfl⟩) rfl ni_dX15_init_9 (by decide) rfl (by decide) ni_uX15 tyX15_ok nmX15 ni_w1479) ni_muPut <|
  ni_row (ni_aloadn ni_dX15_init_12 rfl) ni_muLd <|
  ni_row (ni_okP (ni_bipush ni_dX15_init_13 (by decide +kernel))) (ni_muP (ni_eqPush fun _ => rfl)) <|
  ni_row (ni_newa ni_dX15_init_15 rfl rfl (by decide) ni_w143) ni_muNewa <|
  ni_row (ni_putA (T := TX15) (ty0 := tyX15) (b := true) (Or.inr ⟨rfl, rfl, rfl⟩) rfl ni_dX15_init_17 (by decide) rfl (by decide) ni_uX15 tyX15_ok nmX15 ni_w1481) ni_muPut <|
  ni_row (ni_aloadn ni_dX15_init_20 rfl) ni_muLd <|
  ni_row (ni_okP (ni_bipush ni_dX15_init_21 (by decide +kernel))) (ni_muP (ni_eqPush fun _ => rfl)) <|
  ni_row (ni_newa ni_dX15_init_23 rfl rfl (by decide) ni_w143) ni_muNewa <|
  ni_row (ni_putA (T := TX15) (ty0 := tyX15) (b := true) (Or.inr ⟨rfl, rfl, rfl⟩) rfl ni_dX15_init_25 (by decide) rfl (by decide) ni_uX15 tyX15_ok nmX15 ni_w1483) ni_muPut <|
  ni_row (ni_aloadn ni_dX15_init_28 rfl) ni_muLd <|
  ni_row (ni_okP (ni_bipush ni_dX15_init_29 (by decide +kernel))) (ni_muP (ni_eqPush fun _ => rfl)) <|
  ni_row (ni_newa ni_dX15_init_31 rfl rfl (by decide) ni_w143) ni_muNewa <|
  ni_row (ni_putA (T := TX15) (ty0 := tyX15) (b := true) (Or.inr ⟨rfl, rfl, rfl⟩) rfl ni_dX15_init_33 (by decide) rfl (by decide) ni_uX15 tyX15_ok nmX15 ni_w1485) ni_muPut <|
  ni_row (ni_aloadn ni_dX15_init_36 rfl) ni_muLd <|
  ni_row (ni_okP (ni_bipush ni_dX15_init_37 (by decide +kernel))) (ni_muP (ni_eqPush fun _ => rfl)) <|
  ni_row (ni_newa ni_dX15_init_39 rfl rfl (by decide) ni_w143) ni_muNewa <|
  ni_row (ni_putA (T := TX15) (ty0 := tyX15) (b := true) (Or.inr ⟨rfl, rfl, rfl⟩) rfl ni_dX15_init_41 (by decide) rfl (by decide) ni_uX15 tyX15_ok nmX15 ni_w1487) ni_muPut <|
  ni_row (ni_aloadn ni_dX15_init_44 rfl) ni_muLd <|
  ni_row (ni_okP (ni_bipush ni_dX15_init_45 (by decide +kernel))) (ni_muP (ni_eqPush fun _ => rfl)) <|
  ni_row (ni_newa ni_dX15_init_47 rfl rfl (by decide) ni_w1405) ni_muNewa <|
  ni_row (ni_putA (T := TX15) (ty0 := tyX15) (b := true) (Or.inr ⟨rfl, rfl, rfl⟩) rfl ni_dX15_init_49 (by decide) rfl (by decide) ni_uX15 tyX15_ok nmX15 ni_w1489) ni_muPut <|
  ni_row (ni_aloadn ni_dX15_init_52 rfl) ni_muLd <|
  ni_row (ni_okP (ni_bipush ni_dX15_init_53 (by decide +kernel))) (ni_muP (ni_eqPush fun _ => rfl)) <|
  ni_row (ni_anew ni_dX15_init_55 rfl ni_w1377 (by decide)) ni_muANew <|
  ni_row (ni_putA (T := TX15) (ty0 := tyX15) (b := true) (Or.inr ⟨rfl, rfl, rfl⟩) rfl ni_dX15_init_58 (by decide) rfl (by decide) ni_uX15 tyX15_ok nmX15 ni_w1491) ni_muPut <|
  ni_row (ni_aloadn ni_dX15_init_61 rfl) ni_muLd <|
  ni_row (ni_okP (ni_bipush ni_dX15_init_62 (by decide +kernel))) (ni_muP (ni_eqPush fun _ => rfl)) <|
  ni_row (ni_newa ni_dX15_init_64 rfl rfl (by decide) ni_w143) ni_muNewa <|
  ni_row (ni_putA (T := TX15) (ty0 := tyX15) (b := true) (Or.inr ⟨rfl, rfl, rfl⟩) rfl ni_dX15_init_66 (by decide) rfl (by decide) ni_uX15 tyX15_ok nmX15 ni_w1495) ni_muPut <|
  ni_row (ni_aloadn ni_dX15_init_69 rfl) ni_muLd <|
  ni_row (ni_okP (ni_bipush ni_dX15_init_70 (by decide +kernel))) (ni_muP (ni_eqPush fun _ => rfl)) <|
  ni_row (ni_newa ni_dX15_init_72 rfl rfl (by decide) ni_w143) ni_muNewa <|
  ni_row (ni_putA (T := TX15) (ty0 := tyX15) (b := true) (Or.inr ⟨rfl, rfl, rfl⟩) rfl ni_dX15_init_74 (by decide) rfl (by decide) ni_uX15 tyX15_ok nmX15 ni_w1497) ni_muPut <|
  ni_row (ni_aloadn ni_dX15_init_77 rfl) ni_muLd <|
  ni_row (ni_okP (ni_bipush ni_dX15_init_78 (by decide +kernel))) (ni_muP (ni_eqPush fun _ => rfl)) <|
  ni_row (ni_newa ni_dX15_init_80 rfl rfl (by decide) ni_w143) ni_muNewa <|
  ni_row (ni_putA (T := TX15) (ty0 := tyX15) (b := true) (Or.inr ⟨rfl, rfl, rfl⟩) rfl ni_dX15_init_82 (by decide) rfl (by decide) ni_uX15 tyX15_ok nmX15 ni_w1499) ni_muPut <|
  ni_row (ni_aloadn ni_dX15_init_85 rfl) ni_muLd <|
  ni_row (ni_okP (ni_bipush ni_dX15_init_86 (by decide +kernel))) (ni_muP (ni_eqPush fun _ => rfl)) <|
  ni_row (ni_newa ni_dX15_init_88 rfl rfl (by decide) ni_w143) ni_muNewa <|
  ni_row (ni_putA (T := TX15) (ty0 := tyX15) (b := true) (Or.inr ⟨rfl, rfl, rfl⟩) rfl ni_dX15_init_90 (by decide) rfl (by decide) ni_uX15 tyX15_ok nmX15 ni_w1503) ni_muPut <|
  ni_row (ni_aloadn ni_dX15_init_93 rfl) ni_muLd <|
  ni_row (ni_okP (ni_bipush ni_dX15_init_94 (by decide +kernel))) (ni_muP (ni_eqPush fun _ => rfl)) <|
  ni_row (ni_newa ni_dX15_init_96 rfl rfl (by decide) ni_w143) ni_muNewa <|
  ni_row (ni_putA (T := TX15) (ty0 := tyX15) (b := true) (Or.inr ⟨rfl, rfl, rfl⟩) rfl ni_dX15_init_98 (by decide) rfl (by decide) ni_uX15 tyX15_ok nmX15 ni_w1505) ni_muPut <|
  ni_row (ni_aloadn ni_dX15_init_101 rfl) ni_muLd <|
  ni_row (ni_okP (ni_bipush ni_dX15_init_102 (by decide +kernel))) (ni_muP (ni_eqPush fun _ => rfl)) <|
  ni_row (ni_newa ni_dX15_init_104 rfl rfl (by decide) ni_w143) ni_muNewa <|
  ni_row (ni_putA (T := TX15) (ty0 := tyX15) (b := true) (Or.inr ⟨rfl, rfl, rfl⟩) rfl ni_dX15_init_106 (by decide) rfl (by decide) ni_uX15 tyX15_ok nmX15 ni_w1507) ni_muPut <|
  ni_row (ni_aloadn ni_dX15_init_109 rfl) ni_muLd <|
  ni_row (ni_okP (ni_bipush ni_dX15_init_110 (by decide +kernel))) (ni_muP (ni_eqPush fun _ => rfl)) <|
  ni_row (ni_newa ni_dX15_init_112 rfl rfl (by decide) ni_w143) ni_muNewa <|
  ni_row (ni_putA (T := TX15) (ty0 := tyX15) (b := true) (Or.inr ⟨rfl, rfl, rfl⟩) rfl ni_dX15_init_114 (by decide) rfl (by decide) ni_uX15 tyX15_ok nmX15 ni_w1509) ni_muPut <|
  ni_row (ni_aloadn ni_dX15_init_117 rfl) ni_muLd <|
  ni_row (ni_new (T := TJx4a65c) (ty0 := tyJx4a65c) ni_dX15_init_118 (by decide) rfl ni_uJx4a65c tyJx4a65c_ok rfl (by decide +kernel) ni_w1379 ni_w1380 ni_w75) (ni_muNew fun _ => rfl) <|
  ni_row (ni_okP (ni_dup ni_dX15_init_121)) (ni_muP ni_eqDup) <|
  ni_row (ni_init (y := 179) ni_dX15_init_122 rfl rfl ni_w1381 ni_w1382 ni_w75 ni_w1383 ⟨by decide +kernel, by decide +kernel, by decide +kernel⟩ (by decide) rfl) ni_muI <|
  ni_row (ni_putA (T := TX15) (ty0 := tyX15) (b := true) (Or.inr ⟨rfl, rfl, rfl⟩) rfl ni_dX15_init_125 (by decide) rfl (by decide) ni_uX15 tyX15_ok nmX15 ni_w1511) ni_muPut <|
  ni_row (ni_aloadn ni_dX15_init_128 rfl) ni_muLd <|
  ni_row (ni_okP (ni_bipush ni_dX15_init_129 (by decide +kernel))) (ni_muP (ni_eqPush fun _ => rfl)) <|
  ni_row (ni_anew ni_dX15_init_131 rfl ni_w1406 (by decide)) ni_muANew <|
  ni_row (ni_putA (T := TX15) (ty0 := tyX15) (b := true) (Or.inr ⟨rfl, rfl, rfl⟩) rfl ni_dX15_init_134 (by decide) rfl (by decide) ni_uX15 tyX15_ok nmX15 ni_w1513) ni_muPut <|
  ni_row (ni_aloadn ni_dX15_init_137 rfl) ni_muLd <|
  ni_row (ni_okP (ni_bipush ni_dX15_init_138 (by decide +kernel))) (ni_muP (ni_eqPush fun _ => rfl)) <|
  ni_row (ni_newa ni_dX15_init_140 rfl rfl (by decide) ni_w143) ni_muNewa <|
  ni_row (ni_putA (T := TX15) (ty0 := tyX15) (b := true) (Or.inr ⟨rfl, rfl, rfl⟩) rfl ni_dX15_init_142 (by decide) rfl (by decide) ni_uX15 tyX15_ok nmX15 ni_w1514) ni_muPut <|
  ni_row (ni_aloadn ni_dX15_init_145 rfl) ni_muLd <|
  ni_row (ni_okP (ni_bipush ni_dX15_init_146 (by decide +kernel))) (ni_muP (ni_eqPush fun _ => rfl)) <|
  ni_row (ni_anewA (t := .int) (by decide +kernel) ni_dX15_init_148 rfl ni_w1408 (by decide)) ni_muANew <|
  ni_row (ni_putA (T := TX15) (ty0 := tyX15) (b := true) (Or.inr ⟨rfl, rfl, rfl⟩) rfl ni_dX15_init_151 (by decide) rfl (by decide) ni_uX15 tyX15_ok nmX15 ni_w1516) ni_muPut <|
  ni_row (ni_aloadn ni_dX15_init_154 rfl) ni_muLd <|
  ni_row (ni_new (T := TJx4a65c) (ty0 := tyJx4a65c) ni_dX15_init_155 (by decide) rfl ni_uJx4a65c tyJx4a65c_ok rfl (by decide +kernel) ni_w1379 ni_w1380 ni_w75) (ni_muNew fun _ => rfl) <|
  ni_row (ni_okP (ni_dup ni_dX15_init_158)) (ni_muP ni_eqDup) <|
  ni_row (ni_init (y := 179) ni_dX15_init_159 rfl rfl ni_w1381 ni_w1382 ni_w75 ni_w1383 ⟨by decide +kernel, by decide +kernel, by decide +kernel⟩ (by decide) rfl) ni_muI <|
  ni_row (ni_putA (T := TX15) (ty0 := tyX15) (b := true) (Or.inr ⟨rfl, rfl, rfl⟩) rfl ni_dX15_init_162 (by decide) rfl (by decide) ni_uX15 tyX15_ok nmX15 ni_w1518) ni_muPut <|
  ni_row (ni_okP (ni_iconst ni_dX15_init_165 (by decide +kernel))) (ni_muP (ni_eqPush fun _ => rfl)) <|
  ni_row (ni_istoren ni_dX15_init_166 rfl (by decide)) ni_muSt <|
  ni_row (ni_iloadn ni_dX15_init_167 rfl) ni_muLd <|
  ni_row (ni_okP (ni_bipush ni_dX15_init_168 (by decide +kernel))) (ni_muP (ni_eqPush fun _ => rfl)) <|
  ni_row (ni_okP (ni_ic_ge ni_dX15_init_170 (by decide))) (ni_muP ni_eqIc) <|
  ni_row (ni_aloadn ni_dX15_init_173 rfl) ni_muLd <|
  ni_row (ni_get (T := TX15) ni_dX15_init_174 (by decide) rfl (by decide) ni_uX15 ni_w1514) ni_muGet <|
  ni_row (ni_iloadn ni_dX15_init_177 rfl) ni_muLd <|
  ni_row (ni_iloadn ni_dX15_init_178 rfl) ni_muLd <|
  ni_row (ni_okP (ni_bipush ni_dX15_init_179 (by decide +kernel))) (ni_muP (ni_eqPush fun _ => rfl)) <|
  ni_row (ni_okP (ni_idiv ni_dX15_init_181)) (ni_muP ni_eqI0) <|
  ni_row (ni_iloadn ni_dX15_init_182 rfl) ni_muLd <|
  ni_row (ni_okP (ni_bipush ni_dX15_init_183 (by decide +kernel))) (ni_muP (ni_eqPush fun _ => rfl)) <|
  ni_row (ni_okP (ni_irem ni_dX15_init_185)) (ni_muP ni_eqI0) <|
  ni_row (ni_okP (ni_ic_ne ni_dX15_init_186 (by decide))) (ni_muP ni_eqIc) <|
  ni_row (ni_okP (ni_iconst ni_dX15_init_189 (by decide +kernel))) (ni_muP (ni_eqPush fun _ => rfl)) <|
  ni_row (ni_okP (ni_goto ni_dX15_init_190 (by decide))) (ni_muP ni_eqGo) <|
  ni_row (ni_okP (ni_iconst ni_dX15_init_193 (by decide +kernel))) (ni_muP (ni_eqPush fun _ => rfl)) <|
  ni_row (ni_iast ni_dX15_init_194) ni_muAst <|
  ni_row (ni_aloadn ni_dX15_init_195 rfl) ni_muLd <|
  ni_row (ni_get (T := TX15) ni_dX15_init_196 (by decide) rfl (by decide) ni_uX15 ni_w1516) ni_muGet <|
  ni_row (ni_iloadn ni_dX15_init_199 rfl) ni_muLd <|
  ni_row (ni_okP (ni_iconst ni_dX15_init_200 (by decide +kernel))) (ni_muP (ni_eqPush fun _ => rfl)) <|
  ni_row (ni_newa ni_dX15_init_201 rfl rfl (by decide) ni_w143) ni_muNewa <|
  ni_row (ni_aastA ni_dX15_init_203) ni_muQsA <|
  ni_row (ni_iinc (n := 1) ni_dX15_init_204 (by decide)) ni_muInc <|
  ni_row (ni_okP (ni_goto ni_dX15_init_207 (by decide))) (ni_muP ni_eqGo) <|
  ni_row (ni_okP (ni_iconst ni_dX15_init_210 (by decide +kernel))) (ni_muP (ni_eqPush fun _ => rfl)) <|
  ni_row (ni_istoren ni_dX15_init_211 rfl (by decide)) ni_muSt <|
  ni_row (ni_iloadn ni_dX15_init_212 rfl) ni_muLd <|
  ni_row (ni_okP (ni_bipush ni_dX15_init_213 (by decide +kernel))) (ni_muP (ni_eqPush fun _ => rfl)) <|
  ni_row (ni_okP (ni_ic_ge ni_dX15_init_215 (by decide))) (ni_muP ni_eqIc) <|
  ni_row (ni_aloadn ni_dX15_init_218 rfl) ni_muLd <|
  ni_row (ni_get (T := TX15) ni_dX15_init_219 (by decide) rfl (by decide) ni_uX15 ni_w1518) ni_muGet <|
  ni_row (ni_new (T := TJx4a65c) (ty0 := tyJx4a65c) ni_dX15_init_222 (by decide) rfl ni_uJx4a65c tyJx4a65c_ok rfl (by decide +kernel) ni_w1379 ni_w1380 ni_w75) (ni_muNew fun _ => rfl) <|
  ni_row (ni_okP (ni_dup ni_dX15_init_225)) (ni_muP ni_eqDup) <|
  ni_row (ni_init (y := 179) ni_dX15_init_226 rfl rfl ni_w1381 ni_w1382 ni_w75 ni_w1383 ⟨by decide +kernel, by decide +kernel, by decide +kernel⟩ (by decide) rfl) ni_muI <|
  ni_row (ni_virt (y := 180) (T := TJx4a65c) ni_dX15_init_229 (by decide) rfl rfl ni_w1410 ni_w1411 ni_w1412 ni_w75 ni_w1413 ⟨by decide +kernel, by decide +kernel, by decide +kernel⟩ (by decide) rfl) (ni_muV (by decide)) <|
  ni_row (ni_okP (ni_pop ni_dX15_init_232)) (ni_muP ni_eqPop) <|
  ni_row (ni_iinc (n := 1) ni_dX15_init_233 (by decide)) ni_muInc <|
  ni_row (ni_okP (ni_goto ni_dX15_init_236 (by decide))) (ni_muP ni_eqGo) <|
  ni_row (ni_ret ni_dX15_init_239) ni_muR <|
  ni_row0
end NIP
