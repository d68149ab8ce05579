section NIP
variable {xs : List Int32}
def ni_pr87 : List (Nat × ni_S) := [(0, ni_sLd 3 3 1),
  (1, ni_sP (ni_gPush (.int 0) 2)),
  (2, ni_sLd 3 0 3),
  (3, ni_sLd 0 1 4),
  (4, ni_sLd 0 2 5),
  (5, ni_sVX 29 2 10 "java/lang/IndexOutOfBoundsException" 15 4 8),
  (15, ni_sP (ni_gPush (.int 1) 16)),
  (16, ni_sR (some .int))]
theorem ni_pk87 : ∀ r ∈ ni_pr87, ni_Ok xs yL_looks cL_looks 5 (some .int) [(0, 10, 13, 19), (0, 10, 17, 21)] r.1 r.2 ∧ ni_MU r.2 := ni_row (ni_aloadn ni_dL_looks_0 rfl) ni_muLd <|
  ni_row (ni_okP (ni_iconst ni_dL_looks_1 (by decide +kernel))) (ni_muP (ni_eqPush fun _ => rfl)) <|
  ni_row (ni_aloadn ni_dL_looks_2 rfl) ni_muLd <|
  ni_row (ni_iloadn ni_dL_looks_3 rfl) ni_muLd <|
  ni_row (ni_iloadn ni_dL_looks_4 rfl) ni_muLd <|
  ni_row (ni_virtX (j := 0) (y := 29) (T := TX11) ni_dL_looks_5 (by decide) rfl rfl ni_w1182 ni_w1183 ni_w1184 ni_w61 ni_w1185 ⟨by decide +kernel, by decide +kernel, by decide +kernel⟩ (by decide) rfl (by decide) (by decide) ni_w706 (by decide) (Or.inr ⟨ni_dL_looks_13, rfl⟩) (by decide)) (ni_muVX (by decide)) <|
  ni_row (ni_okP (ni_iconst ni_dL_looks_15 (by decide +kernel))) (ni_muP (ni_eqPush fun _ => rfl)) <|
  ni_row (ni_ret ni_dL_looks_16) ni_muR <|
  ni_row0
def ni_pr88 : List (Nat × ni_S) := [(0, ni_sLd 3 2 1),
  (1, ni_sP (ni_gPush (.int 0) 2)),
  (2, ni_sLd 3 0 3),
  (3, ni_sLd 0 1 4),
  (4, ni_sVX 30 1 10 "java/lang/IndexOutOfBoundsException" 12 3 7),
  (12, ni_sP (ni_gPush (.int 1) 13)),
  (13, ni_sR (some .int))]
theorem ni_pk88 : ∀ r ∈ ni_pr88, ni_Ok xs yL_meanLate cL_meanLate 4 (some .int) [(0, 8, 11, 19)] r.1 r.2 ∧ ni_MU r.2 := ni_row (ni_aloadn ni_dL_meanLate_0 rfl) ni_muLd <|
  ni_row (ni_okP (ni_iconst ni_dL_meanLate_1 (by decide +kernel))) (ni_muP (ni_eqPush fun _ => rfl)) <|
  ni_row (ni_aloadn ni_dL_meanLate_2 rfl) ni_muLd <|
  ni_row (ni_iloadn ni_dL_meanLate_3 rfl) ni_muLd <|
  ni_row (ni_virtX (y := 30) (T := TX11) ni_dL_meanLate_4 (by decide) rfl rfl ni_w1300 ni_w1301 ni_w1302 ni_w61 ni_w1303 ⟨by decide +kernel, by decide +kernel, by decide +kernel⟩ (by decide) rfl (by decide) (by decide) ni_w706 (by decide) (Or.inl ⟨ni_dL_meanLate_11, rfl, rfl⟩) (by decide)) (ni_muVX (by decide)) <|
  ni_row (ni_okP (ni_iconst ni_dL_meanLate_12 (by decide +kernel))) (ni_muP (ni_eqPush fun _ => rfl)) <|
  ni_row (ni_ret ni_dL_meanLate_13) ni_muR <|
  ni_row0
def ni_pr89 : List (Nat × ni_S) := [(0, ni_sLd 3 3 1),
  (1, ni_sP (ni_gPush (.int 0) 2)),
  (2, ni_sLd 3 0 3),
  (3, ni_sLd 0 1 4),
  (4, ni_sLd 0 2 5),
  (5, ni_sVX 32 2 10 "java/lang/IndexOutOfBoundsException" 15 4 8),
  (15, ni_sP (ni_gPush (.int 1) 16)),
  (16, ni_sR (some .int))]
theorem ni_pk89 : ∀ r ∈ ni_pr89, ni_Ok xs yL_nextLink cL_nextLink 5 (some .int) [(0, 10, 13, 19)] r.1 r.2 ∧ ni_MU r.2 := ni_row (ni_aloadn ni_dL_nextLink_0 rfl) ni_muLd <|
  ni_row (ni_okP (ni_iconst ni_dL_nextLink_1 (by decide +kernel))) (ni_muP (ni_eqPush fun _ => rfl)) <|
  ni_row (ni_aloadn ni_dL_nextLink_2 rfl) ni_muLd <|
  ni_row (ni_iloadn ni_dL_nextLink_3 rfl) ni_muLd <|
  ni_row (ni_iloadn ni_dL_nextLink_4 rfl) ni_muLd <|
  ni_row (ni_virtX (j := 0) (y := 32) (T := TX11) ni_dL_nextLink_5 (by decide) rfl rfl ni_w1209 ni_w1210 ni_w1211 ni_w61 ni_w1212 ⟨by decide +kernel, by decide +kernel, by decide +kernel⟩ (by decide) rfl (by decide) (by decide) ni_w706 (by decide) (Or.inr ⟨ni_dL_nextLink_13, rfl⟩) (by decide)) (ni_muVX (by decide)) <|
  ni_row (ni_okP (ni_iconst ni_dL_nextLink_15 (by decide +kernel))) (ni_muP (ni_eqPush fun _ => rfl)) <|
  ni_row (ni_ret ni_dL_nextLink_16) ni_muR <|
  ni_row0
def ni_pr90 : List (Nat × ni_S) := [(0, ni_sLd 3 2 1),
  (1, ni_sP (ni_gPush (.int 0) 2)),
  (2, ni_sLd 3 0 3),
  (3, ni_sLd 0 1 4),
  (4, ni_sVX 33 1 10 "java/lang/IndexOutOfBoundsException" 13 3 7),
  (13, ni_sP (ni_gPush (.int 1) 14)),
  (14, ni_sR (some .int))]
theorem ni_pk90 : ∀ r ∈ ni_pr90, ni_Ok xs yL_offered cL_offered 4 (some .int) [(0, 9, 12, 19)] r.1 r.2 ∧ ni_MU r.2 := ni_row (ni_aloadn ni_dL_offered_0 rfl) ni_muLd <|
  ni_row (ni_okP (ni_iconst ni_dL_offered_1 (by decide +kernel))) (ni_muP (ni_eqPush fun _ => rfl)) <|
  ni_row (ni_aloadn ni_dL_offered_2 rfl) ni_muLd <|
  ni_row (ni_iloadn ni_dL_offered_3 rfl) ni_muLd <|
  ni_row (ni_virtX (y := 33) (T := TX11) ni_dL_offered_4 (by decide) rfl rfl ni_w1258 ni_w1259 ni_w1260 ni_w61 ni_w1261 ⟨by decide +kernel, by decide +kernel, by decide +kernel⟩ (by decide) rfl (by decide) (by decide) ni_w706 (by decide) (Or.inl ⟨ni_dL_offered_12, rfl, rfl⟩) (by decide)) (ni_muVX (by decide)) <|
  ni_row (ni_okP (ni_iconst ni_dL_offered_13 (by decide +kernel))) (ni_muP (ni_eqPush fun _ => rfl)) <|
  ni_row (ni_ret ni_dL_offered_14) ni_muR <|
  ni_row0
def ni_pr91 : List (Nat × ni_S) := [(0, ni_sLd 3 2 1),
  (1, ni_sP (ni_gPush (.int 0) 2)),
  (2, ni_sLd 3 0 3),
  (3, ni_sLd 0 1 4),
  (4, ni_sVX 34 1 10 "java/lang/IndexOutOfBoundsException" 13 3 7),
  (13, ni_sP (ni_gPush (.int 1) 14)),
  (14, ni_sR (some .int))]
theorem ni_pk91 : ∀ r ∈ ni_pr91, ni_Ok xs yL_onLink cL_onLink 4 (some .int) [(0, 9, 12, 19)] r.1 r.2 ∧ ni_MU r.2 := ni_row (ni_aloadn ni_dL_onLink_0 rfl) ni_muLd <|
  ni_row (ni_okP (ni_iconst ni_dL_onLink_1 (by decide +kernel))) (ni_muP (ni_eqPush fun _ => rfl)) <|
  ni_row (ni_aloadn ni_dL_onLink_2 rfl) ni_muLd <|
  ni_row (ni_iloadn ni_dL_onLink_3 rfl) ni_muLd <|
  ni_row (ni_virtX (y := 34) (T := TX11) ni_dL_onLink_4 (by decide) rfl rfl ni_w1251 ni_w1252 ni_w1253 ni_w61 ni_w1254 ⟨by decide +kernel, by decide +kernel, by decide +kernel⟩ (by decide) rfl (by decide) (by decide) ni_w706 (by decide) (Or.inl ⟨ni_dL_onLink_12, rfl, rfl⟩) (by decide)) (ni_muVX (by decide)) <|
  ni_row (ni_okP (ni_iconst ni_dL_onLink_13 (by decide +kernel))) (ni_muP (ni_eqPush fun _ => rfl)) <|
  ni_row (ni_ret ni_dL_onLink_14) ni_muR <|
  ni_row0
def ni_pr92 : List (Nat × ni_S) := [(0, ni_sLd 3 2 1),
  (1, ni_sP (ni_gPush (.int 0) 2)),
  (2, ni_sLd 3 0 3),
  (3, ni_sLd 0 1 4),
  (4, ni_sVX 35 1 10 "java/lang/IndexOutOfBoundsException" 13 3 7),
  (13, ni_sP (ni_gPush (.int 1) 14)),
  (14, ni_sR (some .int))]
theorem ni_pk92 : ∀ r ∈ ni_pr92, ni_Ok xs yL_outOfOrder cL_outOfOrder 4 (some .int) [(0, 9, 12, 19)] r.1 r.2 ∧ ni_MU r.2 := ni_row (ni_aloadn ni_dL_outOfOrder_0 rfl) ni_muLd <|
  ni_row (ni_okP (ni_iconst ni_dL_outOfOrder_1 (by decide +kernel))) (ni_muP (ni_eqPush fun _ => rfl)) <|
  ni_row (ni_aloadn ni_dL_outOfOrder_2 rfl) ni_muLd <|
  ni_row (ni_iloadn ni_dL_outOfOrder_3 rfl) ni_muLd <|
  ni_row (ni_virtX (y := 35) (T := TX11) ni_dL_outOfOrder_4 (by decide) rfl rfl ni_w1307 ni_w1308 ni_w1309 ni_w61 ni_w1310 ⟨by decide +kernel, by decide +kernel, by decide +kernel⟩ (by decide) rfl (by decide) (by decide) ni_w706 (by decide) (Or.inl ⟨ni_dL_outOfOrder_12, rfl, rfl⟩) (by decide)) (ni_muVX (by decide)) <|
  ni_row (ni_okP (ni_iconst ni_dL_outOfOrder_13 (by decide +kernel))) (ni_muP (ni_eqPush fun _ => rfl)) <|
  ni_row (ni_ret ni_dL_outOfOrder_14) ni_muR <|
  ni_row0
def ni_pr93 : List (Nat × ni_S) := [(0, ni_sLd 3 4 2),
  (2, ni_sP (ni_gPush (.int 0) 3)),
  (3, ni_sLd 3 0 4),
  (4, ni_sLd 0 1 5),
  (5, ni_sLd 0 2 6),
  (6, ni_sLd 0 3 7),
  (7, ni_sVX 36 3 10 "java/lang/IndexOutOfBoundsException" 17 5 10),
  (17, ni_sP (ni_gPush (.int 1) 18)),
  (18, ni_sR (some .int))]
theorem ni_pk93 : ∀ r ∈ ni_pr93, ni_Ok xs yL_queued cL_queued 6 (some .int) [(0, 12, 15, 19)] r.1 r.2 ∧ ni_MU r.2 := ni_row (ni_aload ni_dL_queued_0) ni_muLd <|
  ni_row (ni_okP (ni_iconst ni_dL_queued_2 (by decide +kernel))) (ni_muP (ni_eqPush fun _ => rfl)) <|
  ni_row (ni_aloadn ni_dL_queued_3 rfl) ni_muLd <|
  ni_row (ni_iloadn ni_dL_queued_4 rfl) ni_muLd <|
  ni_row (ni_iloadn ni_dL_queued_5 rfl) ni_muLd <|
  ni_row (ni_iloadn ni_dL_queued_6 rfl) ni_muLd <|
  ni_row (ni_virtX (j := 0) (y := 36) (T := TX11) ni_dL_queued_7 (by decide) rfl rfl ni_w1230 ni_w1231 ni_w1232 ni_w61 ni_w1233 ⟨by decide +kernel, by decide +kernel, by decide +kernel⟩ (by decide) rfl (by decide) (by decide) ni_w706 (by decide) (Or.inr ⟨ni_dL_queued_15, rfl⟩) (by decide)) (ni_muVX (by decide)) <|
  ni_row (ni_okP (ni_iconst ni_dL_queued_17 (by decide +kernel))) (ni_muP (ni_eqPush fun _ => rfl)) <|
  ni_row (ni_ret ni_dL_queued_18) ni_muR <|
  ni_row0
def ni_pr94 : List (Nat × ni_S) := [(0, ni_sLd 3 2 1),
  (1, ni_sP (ni_gPush (.int 0) 2)),
  (2, ni_sLd 3 0 3),
  (3, ni_sLd 0 1 4),
  (4, ni_sVX 37 1 10 "java/lang/IndexOutOfBoundsException" 13 3 7),
  (13, ni_sP (ni_gPush (.int 1) 14)),
  (14, ni_sR (some .int))]
theorem ni_pk94 : ∀ r ∈ ni_pr94, ni_Ok xs yL_route cL_route 4 (some .int) [(0, 9, 12, 19)] r.1 r.2 ∧ ni_MU r.2 := ni_row (ni_aloadn ni_dL_route_0 rfl) ni_muLd <|
  ni_row (ni_okP (ni_iconst ni_dL_route_1 (by decide +kernel))) (ni_muP (ni_eqPush fun _ => rfl)) <|
  ni_row (ni_aloadn ni_dL_route_2 rfl) ni_muLd <|
  ni_row (ni_iloadn ni_dL_route_3 rfl) ni_muLd <|
  ni_row (ni_virtX (y := 37) (T := TX11) ni_dL_route_4 (by decide) rfl rfl ni_w1216 ni_w1217 ni_w1218 ni_w61 ni_w1219 ⟨by decide +kernel, by decide +kernel, by decide +kernel⟩ (by decide) rfl (by decide) (by decide) ni_w706 (by decide) (Or.inl ⟨ni_dL_route_12, rfl, rfl⟩) (by decide)) (ni_muVX (by decide)) <|
  ni_row (ni_okP (ni_iconst ni_dL_route_13 (by decide +kernel))) (ni_muP (ni_eqPush fun _ => rfl)) <|
  ni_row (ni_ret ni_dL_route_14) ni_muR <|
  ni_row0
def ni_pr95 : List (Nat × ni_S) := [(0, ni_sLd 3 5 2),
  (2, ni_sP (ni_gPush (.int 0) 3)),
  (3, ni_sLd 3 0 4),
  (4, ni_sLd 0 1 5),
  (5, ni_sLd 0 2 6),
  (6, ni_sLd 0 3 7),
  (7, ni_sLd 0 4 9),
  (9, ni_sVX 39 4 10 "java/lang/IndexOutOfBoundsException" 19 6 12),
  (19, ni_sP (ni_gPush (.int 1) 20)),
  (20, ni_sR (some .int))]
theorem ni_pk95 : ∀ r ∈ ni_pr95, ni_Ok xs yL_schedule cL_schedule 7 (some .int) [(0, 14, 17, 19), (0, 14, 21, 21), (0, 14, 25, 13)] r.1 r.2 ∧ ni_MU r.2 := ni_row (ni_aload ni_dL_schedule_0) ni_muLd <|
  ni_row (ni_okP (ni_iconst ni_dL_schedule_2 (by decide +kernel))) (ni_muP (ni_eqPush fun _ => rfl)) <|
  ni_row (ni_aloadn ni_dL_schedule_3 rfl) ni_muLd <|
  ni_row (ni_iloadn ni_dL_schedule_4 rfl) ni_muLd <|
  ni_row (ni_iloadn ni_dL_schedule_5 rfl) ni_muLd <|
  ni_row (ni_iloadn ni_dL_schedule_6 rfl) ni_muLd <|
  ni_row (ni_iload ni_dL_schedule_7) ni_muLd <|
  ni_row (ni_virtX (j := 0) (y := 39) (T := TX11) ni_dL_schedule_9 (by decide) rfl rfl ni_w964 ni_w965 ni_w966 ni_w61 ni_w967 ⟨by decide +kernel, by decide +kernel, by decide +kernel⟩ (by decide) rfl (by decide) (by decide) ni_w706 (by decide) (Or.inr ⟨ni_dL_schedule_17, rfl⟩) (by decide)) (ni_muVX (by decide)) <|
  ni_row (ni_okP (ni_iconst ni_dL_schedule_19 (by decide +kernel))) (ni_muP (ni_eqPush fun _ => rfl)) <|
  ni_row (ni_ret ni_dL_schedule_20) ni_muR <|
  ni_row0
def ni_pr96 : List (Nat × ni_S) := [(0, ni_sLd 3 3 1),
  (1, ni_sP (ni_gPush (.int 0) 2)),
  (2, ni_sLd 3 0 3),
  (3, ni_sLd 0 1 4),
  (4, ni_sLd 0 2 5),
  (5, ni_sVX 40 2 10 "java/lang/IndexOutOfBoundsException" 15 4 8),
  (15, ni_sP (ni_gPush (.int 1) 16)),
  (16, ni_sR (some .int))]
theorem ni_pk96 : ∀ r ∈ ni_pr96, ni_Ok xs yL_sending cL_sending 5 (some .int) [(0, 10, 13, 19)] r.1 r.2 ∧ ni_MU r.2 := ni_row (ni_aloadn ni_dL_sending_0 rfl) ni_muLd <|
  ni_row (ni_okP (ni_iconst ni_dL_sending_1 (by decide +kernel))) (ni_muP (ni_eqPush fun _ => rfl)) <|
  ni_row (ni_aloadn ni_dL_sending_2 rfl) ni_muLd <|
  ni_row (ni_iloadn ni_dL_sending_3 rfl) ni_muLd <|
  ni_row (ni_iloadn ni_dL_sending_4 rfl) ni_muLd <|
  ni_row (ni_virtX (j := 0) (y := 40) (T := TX11) ni_dL_sending_5 (by decide) rfl rfl ni_w1237 ni_w1238 ni_w1239 ni_w61 ni_w1240 ⟨by decide +kernel, by decide +kernel, by decide +kernel⟩ (by decide) rfl (by decide) (by decide) ni_w706 (by decide) (Or.inr ⟨ni_dL_sending_13, rfl⟩) (by decide)) (ni_muVX (by decide)) <|
  ni_row (ni_okP (ni_iconst ni_dL_sending_15 (by decide +kernel))) (ni_muP (ni_eqPush fun _ => rfl)) <|
  ni_row (ni_ret ni_dL_sending_16) ni_muR <|
  ni_row0
def ni_pr97 : List (Nat × ni_S) := [(0, ni_sLd 3 3 1),
  (1, ni_sP (ni_gPush (.int 0) 2)),
  (2, ni_sLd 3 0 3),
  (3, ni_sLd 0 1 4),
  (4, ni_sLd 0 2 5),
  (5, ni_sVX 41 2 10 "java/lang/IndexOutOfBoundsException" 15 4 8),
  (15, ni_sP (ni_gPush (.int 1) 16)),
  (16, ni_sR (some .int))]
theorem ni_pk97 : ∀ r ∈ ni_pr97, ni_Ok xs yL_setCost cL_setCost 5 (some .int) [(0, 10, 13, 19), (0, 10, 17, 21)] r.1 r.2 ∧ ni_MU r.2 := ni_row (ni_aloadn ni_dL_setCost_0 rfl) ni_muLd <|
  ni_row (ni_okP (ni_iconst ni_dL_setCost_1 (by decide +kernel))) (ni_muP (ni_eqPush fun _ => rfl)) <|
  ni_row (ni_aloadn ni_dL_setCost_2 rfl) ni_muLd <|
  ni_row (ni_iloadn ni_dL_setCost_3 rfl) ni_muLd <|
  ni_row (ni_iloadn ni_dL_setCost_4 rfl) ni_muLd <|
  ni_row (ni_virtX (j := 0) (y := 41) (T := TX11) ni_dL_setCost_5 (by decide) rfl rfl ni_w807 ni_w808 ni_w809 ni_w61 ni_w810 ⟨by decide +kernel, by decide +kernel, by decide +kernel⟩ (by decide) rfl (by decide) (by decide) ni_w706 (by decide) (Or.inr ⟨ni_dL_setCost_13, rfl⟩) (by decide)) (ni_muVX (by decide)) <|
  ni_row (ni_okP (ni_iconst ni_dL_setCost_15 (by decide +kernel))) (ni_muP (ni_eqPush fun _ => rfl)) <|
  ni_row (ni_ret ni_dL_setCost_16) ni_muR <|
  ni_row0
def ni_pr98 : List (Nat × ni_S) := [(0, ni_sLd 3 6 2),
  (2, ni_sP (ni_gPush (.int 0) 3)),
  (3, ni_sLd 3 0 4),
  (4, ni_sLd 0 1 5),
  (5, ni_sLd 0 2 6),
  (6, ni_sLd 0 3 7),
  (7, ni_sLd 0 4 9),
  (9, ni_sLd 0 5 11),
  (11, ni_sVX 42 5 10 "java/lang/IndexOutOfBoundsException" 21 7 14),
  (21, ni_sP (ni_gPush (.int 1) 22)),
  (22, ni_sR (some .int))]
theorem ni_pk98 : ∀ r ∈ ni_pr98, ni_Ok xs yL_setPort cL_setPort 8 (some .int) [(0, 16, 19, 19), (0, 16, 23, 21)] r.1 r.2 ∧ ni_MU r.2 := ni_row (ni_aload ni_dL_setPort_0) ni_muLd <|
  ni_row (ni_okP (ni_iconst ni_dL_setPort_2 (by decide +kernel))) (ni_muP (ni_eqPush fun _ => rfl)) <|
  ni_row (ni_aloadn ni_dL_setPort_3 rfl) ni_muLd <|
  ni_row (ni_iloadn ni_dL_setPort_4 rfl) ni_muLd <|
  ni_row (ni_iloadn ni_dL_setPort_5 rfl) ni_muLd <|
  ni_row (ni_iloadn ni_dL_setPort_6 rfl) ni_muLd <|
  ni_row (ni_iload ni_dL_setPort_7) ni_muLd <|
  ni_row (ni_iload ni_dL_setPort_9) ni_muLd <|
  ni_row (ni_virtX (j := 0) (y := 42) (T := TX11) ni_dL_setPort_11 (by decide) rfl rfl ni_w930 ni_w931 ni_w932 ni_w61 ni_w933 ⟨by decide +kernel, by decide +kernel, by decide +kernel⟩ (by decide) rfl (by decide) (by decide) ni_w706 (by decide) (Or.inr ⟨ni_dL_setPort_19, rfl⟩) (by decide)) (ni_muVX (by decide)) <|
  ni_row (ni_okP (ni_iconst ni_dL_setPort_21 (by decide +kernel))) (ni_muP (ni_eqPush fun _ => rfl)) <|
  ni_row (ni_ret ni_dL_setPort_22) ni_muR <|
  ni_row0
def ni_pr99 : List (Nat × ni_S) := [(0, ni_sLd 3 3 1),
  (1, ni_sP (ni_gPush (.int 0) 2)),
  (2, ni_sLd 3 0 3),
  (3, ni_sLd 0 1 4),
  (4, ni_sLd 0 2 5),
  (5, ni_sVX 43 2 10 "java/lang/IndexOutOfBoundsException" 22 4 8),
  (22, ni_sP (ni_gPush (.int 1) 23)),
  (23, ni_sR (some .int))]
theorem ni_pk99 : ∀ r ∈ ni_pr99, ni_Ok xs yL_setUp cL_setUp 5 (some .int) [(0, 17, 20, 19)] r.1 r.2 ∧ ni_MU r.2 := ni_row (ni_aloadn ni_dL_setUp_0 rfl) ni_muLd <|
  ni_row (ni_okP (ni_iconst ni_dL_setUp_1 (by decide +kernel))) (ni_muP (ni_eqPush fun _ => rfl)) <|
  ni_row (ni_aloadn ni_dL_setUp_2 rfl) ni_muLd <|
  ni_row (ni_iloadn ni_dL_setUp_3 rfl) ni_muLd <|
  ni_row (ni_iloadn ni_dL_setUp_4 rfl) ni_muLd <|
  ni_row (ni_virtX (j := 0) (y := 43) (T := TX11) ni_dL_setUp_5 (by decide) rfl rfl ni_w822 ni_w823 ni_w824 ni_w61 ni_w825 ⟨by decide +kernel, by decide +kernel, by decide +kernel⟩ (by decide) rfl (by decide) (by decide) ni_w706 (by decide) (Or.inr ⟨ni_dL_setUp_20, rfl⟩) (by decide)) (ni_muVX (by decide)) <|
  ni_row (ni_okP (ni_iconst ni_dL_setUp_22 (by decide +kernel))) (ni_muP (ni_eqPush fun _ => rfl)) <|
  ni_row (ni_ret ni_dL_setUp_23) ni_muR <|
  ni_row0
def ni_pr100 : List (Nat × ni_S) := [(0, ni_sLd 3 5 2),
  (2, ni_sP (ni_gPush (.int 0) 3)),
  (3, ni_sLd 3 0 4),
  (4, ni_sLd 0 1 5),
  (5, ni_sLd 0 2 6),
  (6, ni_sLd 0 3 7),
  (7, ni_sLd 0 4 9),
  (9, ni_sVX 44 4 10 "java/lang/IndexOutOfBoundsException" 19 6 12),
  (19, ni_sP (ni_gPush (.int 1) 20)),
  (20, ni_sR (some .int))]
theorem ni_pk100 : ∀ r ∈ ni_pr100, ni_Ok xs yL_setWeight cL_setWeight 7 (some .int) [(0, 14, 17, 19), (0, 14, 21, 21)] r.1 r.2 ∧ ni_MU r.2 := ni_row (ni_aload ni_dL_setWeight_0) ni_muLd <|
  ni_row (ni_okP (ni_iconst ni_dL_setWeight_2 (by decide +kernel))) (ni_muP (ni_eqPush fun _ => rfl)) <|
  ni_row (ni_aloadn ni_dL_setWeight_3 rfl) ni_muLd <|
  ni_row (ni_iloadn ni_dL_setWeight_4 rfl) ni_muLd <|
  ni_row (ni_iloadn ni_dL_setWeight_5 rfl) ni_muLd <|
  ni_row (ni_iloadn ni_dL_setWeight_6 rfl) ni_muLd <|
  ni_row (ni_iload ni_dL_setWeight_7) ni_muLd <|
  ni_row (ni_virtX (j := 0) (y := 44) (T := TX11) ni_dL_setWeight_9 (by decide) rfl rfl ni_w945 ni_w946 ni_w947 ni_w61 ni_w948 ⟨by decide +kernel, by decide +kernel, by decide +kernel⟩ (by decide) rfl (by decide) (by decide) ni_w706 (by decide) (Or.inr ⟨ni_dL_setWeight_17, rfl⟩) (by decide)) (ni_muVX (by decide)) <|
  ni_row (ni_okP (ni_iconst ni_dL_setWeight_19 (by decide +kernel))) (ni_muP (ni_eqPush fun _ => rfl)) <|
  ni_row (ni_ret ni_dL_setWeight_20) ni_muR <|
  ni_row0
def ni_pr101 : List (Nat × ni_S) := [(0, ni_sLd 3 2 1),
  (1, ni_sP (ni_gPush (.int 0) 2)),
  (2, ni_sLd 3 0 3),
  (3, ni_sLd 0 1 4),
  (4, ni_sVX 45 1 10 "java/lang/IllegalArgumentException" 13 3 7),
  (7, ni_sP (ni_gU (fun x => .long x.toInt64) 8)),
  (8, ni_sAst .long 1 9),
  (9, ni_sP (ni_gGo 15)),
  (13, ni_sP (ni_gPush (.int 1) 14)),
  (14, ni_sR (some .int)),
  (15, ni_sP (ni_gPush (.int 0) 16)),
  (16, ni_sR (some .int))]
theorem ni_pk101 : ∀ r ∈ ni_pr101, ni_Ok xs yL_settledIn cL_settledIn 4 (some .int) [(0, 9, 12, 21)] r.1 r.2 ∧ ni_MU r.2 := ni_row (ni_aloadn ni_dL_settledIn_0 rfl) ni_muLd <|
  ni_row (ni_okP (ni_iconst ni_dL_settledIn_1 (by decide +kernel))) (ni_muP (ni_eqPush fun _ => rfl)) <|
  ni_row (ni_aloadn ni_dL_settledIn_2 rfl) ni_muLd <|
  ni_row (ni_iloadn ni_dL_settledIn_3 rfl) ni_muLd <|
  ni_row (ni_virtX (y := 45) (T := TX11) ni_dL_settledIn_4 (by decide) rfl rfl ni_w1361 ni_w1362 ni_w1363 ni_w61 ni_w1364 ⟨by decide +kernel, by decide +kernel, by decide +kernel⟩ (by decide) rfl (by decide) (by decide) ni_w707 (by decide) (Or.inl ⟨ni_dL_settledIn_12, rfl, rfl⟩) (by decide)) (ni_muVX (by decide)) <|
  ni_row (ni_okP (ni_i2l ni_dL_settledIn_7)) (ni_muP (ni_eqU fun _ _ => rfl)) <|
  ni_row (ni_last ni_dL_settledIn_8) ni_muAst <|
  ni_row (ni_okP (ni_goto ni_dL_settledIn_9 (by decide))) (ni_muP ni_eqGo) <|
  ni_row (ni_okP (ni_iconst ni_dL_settledIn_13 (by decide +kernel))) (ni_muP (ni_eqPush fun _ => rfl)) <|
  ni_row (ni_ret ni_dL_settledIn_14) ni_muR <|
  ni_row (ni_okP (ni_iconst ni_dL_settledIn_15 (by decide +kernel))) (ni_muP (ni_eqPush fun _ => rfl)) <|
  ni_row (ni_ret ni_dL_settledIn_16) ni_muR <|
  ni_row0
def ni_pr102 : List (Nat × ni_S) := [(0, ni_sLd 3 4 2),
  (2, ni_sP (ni_gPush (.int 0) 3)),
  (3, ni_sLd 3 0 4),
  (4, ni_sLd 0 1 5),
  (5, ni_sLd 0 2 6),
  (6, ni_sLd 0 3 7),
  (7, ni_sVX 46 3 10 "java/lang/IndexOutOfBoundsException" 17 5 10),
  (17, ni_sP (ni_gPush (.int 1) 18)),
  (18, ni_sR (some .int))]
theorem ni_pk102 : ∀ r ∈ ni_pr102, ni_Ok xs yL_shape cL_shape 6 (some .int) [(0, 12, 15, 19), (0, 12, 19, 21)] r.1 r.2 ∧ ni_MU r.2 := ni_row (ni_aload ni_dL_shape_0) ni_muLd <|
  ni_row (ni_okP (ni_iconst ni_dL_shape_2 (by decide +kernel))) (ni_muP (ni_eqPush fun _ => rfl)) <|
  ni_row (ni_aloadn ni_dL_shape_3 rfl) ni_muLd <|
  ni_row (ni_iloadn ni_dL_shape_4 rfl) ni_muLd <|
  ni_row (ni_iloadn ni_dL_shape_5 rfl) ni_muLd <|
  ni_row (ni_iloadn ni_dL_shape_6 rfl) ni_muLd <|
  ni_row (ni_virtX (j := 0) (y := 46) (T := TX11) ni_dL_shape_7 (by decide) rfl rfl ni_w976 ni_w977 ni_w978 ni_w61 ni_w979 ⟨by decide +kernel, by decide +kernel, by decide +kernel⟩ (by decide) rfl (by decide) (by decide) ni_w706 (by decide) (Or.inr ⟨ni_dL_shape_15, rfl⟩) (by decide)) (ni_muVX (by decide)) <|
  ni_row (ni_okP (ni_iconst ni_dL_shape_17 (by decide +kernel))) (ni_muP (ni_eqPush fun _ => rfl)) <|
  ni_row (ni_ret ni_dL_shape_18) ni_muR <|
  ni_row0
def ni_pr103 : List (Nat × ni_S) := [(0, ni_sLd 3 2 1),
  (1, ni_sP (ni_gPush (.int 0) 2)),
  (2, ni_sLd 3 0 3),
  (3, ni_sLd 0 1 4),
  (4, ni_sVX 47 1 10 "java/lang/IndexOutOfBoundsException" 13 3 7),
  (13, ni_sP (ni_gPush (.int 1) 14)),
  (14, ni_sR (some .int))]
theorem ni_pk103 : ∀ r ∈ ni_pr103, ni_Ok xs yL_shaping cL_shaping 4 (some .int) [(0, 9, 12, 19)] r.1 r.2 ∧ ni_MU r.2 := ni_row (ni_aloadn ni_dL_shaping_0 rfl) ni_muLd <|
  ni_row (ni_okP (ni_iconst ni_dL_shaping_1 (by decide +kernel))) (ni_muP (ni_eqPush fun _ => rfl)) <|
  ni_row (ni_aloadn ni_dL_shaping_2 rfl) ni_muLd <|
  ni_row (ni_iloadn ni_dL_shaping_3 rfl) ni_muLd <|
  ni_row (ni_virtX (y := 47) (T := TX11) ni_dL_shaping_4 (by decide) rfl rfl ni_w1265 ni_w1266 ni_w1267 ni_w61 ni_w1268 ⟨by decide +kernel, by decide +kernel, by decide +kernel⟩ (by decide) rfl (by decide) (by decide) ni_w706 (by decide) (Or.inl ⟨ni_dL_shaping_12, rfl, rfl⟩) (by decide)) (ni_muVX (by decide)) <|
  ni_row (ni_okP (ni_iconst ni_dL_shaping_13 (by decide +kernel))) (ni_muP (ni_eqPush fun _ => rfl)) <|
  ni_row (ni_ret ni_dL_shaping_14) ni_muR <|
  ni_row0
def ni_pr104 : List (Nat × ni_S) := [(0, ni_sLd 3 3 1),
  (1, ni_sP (ni_gPush (.int 0) 2)),
  (2, ni_sLd 3 0 3),
  (3, ni_sLd 0 1 4),
  (4, ni_sLd 0 2 5),
  (5, ni_sVX 48 2 10 "java/lang/IndexOutOfBoundsException" 15 4 8),
  (15, ni_sP (ni_gPush (.int 1) 16)),
  (16, ni_sR (some .int))]
theorem ni_pk104 : ∀ r ∈ ni_pr104, ni_Ok xs yL_sortOf cL_sortOf 5 (some .int) [(0, 10, 13, 19), (0, 10, 17, 21)] r.1 r.2 ∧ ni_MU r.2 := ni_row (ni_aloadn ni_dL_sortOf_0 rfl) ni_muLd <|
  ni_row (ni_okP (ni_iconst ni_dL_sortOf_1 (by decide +kernel))) (ni_muP (ni_eqPush fun _ => rfl)) <|
  ni_row (ni_aloadn ni_dL_sortOf_2 rfl) ni_muLd <|
  ni_row (ni_iloadn ni_dL_sortOf_3 rfl) ni_muLd <|
  ni_row (ni_iloadn ni_dL_sortOf_4 rfl) ni_muLd <|
  ni_row (ni_virtX (j := 0) (y := 48) (T := TX11) ni_dL_sortOf_5 (by decide) rfl rfl ni_w1202 ni_w1203 ni_w1204 ni_w61 ni_w1205 ⟨by decide +kernel, by decide +kernel, by decide +kernel⟩ (by decide) rfl (by decide) (by decide) ni_w706 (by decide) (Or.inr ⟨ni_dL_sortOf_13, rfl⟩) (by decide)) (ni_muVX (by decide)) <|
  ni_row (ni_okP (ni_iconst ni_dL_sortOf_15 (by decide +kernel))) (ni_muP (ni_eqPush fun _ => rfl)) <|
  ni_row (ni_ret ni_dL_sortOf_16) ni_muR <|
  ni_row0
def ni_pr105 : List (Nat × ni_S) := [(0, ni_sLd 3 2 1),
  (1, ni_sP (ni_gPush (.int 0) 2)),
  (2, ni_sLd 3 0 3),
  (3, ni_sLd 0 1 4),
  (4, ni_sVX 50 1 10 "java/lang/IllegalArgumentException" 13 3 7),
  (7, ni_sP (ni_gU (fun x => .long x.toInt64) 8)),
  (8, ni_sAst .long 1 9),
  (9, ni_sP (ni_gGo 15)),
  (13, ni_sP (ni_gPush (.int 1) 14)),
  (14, ni_sR (some .int)),
  (15, ni_sP (ni_gPush (.int 0) 16)),
  (16, ni_sR (some .int))]
theorem ni_pk105 : ∀ r ∈ ni_pr105, ni_Ok xs yL_step cL_step 4 (some .int) [(0, 9, 12, 21)] r.1 r.2 ∧ ni_MU r.2 := ni_row (ni_aloadn ni_dL_step_0 rfl) ni_muLd <|
  ni_row (ni_okP (ni_iconst ni_dL_step_1 (by decide +kernel))) (ni_muP (ni_eqPush fun _ => rfl)) <|
  ni_row (ni_aloadn ni_dL_step_2 rfl) ni_muLd <|
  ni_row (ni_iloadn ni_dL_step_3 rfl) ni_muLd <|
  ni_row (ni_virtX (y := 50) (T := TX11) ni_dL_step_4 (by decide) rfl rfl ni_w983 ni_w984 ni_w985 ni_w61 ni_w986 ⟨by decide +kernel, by decide +kernel, by decide +kernel⟩ (by decide) rfl (by decide) (by decide) ni_w707 (by decide) (Or.inl ⟨ni_dL_step_12, rfl, rfl⟩) (by decide)) (ni_muVX (by decide)) <|
  ni_row (ni_okP (ni_i2l ni_dL_step_7)) (ni_muP (ni_eqU fun _ _ => rfl)) <|
  ni_row (ni_last ni_dL_step_8) ni_muAst <|
  ni_row (ni_okP (ni_goto ni_dL_step_9 (by decide))) (ni_muP ni_eqGo) <|
  ni_row (ni_okP (ni_iconst ni_dL_step_13 (by decide +kernel))) (ni_muP (ni_eqPush fun _ => rfl)) <|
  ni_row (ni_ret ni_dL_step_14) ni_muR <|
  ni_row (ni_okP (ni_iconst ni_dL_step_15 (by decide +kernel))) (ni_muP (ni_eqPush fun _ => rfl)) <|
  ni_row (ni_ret ni_dL_step_16) ni_muR <|
  ni_row0
def ni_pr106 : List (Nat × ni_S) := [(0, ni_sLd 3 2 1),
  (1, ni_sP (ni_gPush (.int 0) 2)),
  (2, ni_sLd 3 0 3),
  (3, ni_sLd 0 1 4),
  (4, ni_sVX 52 1 10 "java/lang/IndexOutOfBoundsException" 13 3 7),
  (13, ni_sP (ni_gPush (.int 1) 14)),
  (14, ni_sR (some .int))]
theorem ni_pk106 : ∀ r ∈ ni_pr106, ni_Ok xs yL_tokens cL_tokens 4 (some .int) [(0, 9, 12, 19)] r.1 r.2 ∧ ni_MU r.2 := ni_row (ni_aloadn ni_dL_tokens_0 rfl) ni_muLd <|
  ni_row (ni_okP (ni_iconst ni_dL_tokens_1 (by decide +kernel))) (ni_muP (ni_eqPush fun _ => rfl)) <|
  ni_row (ni_aloadn ni_dL_tokens_2 rfl) ni_muLd <|
  ni_row (ni_iloadn ni_dL_tokens_3 rfl) ni_muLd <|
  ni_row (ni_virtX (y := 52) (T := TX11) ni_dL_tokens_4 (by decide) rfl rfl ni_w1272 ni_w1273 ni_w1274 ni_w61 ni_w1275 ⟨by decide +kernel, by decide +kernel, by decide +kernel⟩ (by decide) rfl (by decide) (by decide) ni_w706 (by decide) (Or.inl ⟨ni_dL_tokens_12, rfl, rfl⟩) (by decide)) (ni_muVX (by decide)) <|
  ni_row (ni_okP (ni_iconst ni_dL_tokens_13 (by decide +kernel))) (ni_muP (ni_eqPush fun _ => rfl)) <|
  ni_row (ni_ret ni_dL_tokens_14) ni_muR <|
  ni_row0
def ni_pr107 : List (Nat × ni_S) := [(0, ni_sLd 3 2 1),
  (1, ni_sP (ni_gPush (.int 0) 2)),
  (2, ni_sLd 3 0 3),
  (3, ni_sLd 0 1 4),
  (4, ni_sVX 53 1 10 "java/lang/IndexOutOfBoundsException" 13 3 7),
  (13, ni_sP (ni_gPush (.int 1) 14)),
  (14, ni_sR (some .int))]
theorem ni_pk107 : ∀ r ∈ ni_pr107, ni_Ok xs yL_trieDepth cL_trieDepth 4 (some .int) [(0, 9, 12, 19)] r.1 r.2 ∧ ni_MU r.2 := ni_row (ni_aloadn ni_dL_trieDepth_0 rfl) ni_muLd <|
  ni_row (ni_okP (ni_iconst ni_dL_trieDepth_1 (by decide +kernel))) (ni_muP (ni_eqPush fun _ => rfl)) <|
  ni_row (ni_aloadn ni_dL_trieDepth_2 rfl) ni_muLd <|
  ni_row (ni_iloadn ni_dL_trieDepth_3 rfl) ni_muLd <|
  ni_row (ni_virtX (y := 53) (T := TX11) ni_dL_trieDepth_4 (by decide) rfl rfl ni_w1175 ni_w1176 ni_w1177 ni_w61 ni_w1178 ⟨by decide +kernel, by decide +kernel, by decide +kernel⟩ (by decide) rfl (by decide) (by decide) ni_w706 (by decide) (Or.inl ⟨ni_dL_trieDepth_12, rfl, rfl⟩) (by decide)) (ni_muVX (by decide)) <|
  ni_row (ni_okP (ni_iconst ni_dL_trieDepth_13 (by decide +kernel))) (ni_muP (ni_eqPush fun _ => rfl)) <|
  ni_row (ni_ret ni_dL_trieDepth_14) ni_muR <|
  ni_row0
def ni_pr108 : List (Nat × ni_S) := [(0, ni_sLd 3 2 1),
  (1, ni_sP (ni_gPush (.int 0) 2)),
  (2, ni_sLd 3 0 3),
  (3, ni_sLd 0 1 4),
  (4, ni_sVX 54 1 10 "java/lang/IndexOutOfBoundsException" 13 3 7),
  (13, ni_sP (ni_gPush (.int 1) 14)),
  (14, ni_sR (some .int))]
theorem ni_pk108 : ∀ r ∈ ni_pr108, ni_Ok xs yL_trieNodes cL_trieNodes 4 (some .int) [(0, 9, 12, 19)] r.1 r.2 ∧ ni_MU r.2 := ni_row (ni_aloadn ni_dL_trieNodes_0 rfl) ni_muLd <|
  ni_row (ni_okP (ni_iconst ni_dL_trieNodes_1 (by decide +kernel))) (ni_muP (ni_eqPush fun _ => rfl)) <|
  ni_row (ni_aloadn ni_dL_trieNodes_2 rfl) ni_muLd <|
  ni_row (ni_iloadn ni_dL_trieNodes_3 rfl) ni_muLd <|
  ni_row (ni_virtX (y := 54) (T := TX11) ni_dL_trieNodes_4 (by decide) rfl rfl ni_w1168 ni_w1169 ni_w1170 ni_w61 ni_w1171 ⟨by decide +kernel, by decide +kernel, by decide +kernel⟩ (by decide) rfl (by decide) (by decide) ni_w706 (by decide) (Or.inl ⟨ni_dL_trieNodes_12, rfl, rfl⟩) (by decide)) (ni_muVX (by decide)) <|
  ni_row (ni_okP (ni_iconst ni_dL_trieNodes_13 (by decide +kernel))) (ni_muP (ni_eqPush fun _ => rfl)) <|
  ni_row (ni_ret ni_dL_trieNodes_14) ni_muR <|
  ni_row0
def ni_pr109 : List (Nat × ni_S) := [(0, ni_sLd 3 3 1),
  (1, ni_sP (ni_gPush (.int 0) 2)),
  (2, ni_sLd 3 0 3),
  (3, ni_sLd 0 1 4),
  (4, ni_sLd 0 2 5),
  (5, ni_sVX 55 2 10 "java/lang/IndexOutOfBoundsException" 15 4 8),
  (15, ni_sP (ni_gPush (.int 1) 16)),
  (16, ni_sR (some .int))]
theorem ni_pk109 : ∀ r ∈ ni_pr109, ni_Ok xs yL_waiting cL_waiting 5 (some .int) [(0, 10, 13, 19)] r.1 r.2 ∧ ni_MU r.2 := ni_row (ni_aloadn ni_dL_waiting_0 rfl) ni_muLd <|
  ni_row (ni_okP (ni_iconst ni_dL_waiting_1 (by decide +kernel))) (ni_muP (ni_eqPush fun _ => rfl)) <|
  ni_row (ni_aloadn ni_dL_waiting_2 rfl) ni_muLd <|
  ni_row (ni_iloadn ni_dL_waiting_3 rfl) ni_muLd <|
  ni_row (ni_iloadn ni_dL_waiting_4 rfl) ni_muLd <|
  ni_row (ni_virtX (j := 0) (y := 55) (T := TX11) ni_dL_waiting_5 (by decide) rfl rfl ni_w1223 ni_w1224 ni_w1225 ni_w61 ni_w1226 ⟨by decide +kernel, by decide +kernel, by decide +kernel⟩ (by decide) rfl (by decide) (by decide) ni_w706 (by decide) (Or.inr ⟨ni_dL_waiting_13, rfl⟩) (by decide)) (ni_muVX (by decide)) <|
  ni_row (ni_okP (ni_iconst ni_dL_waiting_15 (by decide +kernel))) (ni_muP (ni_eqPush fun _ => rfl)) <|
  ni_row (ni_ret ni_dL_waiting_16) ni_muR <|
  ni_row0
def ni_pr110 : List (Nat × ni_S) := [(0, ni_sLd 3 0 1),
  (1, ni_sP (ni_gObj 4)),
  (4, ni_sLd 3 0 5),
  (5, ni_sNew 14 [.int 0, .int 0, .int 0, .null, .null, .null, .null, .null, .null, .null, .int 0, .null, .null, .null, .int 0, .null, .null, .null, .null, .null, .null, .null, .null, .null] 8),
  (8, ni_sP (ni_gDup 9)),
  (9, ni_sI 173 0 12),
  (12, ni_sPut 18 0 (.object "SwitchyardModel$Net") 15),
  (15, ni_sR (none))]
theorem ni_pk110 : ∀ r ∈ ni_pr110, ni_Ok xs yX19_init cX19_init 1 (none) [] r.1 r.2 ∧ ni_MU r.2 := ni_row (ni_aloadn ni_dX19_init_0 rfl) ni_muLd <|
  ni_row (ni_okP (ni_objInit ni_dX19_init_1 ni_w1370 ni_w103 ni_w104)) (ni_muP ni_eqObj) <|
  ni_row (ni_aloadn ni_dX19_init_4 rfl) ni_muLd <|
  ni_row (ni_new (T := TX15) (ty0 := tyX15) ni_dX19_init_5 (by decide) rfl ni_uX15 tyX15_ok rfl (by decide +kernel) ni_w1371 ni_w1372 ni_w72) (ni_muNew fun _ => rfl) <|
  ni_row (ni_okP (ni_dup ni_dX19_init_8)) (ni_muP ni_eqDup) <|
  ni_row (ni_init (y := 173) ni_dX19_init_9 rfl rfl ni_w1373 ni_w1374 ni_w72 ni_w1375 ⟨by decide +kernel, by decide +kernel, by decide +kernel⟩ (by decide) rfl) ni_muI <|
  ni_row (ni_putA (T := TX19) (ty0 := tyX19) (b := true) (Or.inr ⟨rfl, rfl, rfl⟩) rfl ni_dX19_init_12 (by decide) rfl (by decide) ni_uX19 tyX19_ok nmX19 ni_w1569) ni_muPut <|
  ni_row (ni_ret ni_dX19_init_15) ni_muR <|
  ni_row0
def ni_pr111 : List (Nat × ni_S) := [(0, ni_sLd 1 0 1),
  (1, ni_sP (ni_gPush (.long (31)) 4)),
  (4, ni_sP (ni_gJ (fun x y => .long (x * y)) 5)),
  (5, ni_sLd 1 2 6),
  (6, ni_sP (ni_gJ (fun x y => .long (x + y)) 7)),
  (7, ni_sR (some .long))]
theorem ni_pk111 : ∀ r ∈ ni_pr111, ni_Ok xs yX19_add cX19_add 4 (some .long) [] r.1 r.2 ∧ ni_MU r.2 := ni_row (ni_lloadn ni_dX19_add_0 rfl) ni_muLd <|
  ni_row (ni_okP (ni_ldc2 ni_dX19_add_1 ni_w2366)) (ni_muP (ni_eqPush fun _ => rfl)) <|
  ni_row (ni_okP (ni_lmul ni_dX19_add_4)) (ni_muP (ni_eqJ fun _ _ _ => rfl)) <|
  ni_row (ni_lloadn ni_dX19_add_5 rfl) ni_muLd <|
  ni_row (ni_okP (ni_ladd ni_dX19_add_6)) (ni_muP (ni_eqJ fun _ _ _ => rfl)) <|
  ni_row (ni_ret ni_dX19_add_7) ni_muR <|
  ni_row0
def ni_pr112 : List (Nat × ni_S) := [(0, ni_sLd 3 0 1),
  (1, ni_sLd 0 1 2),
  (2, ni_sV 135 1 18 5),
  (5, ni_sP (ni_gIf (fun x => decide (¬ x = 0)) 81 8)),
  (81, ni_sP (ni_gPush (.int 0) 82)),
  (82, ni_sR (some .int))]
theorem ni_pk112 : ∀ r ∈ ni_pr112, ni_Ok xs yX19_addFlow cX19_addFlow 6 (some .int) [] r.1 r.2 ∧ ni_MU r.2 := ni_row (ni_aloadn ni_dX19_addFlow_0 rfl) ni_muLd <|
  ni_row (ni_iloadn ni_dX19_addFlow_1 rfl) ni_muLd <|
  ni_row (ni_virt (y := 135) (T := TX19) ni_dX19_addFlow_2 (by decide) rfl rfl ni_w1600 ni_w1602 ni_w33 ni_w71 ni_w1603 ⟨by decide +kernel, by decide +kernel, by decide +kernel⟩ (by decide) rfl) (ni_muV (by decide)) <|
  ni_row (ni_okP (ni_if_ne ni_dX19_addFlow_5 (by decide))) (ni_muP ni_eqIf) <|
  ni_row (ni_okP (ni_iconst ni_dX19_addFlow_81 (by decide +kernel))) (ni_muP (ni_eqPush fun _ => rfl)) <|
  ni_row (ni_ret ni_dX19_addFlow_82) ni_muR <|
  ni_row0
def ni_pr113 : List (Nat × ni_S) := [(0, ni_sLd 3 0 1),
  (1, ni_sLd 0 1 2),
  (2, ni_sLd 0 2 3),
  (3, ni_sV 117 2 18 6),
  (6, ni_sP (ni_gIf (fun x => decide (¬ x = 0)) 85 9)),
  (85, ni_sP (ni_gPush (.int 0) 86)),
  (86, ni_sR (some .int))]
theorem ni_pk113 : ∀ r ∈ ni_pr113, ni_Ok xs yX19_addLink cX19_addLink 7 (some .int) [] r.1 r.2 ∧ ni_MU r.2 := ni_row (ni_aloadn ni_dX19_addLink_0 rfl) ni_muLd <|
  ni_row (ni_iloadn ni_dX19_addLink_1 rfl) ni_muLd <|
  ni_row (ni_iloadn ni_dX19_addLink_2 rfl) ni_muLd <|
  ni_row (ni_virt (y := 117) (T := TX19) ni_dX19_addLink_3 (by decide) rfl rfl ni_w1596 ni_w1598 ni_w32 ni_w71 ni_w1599 ⟨by decide +kernel, by decide +kernel, by decide +kernel⟩ (by decide) rfl) (ni_muV (by decide)) <|
  ni_row (ni_okP (ni_if_ne ni_dX19_addLink_6 (by decide))) (ni_muP ni_eqIf) <|
  ni_row (ni_okP (ni_iconst ni_dX19_addLink_85 (by decide +kernel))) (ni_muP (ni_eqPush fun _ => rfl)) <|
  ni_row (ni_ret ni_dX19_addLink_86) ni_muR <|
  ni_row0
def ni_pr114 : List (Nat × ni_S) := [(0, ni_sLd 3 0 1),
  (1, ni_sLd 0 1 2),
  (2, ni_sV 135 1 18 5),
  (5, ni_sP (ni_gIf (fun x => decide (¬ x = 0)) 64 8)),
  (64, ni_sP (ni_gPush (.int 0) 65)),
  (65, ni_sR (some .int))]
theorem ni_pk114 : ∀ r ∈ ni_pr114, ni_Ok xs yX19_addNetwork cX19_addNetwork 4 (some .int) [] r.1 r.2 ∧ ni_MU r.2 := ni_row (ni_aloadn ni_dX19_addNetwork_0 rfl) ni_muLd <|
  ni_row (ni_iloadn ni_dX19_addNetwork_1 rfl) ni_muLd <|
  ni_row (ni_virt (y := 135) (T := TX19) ni_dX19_addNetwork_2 (by decide) rfl rfl ni_w1600 ni_w1602 ni_w33 ni_w71 ni_w1603 ⟨by decide +kernel, by decide +kernel, by decide +kernel⟩ (by decide) rfl) (ni_muV (by decide)) <|
  ni_row (ni_okP (ni_if_ne ni_dX19_addNetwork_5 (by decide))) (ni_muP ni_eqIf) <|
  ni_row (ni_okP (ni_iconst ni_dX19_addNetwork_64 (by decide +kernel))) (ni_muP (ni_eqPush fun _ => rfl)) <|
  ni_row (ni_ret ni_dX19_addNetwork_65) ni_muR <|
  ni_row0
def ni_pr115 : List (Nat × ni_S) := [(0, ni_sLd 3 0 1),
  (1, ni_sLd 3 0 2),
  (2, ni_sGet 18 0 5),
  (5, ni_sGet 14 1 8),
  (8, ni_sP (ni_gPush (.int 8) 10)),
  (10, ni_sP (ni_gIc (fun x y => decide (¬ x = y)) 17 13)),
  (17, ni_sP (ni_gPush (.int 0) 18)),
  (18, ni_sP (ni_gPush (.int 1) 19)),
  (19, ni_sV 164 2 18 22),
  (22, ni_sP (ni_gIf (fun x => decide (x = 0)) 27 25)),
  (27, ni_sLd 3 0 28),
  (28, ni_sGet 18 0 31),
  (31, ni_sP (ni_gDup 32)),
  (32, ni_sGet 14 1 35),
  (35, ni_sP (ni_gPush (.int 1) 36)),
  (36, ni_sP (ni_gI (fun x y => x + y) 37)),
  (37, ni_sPut 14 1 (.int) 40),
  (40, ni_sLd 3 0 41),
  (41, ni_sGet 18 0 44),
  (44, ni_sGet 14 1 47),
  (47, ni_sP (ni_gPush (.int 1) 48)),
  (48, ni_sP (ni_gI (fun x y => x - y) 49)),
  (49, ni_sR (some .int))]
theorem ni_pk115 : ∀ r ∈ ni_pr115, ni_Ok xs yX19_addRouter cX19_addRouter 1 (some .int) [] r.1 r.2 ∧ ni_MU r.2 := ni_row (ni_aloadn ni_dX19_addRouter_0 rfl) ni_muLd <|
  ni_row (ni_aloadn ni_dX19_addRouter_1 rfl) ni_muLd <|
  ni_row (ni_get (T := TX19) ni_dX19_addRouter_2 (by decide) rfl (by decide) ni_uX19 ni_w1569) ni_muGet <|
  ni_row (ni_get (T := TX15) ni_dX19_addRouter_5 (by decide) rfl (by decide) ni_uX15 ni_w1476) ni_muGet <|
  ni_row (ni_okP (ni_bipush ni_dX19_addRouter_8 (by decide +kernel))) (ni_muP (ni_eqPush fun _ => rfl)) <|
  ni_row (ni_okP (ni_ic_ne ni_dX19_addRouter_10 (by decide))) (ni_muP ni_eqIc) <|
  ni_row (ni_okP (ni_iconst ni_dX19_addRouter_17 (by decide +kernel))) (ni_muP (ni_eqPush fun _ => rfl)) <|
  ni_row (ni_okP (ni_iconst ni_dX19_addRouter_18 (by decide +kernel))) (ni_muP (ni_eqPush fun _ => rfl)) <|
  ni_row (ni_virt (y := 164) (T := TX19) ni_dX19_addRouter_19 (by decide) rfl rfl ni_w1584 ni_w1586 ni_w30 ni_w71 ni_w1587 ⟨by decide +kernel, by decide +kernel, by decide +kernel⟩ (by decide) rfl) (ni_muV (by decide)) <|
  ni_row (ni_okP (ni_if_eq ni_dX19_addRouter_22 (by decide))) (ni_muP ni_eqIf) <|
  ni_row (ni_aloadn ni_dX19_addRouter_27 rfl) ni_muLd <|
  ni_row (ni_get (T := TX19) ni_dX19_addRouter_28 (by decide) rfl (by decide) ni_uX19 ni_w1569) ni_muGet <|
  ni_row (ni_okP (ni_dup ni_dX19_addRouter_31)) (ni_muP ni_eqDup) <|
  ni_row (ni_get (T := TX15) ni_dX19_addRouter_32 (by decide) rfl (by decide) ni_uX15 ni_w1476) ni_muGet <|
  ni_row (ni_okP (ni_iconst ni_dX19_addRouter_35 (by decide +kernel))) (ni_muP (ni_eqPush fun _ => rfl)) <|
  ni_row (ni_okP (ni_iadd ni_dX19_addRouter_36)) (ni_muP ni_eqI) <|
  ni_row (ni_putA (T := TX15) (ty0 := tyX15) (b := false) (Or.inl rfl) rfl ni_dX19_addRouter_37 (by decide) rfl (by decide) ni_uX15 tyX15_ok nmX15 ni_w1476) ni_muPut <|
  ni_row (ni_aloadn ni_dX19_addRouter_40 rfl) ni_muLd <|
  ni_row (ni_get (T := TX19) ni_dX19_addRouter_41 (by decide) rfl (by decide) ni_uX19 ni_w1569) ni_muGet <|
  ni_row (ni_get (T := TX15) ni_dX19_addRouter_44 (by decide) rfl (by decide) ni_uX15 ni_w1476) ni_muGet <|
  ni_row (ni_okP (ni_iconst ni_dX19_addRouter_47 (by decide +kernel))) (ni_muP (ni_eqPush fun _ => rfl)) <|
  ni_row (ni_okP (ni_isub ni_dX19_addRouter_48)) (ni_muP ni_eqI) <|
  ni_row (ni_ret ni_dX19_addRouter_49) ni_muR <|
  ni_row0
def ni_pr116 : List (Nat × ni_S) := [(0, ni_sLd 3 0 1),
  (1, ni_sLd 0 1 2),
  (2, ni_sV 135 1 18 5),
  (5, ni_sP (ni_gIf (fun x => decide (¬ x = 0)) 98 8)),
  (98, ni_sP (ni_gPush (.int 0) 99)),
  (99, ni_sR (some .int))]
theorem ni_pk116 : ∀ r ∈ ni_pr116, ni_Ok xs yX19_addStatic cX19_addStatic 5 (some .int) [] r.1 r.2 ∧ ni_MU r.2 := ni_row (ni_aloadn ni_dX19_addStatic_0 rfl) ni_muLd <|
  ni_row (ni_iloadn ni_dX19_addStatic_1 rfl) ni_muLd <|
  ni_row (ni_virt (y := 135) (T := TX19) ni_dX19_addStatic_2 (by decide) rfl rfl ni_w1600 ni_w1602 ni_w33 ni_w71 ni_w1603 ⟨by decide +kernel, by decide +kernel, by decide +kernel⟩ (by decide) rfl) (ni_muV (by decide)) <|
  ni_row (ni_okP (ni_if_ne ni_dX19_addStatic_5 (by decide))) (ni_muP ni_eqIf) <|
  ni_row (ni_okP (ni_iconst ni_dX19_addStatic_98 (by decide +kernel))) (ni_muP (ni_eqPush fun _ => rfl)) <|
  ni_row (ni_ret ni_dX19_addStatic_99) ni_muR <|
  ni_row0
def ni_pr117 : List (Nat × ni_S) := [(0, ni_sLd 3 0 1),
  (1, ni_sLd 0 1 2),
  (2, ni_sV 135 1 18 5),
  (5, ni_sP (ni_gIf (fun x => decide (¬ x = 0)) 38 8)),
  (38, ni_sP (ni_gPush (.int 1) 39)),
  (39, ni_sP (ni_gGo 43)),
  (43, ni_sR (some .boolean))]
theorem ni_pk117 : ∀ r ∈ ni_pr117, ni_Ok xs yX19_areNone cX19_areNone 3 (some .boolean) [] r.1 r.2 ∧ ni_MU r.2 := ni_row (ni_aloadn ni_dX19_areNone_0 rfl) ni_muLd <|
  ni_row (ni_iloadn ni_dX19_areNone_1 rfl) ni_muLd <|
  ni_row (ni_virt (y := 135) (T := TX19) ni_dX19_areNone_2 (by decide) rfl rfl ni_w1600 ni_w1602 ni_w33 ni_w71 ni_w1603 ⟨by decide +kernel, by decide +kernel, by decide +kernel⟩ (by decide) rfl) (ni_muV (by decide)) <|
  ni_row (ni_okP (ni_if_ne ni_dX19_areNone_5 (by decide))) (ni_muP ni_eqIf) <|
  ni_row (ni_okP (ni_iconst ni_dX19_areNone_38 (by decide +kernel))) (ni_muP (ni_eqPush fun _ => rfl)) <|
  ni_row (ni_okP (ni_goto ni_dX19_areNone_39 (by decide))) (ni_muP ni_eqGo) <|
  ni_row (ni_ret ni_dX19_areNone_43) ni_muR <|
  ni_row0
def ni_pr118 : List (Nat × ni_S) := [(0, ni_sLd 3 0 1),
  (1, ni_sLd 0 1 2),
  (2, ni_sLd 0 3 3),
  (3, ni_sV 132 2 18 6),
  (6, ni_sP (ni_gIf (fun x => decide (x = 0)) 13 9)),
  (9, ni_sP (ni_gPush (.int 0) 10)),
  (10, ni_sP (ni_gGo 24)),
  (24, ni_sR (some .int))]
theorem ni_pk118 : ∀ r ∈ ni_pr118, ni_Ok xs yX19_deficit cX19_deficit 4 (some .int) [] r.1 r.2 ∧ ni_MU r.2 := ni_row (ni_aloadn ni_dX19_deficit_0 rfl) ni_muLd <|
  ni_row (ni_iloadn ni_dX19_deficit_1 rfl) ni_muLd <|
  ni_row (ni_iloadn ni_dX19_deficit_2 rfl) ni_muLd <|
  ni_row (ni_virt (y := 132) (T := TX19) ni_dX19_deficit_3 (by decide) rfl rfl ni_w2244 ni_w2246 ni_w57 ni_w71 ni_w2247 ⟨by decide +kernel, by decide +kernel, by decide +kernel⟩ (by decide) rfl) (ni_muV (by decide)) <|
  ni_row (ni_okP (ni_if_eq ni_dX19_deficit_6 (by decide))) (ni_muP ni_eqIf) <|
  ni_row (ni_okP (ni_iconst ni_dX19_deficit_9 (by decide +kernel))) (ni_muP (ni_eqPush fun _ => rfl)) <|
  ni_row (ni_okP (ni_goto ni_dX19_deficit_10 (by decide))) (ni_muP ni_eqGo) <|
  ni_row (ni_ret ni_dX19_deficit_24) ni_muR <|
  ni_row0
def ni_pr119 : List (Nat × ni_S) := [(0, ni_sLd 3 0 1),
  (1, ni_sLd 0 1 2),
  (2, ni_sV 133 1 18 5),
  (5, ni_sP (ni_gIf (fun x => decide (x = 0)) 12 8)),
  (8, ni_sP (ni_gPush (.int 0) 9)),
  (9, ni_sP (ni_gGo 29)),
  (29, ni_sR (some .int))]
theorem ni_pk119 : ∀ r ∈ ni_pr119, ni_Ok xs yX19_delivered cX19_delivered 2 (some .int) [] r.1 r.2 ∧ ni_MU r.2 := ni_row (ni_aloadn ni_dX19_delivered_0 rfl) ni_muLd <|
  ni_row (ni_iloadn ni_dX19_delivered_1 rfl) ni_muLd <|
  ni_row (ni_virt (y := 133) (T := TX19) ni_dX19_delivered_2 (by decide) rfl rfl ni_w1963 ni_w1965 ni_w43 ni_w71 ni_w1966 ⟨by decide +kernel, by decide +kernel, by decide +kernel⟩ (by decide) rfl) (ni_muV (by decide)) <|
  ni_row (ni_okP (ni_if_eq ni_dX19_delivered_5 (by decide))) (ni_muP ni_eqIf) <|
  ni_row (ni_okP (ni_iconst ni_dX19_delivered_8 (by decide +kernel))) (ni_muP (ni_eqPush fun _ => rfl)) <|
  ni_row (ni_okP (ni_goto ni_dX19_delivered_9 (by decide))) (ni_muP ni_eqGo) <|
  ni_row (ni_ret ni_dX19_delivered_29) ni_muR <|
  ni_row0
def ni_pr120 : List (Nat × ni_S) := [(0, ni_sLd 3 0 1),
  (1, ni_sLd 0 1 2),
  (2, ni_sV 133 1 18 5),
  (5, ni_sP (ni_gIf (fun x => decide (¬ x = 0)) 31 8)),
  (31, ni_sP (ni_gPush (.int 0) 32)),
  (32, ni_sR (some .int))]
theorem ni_pk120 : ∀ r ∈ ni_pr120, ni_Ok xs yX19_deliveredIn cX19_deliveredIn 5 (some .int) [] r.1 r.2 ∧ ni_MU r.2 := ni_row (ni_aloadn ni_dX19_deliveredIn_0 rfl) ni_muLd <|
  ni_row (ni_iloadn ni_dX19_deliveredIn_1 rfl) ni_muLd <|
  ni_row (ni_virt (y := 133) (T := TX19) ni_dX19_deliveredIn_2 (by decide) rfl rfl ni_w1963 ni_w1965 ni_w43 ni_w71 ni_w1966 ⟨by decide +kernel, by decide +kernel, by decide +kernel⟩ (by decide) rfl) (ni_muV (by decide)) <|
  ni_row (ni_okP (ni_if_ne ni_dX19_deliveredIn_5 (by decide))) (ni_muP ni_eqIf) <|
  ni_row (ni_okP (ni_iconst ni_dX19_deliveredIn_31 (by decide +kernel))) (ni_muP (ni_eqPush fun _ => rfl)) <|
  ni_row (ni_ret ni_dX19_deliveredIn_32) ni_muR <|
  ni_row0
def ni_pr121 : List (Nat × ni_S) := [(0, ni_sLd 3 0 1),
  (1, ni_sP (ni_gPush (.int 0) 2)),
  (2, ni_sPut 18 1 (.int) 5),
  (5, ni_sP (ni_gPush (.long (58026)) 8)),
  (8, ni_sLd 3 0 9),
  (9, ni_sGet 18 0 12),
  (12, ni_sGet 14 0 15),
  (15, ni_sP (ni_gU (fun x => .long x.toInt64) 16)),
  (16, ni_sC 111 2 19),
  (19, ni_sLd 3 0 20),
  (20, ni_sGet 18 0 23),
  (23, ni_sGet 14 1 26),
  (26, ni_sP (ni_gU (fun x => .long x.toInt64) 27)),
  (27, ni_sC 111 2 30),
  (30, ni_sLd 3 0 31),
  (31, ni_sGet 18 0 34),
  (34, ni_sGet 14 2 37),
  (37, ni_sP (ni_gU (fun x => .long x.toInt64) 38)),
  (38, ni_sC 111 2 41),
  (41, ni_sLd 3 0 42),
  (42, ni_sGet 18 0 45),
  (45, ni_sGet 14 10 48),
  (48, ni_sP (ni_gU (fun x => .long x.toInt64) 49)),
  (49, ni_sC 111 2 52),
  (52, ni_sLd 3 0 53),
  (53, ni_sGet 18 0 56),
  (56, ni_sGet 14 14 59),
  (59, ni_sP (ni_gU (fun x => .long x.toInt64) 60)),
  (60, ni_sC 111 2 63),
  (63, ni_sLd 3 0 64),
  (64, ni_sGet 18 0 67),
  (67, ni_sGet 14 19 70),
  (70, ni_sV 187 0 0 73),
  (73, ni_sP (ni_gU (fun x => .long x.toInt64) 74)),
  (74, ni_sC 111 2 77),
  (77, ni_sLd 3 0 78),
  (78, ni_sGet 18 0 81),
  (81, ni_sV 175 0 14 84),
  (84, ni_sP (ni_gU (fun x => .long x.toInt64) 85)),
  (85, ni_sC 111 2 88),
  (88, ni_sSt 1 1 89),
  (89, ni_sP (ni_gPush (.int 0) 90)),
  (90, ni_sSt 0 3 91),
  (91, ni_sLd 0 3 92),
  (92, ni_sLd 3 0 93),
  (93, ni_sGet 18 0 96),
  (96, ni_sGet 14 1 99),
  (99, ni_sP (ni_gIc (fun x y => decide (y ≤ x)) 244 102)),
  (244, ni_sP (ni_gPush (.int 0) 245)),
  (245, ni_sSt 0 3 246),
  (246, ni_sLd 0 3 247),
  (247, ni_sLd 3 0 248),
  (248, ni_sGet 18 0 251),
  (251, ni_sGet 14 2 254),
  (254, ni_sP (ni_gIc (fun x y => decide (y ≤ x)) 390 257)),
  (390, ni_sP (ni_gPush (.int 0) 391)),
  (391, ni_sSt 0 3 392),
  (392, ni_sLd 0 3 393),
  (393, ni_sLd 3 0 394),
  (394, ni_sGet 18 0 397),
  (397, ni_sGet 14 19 400),
  (400, ni_sV 187 0 0 403),
  (403, ni_sP (ni_gIc (fun x y => decide (y ≤ x)) 568 406)),
  (568, ni_sLd 1 1 569),
  (569, ni_sR (some .long))]
theorem ni_pk121 : ∀ r ∈ ni_pr121, ni_Ok xs yX19_digest cX19_digest 7 (some .long) [] r.1 r.2 ∧ ni_MU r.2 := ni_row (ni_aloadn ni_dX19_digest_0 rfl) ni_muLd <|
  ni_row (ni_okP (ni_iconst ni_dX19_digest_1 (by decide +kernel))) (ni_muP (ni_eqPush fun _ => rfl)) <|
  ni_row (ni_putA (T := TX19) (ty0 := tyX19) (b := false) (Or.inl rfl) rfl ni_dX19_digest_2 (by decide) rfl (by decide) ni_uX19 tyX19_ok nmX19 ni_w1570) ni_muPut <|
  ni_row (ni_okP (ni_ldc2 ni_dX19_digest_5 ni_w2362)) (ni_muP (ni_eqPush fun _ => rfl)) <|
  ni_row (ni_aloadn ni_dX19_digest_8 rfl) ni_muLd <|
  ni_row (ni_get (T := TX19) ni_dX19_digest_9 (by decide) rfl (by decide) ni_uX19 ni_w1569) ni_muGet <|
  ni_row (ni_get (T := TX15) ni_dX19_digest_12 (by decide) rfl (by decide) ni_uX15 ni_w1474) ni_muGet <|
  ni_row (ni_okP (ni_i2l ni_dX19_digest_15)) (ni_muP (ni_eqU fun _ _ => rfl)) <|
  ni_row (ni_stat (y := 111) ni_dX19_digest_16 ni_w2363 ni_w2364 ni_w71 ni_w2365 ⟨by decide +kernel, by decide +kernel, by decide +kernel⟩ (by decide) rfl) ni_muC <|
  ni_row (ni_aloadn ni_dX19_digest_19 rfl) ni_muLd <|
  ni_row (ni_get (T := TX19) ni_dX19_digest_20 (by decide) rfl (by decide) ni_uX19 ni_w1569) ni_muGet <|
  ni_row (ni_get (T := TX15) ni_dX19_digest_23 (by decide) rfl (by decide) ni_uX15 ni_w1476) ni_muGet <|
  ni_row (ni_okP (ni_i2l ni_dX19_digest_26)) (ni_muP (ni_eqU fun _ _ => rfl)) <|
  ni_row (ni_stat (y := 111) ni_dX19_digest_27 ni_w2363 ni_w2364 ni_w71 ni_w2365 ⟨by decide +kernel, by decide +kernel, by decide +kernel⟩ (by decide) rfl) ni_muC <|
  ni_row (ni_aloadn ni_dX19_digest_30 rfl) ni_muLd <|
  ni_row (ni_get (T := TX19) ni_dX19_digest_31 (by decide) rfl (by decide) ni_uX19 ni_w1569) ni_muGet <|
  ni_row (ni_get (T := TX15) ni_dX19_digest_34 (by decide) rfl (by decide) ni_uX15 ni_w1478) ni_muGet <|
  ni_row (ni_okP (ni_i2l ni_dX19_digest_37)) (ni_muP (ni_eqU fun _ _ => rfl)) <|
  ni_row (ni_stat (y := 111) ni_dX19_digest_38 ni_w2363 ni_w2364 ni_w71 ni_w2365 ⟨by decide +kernel, by decide +kernel, by decide +kernel⟩ (by decide) rfl) ni_muC <|
  ni_row (ni_aloadn ni_dX19_digest_41 rfl) ni_muLd <|
  ni_row (ni_get (T := TX19) ni_dX19_digest_42 (by decide) rfl (by decide) ni_uX19 ni_w1569) ni_muGet <|
  ni_row (ni_get (T := TX15) ni_dX19_digest_45 (by decide) rfl (by decide) ni_uX15 ni_w1494) ni_muGet <|
  ni_row (ni_okP (ni_i2l ni_dX19_digest_48)) (ni_muP (ni_eqU fun _ _ => rfl)) <|
  ni_row (ni_stat (y := 111) ni_dX19_digest_49 ni_w2363 ni_w2364 ni_w71 ni_w2365 ⟨by decide +kernel, by decide +kernel, by decide +kernel⟩ (by decide) rfl) ni_muC <|
  ni_row (ni_aloadn ni_dX19_digest_52 rfl) ni_muLd <|
  ni_row (ni_get (T := TX19) ni_dX19_digest_53 (by decide) rfl (by decide) ni_uX19 ni_w1569) ni_muGet <|
  ni_row (ni_get (T := TX15) ni_dX19_digest_56 (by decide) rfl (by decide) ni_uX15 ni_w1502) ni_muGet <|
  ni_row (ni_okP (ni_i2l ni_dX19_digest_59)) (ni_muP (ni_eqU fun _ _ => rfl)) <|
  ni_row (ni_stat (y := 111) ni_dX19_digest_60 ni_w2363 ni_w2364 ni_w71 ni_w2365 ⟨by decide +kernel, by decide +kernel, by decide +kernel⟩ (by decide) rfl) ni_muC <|
  ni_row (ni_aloadn ni_dX19_digest_63 rfl) ni_muLd <|
  ni_row (ni_get (T := TX19) ni_dX19_digest_64 (by decide) rfl (by decide) ni_uX19 ni_w1569) ni_muGet <|
  ni_row (ni_get (T := TX15) ni_dX19_digest_67 (by decide) rfl (by decide) ni_uX15 ni_w1512) ni_muGet <|
  ni_row (ni_virt (y := 187) (T := TJx4a65c) ni_dX19_digest_70 (by decide) rfl rfl ni_w1841 ni_w1770 ni_w1771 ni_w75 ni_w1772 ⟨by decide +kernel, by decide +kernel, by decide +kernel⟩ (by decide) rfl) (ni_muV (by decide)) <|
  ni_row (ni_okP (ni_i2l ni_dX19_digest_73)) (ni_muP (ni_eqU fun _ _ => rfl)) <|
  ni_row (ni_stat (y := 111) ni_dX19_digest_74 ni_w2363 ni_w2364 ni_w71 ni_w2365 ⟨by decide +kernel, by decide +kernel, by decide +kernel⟩ (by decide) rfl) ni_muC <|
  ni_row (ni_aloadn ni_dX19_digest_77 rfl) ni_muLd <|
  ni_row (ni_get (T := TX19) ni_dX19_digest_78 (by decide) rfl (by decide) ni_uX19 ni_w1569) ni_muGet <|
  ni_row (ni_virt (y := 175) (T := TX15) ni_dX19_digest_81 (by decide) rfl rfl ni_w2156 ni_w2157 ni_w2158 ni_w72 ni_w2159 ⟨by decide +kernel, by decide +kernel, by decide +kernel⟩ (by decide) rfl) (ni_muV (by decide)) <|
  ni_row (ni_okP (ni_i2l ni_dX19_digest_84)) (ni_muP (ni_eqU fun _ _ => rfl)) <|
  ni_row (ni_stat (y := 111) ni_dX19_digest_85 ni_w2363 ni_w2364 ni_w71 ni_w2365 ⟨by decide +kernel, by decide +kernel, by decide +kernel⟩ (by decide) rfl) ni_muC <|
  ni_row (ni_lstoren ni_dX19_digest_88 rfl (by decide)) ni_muSt <|
  ni_row (ni_okP (ni_iconst ni_dX19_digest_89 (by decide +kernel))) (ni_muP (ni_eqPush fun _ => rfl)) <|
  ni_row (ni_istoren ni_dX19_digest_90 rfl (by decide)) ni_muSt <|
  ni_row (ni_iloadn ni_dX19_digest_91 rfl) ni_muLd <|
  ni_row (ni_aloadn ni_dX19_digest_92 rfl) ni_muLd <|
  ni_row (ni_get (T := TX19) ni_dX19_digest_93 (by decide) rfl (by decide) ni_uX19 ni_w1569) ni_muGet <|
  ni_row (ni_get (T := TX15) ni_dX19_digest_96 (by decide) rfl (by decide) ni_uX15 ni_w1476) ni_muGet <|
  ni_row (ni_okP (ni_ic_ge ni_dX19_digest_99 (by decide))) (ni_muP ni_eqIc) <|
  ni_row (ni_okP (ni_iconst ni_dX19_digest_244 (by decide +kernel))) (ni_muP (ni_eqPush fun _ => rfl)) <|
  ni_row (ni_istoren ni_dX19_digest_245 rfl (by decide)) ni_muSt <|
  ni_row (ni_iloadn ni_dX19_digest_246 rfl) ni_muLd <|
  ni_row (ni_aloadn ni_dX19_digest_247 rfl) ni_muLd <|
  ni_row (ni_get (T := TX19) ni_dX19_digest_248 (by decide) rfl (by decide) ni_uX19 ni_w1569) ni_muGet <|
  ni_row (ni_get (T := TX15) ni_dX19_digest_251 (by decide) rfl (by decide) ni_uX15 ni_w1478) ni_muGet <|
  ni_row (ni_okP (ni_ic_ge ni_dX19_digest_254 (by decide))) (ni_muP ni_eqIc) <|
  ni_row (ni_okP (ni_iconst ni_dX19_digest_390 (by decide +kernel))) (ni_muP (ni_eqPush fun _ => rfl)) <|
  ni_row (ni_istoren ni_dX19_digest_391 rfl (by decide)) ni_muSt <|
  ni_row (ni_iloadn ni_dX19_digest_392 rfl) ni_muLd <|
  ni_row (ni_aloadn ni_dX19_digest_393 rfl) ni_muLd <|
  ni_row (ni_get (T := TX19) ni_dX19_digest_394 (by decide) rfl (by decide) ni_uX19 ni_w1569) ni_muGet <|
  ni_row (ni_get (T := TX15) ni_dX19_digest_397 (by decide) rfl (by decide) ni_uX15 ni_w1512) ni_muGet <|
  ni_row (ni_virt (y := 187) (T := TJx4a65c) ni_dX19_digest_400 (by decide) rfl rfl ni_w1841 ni_w1770 ni_w1771 ni_w75 ni_w1772 ⟨by decide +kernel, by decide +kernel, by decide +kernel⟩ (by decide) rfl) (ni_muV (by decide)) <|
  ni_row (ni_okP (ni_ic_ge ni_dX19_digest_403 (by decide))) (ni_muP ni_eqIc) <|
  ni_row (ni_lloadn ni_dX19_digest_568 rfl) ni_muLd <|
  ni_row (ni_ret ni_dX19_digest_569) ni_muR <|
  ni_row0
def ni_pr122 : List (Nat × ni_S) := [(0, ni_sLd 3 0 1),
  (1, ni_sLd 0 1 2),
  (2, ni_sLd 0 2 3),
  (3, ni_sV 117 2 18 6),
  (6, ni_sP (ni_gIf (fun x => decide (x = 0)) 13 9)),
  (9, ni_sP (ni_gPush (.int 0) 10)),
  (10, ni_sP (ni_gGo 27)),
  (27, ni_sR (some .int))]
theorem ni_pk122 : ∀ r ∈ ni_pr122, ni_Ok xs yX19_distance cX19_distance 3 (some .int) [] r.1 r.2 ∧ ni_MU r.2 := ni_row (ni_aloadn ni_dX19_distance_0 rfl) ni_muLd <|
  ni_row (ni_iloadn ni_dX19_distance_1 rfl) ni_muLd <|
  ni_row (ni_iloadn ni_dX19_distance_2 rfl) ni_muLd <|
  ni_row (ni_virt (y := 117) (T := TX19) ni_dX19_distance_3 (by decide) rfl rfl ni_w1596 ni_w1598 ni_w32 ni_w71 ni_w1599 ⟨by decide +kernel, by decide +kernel, by decide +kernel⟩ (by decide) rfl) (ni_muV (by decide)) <|
  ni_row (ni_okP (ni_if_eq ni_dX19_distance_6 (by decide))) (ni_muP ni_eqIf) <|
  ni_row (ni_okP (ni_iconst ni_dX19_distance_9 (by decide +kernel))) (ni_muP (ni_eqPush fun _ => rfl)) <|
  ni_row (ni_okP (ni_goto ni_dX19_distance_10 (by decide))) (ni_muP ni_eqGo) <|
  ni_row (ni_ret ni_dX19_distance_27) ni_muR <|
  ni_row0
def ni_pr123 : List (Nat × ni_S) := [(0, ni_sLd 3 0 1),
  (1, ni_sLd 0 1 2),
  (2, ni_sP (ni_gPush (.int 0) 3)),
  (3, ni_sLd 3 0 4),
  (4, ni_sGet 18 0 7),
  (7, ni_sGet 14 10 10),
  (10, ni_sP (ni_gPush (.int 1) 11)),
  (11, ni_sP (ni_gI (fun x y => x - y) 12)),
  (12, ni_sC 130 3 15),
  (15, ni_sP (ni_gIf (fun x => decide (¬ x = 0)) 22 18)),
  (18, ni_sP (ni_gPush (.int 1) 19)),
  (19, ni_sP (ni_gGo 23)),
  (23, ni_sP (ni_gPush (.int 1) 24)),
  (24, ni_sV 164 2 18 27),
  (27, ni_sP (ni_gIf (fun x => decide (x = 0)) 32 30)),
  (30, ni_sP (ni_gPush (.int 0) 31)),
  (31, ni_sR (some .int))]
theorem ni_pk123 : ∀ r ∈ ni_pr123, ni_Ok xs yX19_dropNetwork cX19_dropNetwork 3 (some .int) [] r.1 r.2 ∧ ni_MU r.2 := ni_row (ni_aloadn ni_dX19_dropNetwork_0 rfl) ni_muLd <|
  ni_row (ni_iloadn ni_dX19_dropNetwork_1 rfl) ni_muLd <|
  ni_row (ni_okP (ni_iconst ni_dX19_dropNetwork_2 (by decide +kernel))) (ni_muP (ni_eqPush fun _ => rfl)) <|
  ni_row (ni_aloadn ni_dX19_dropNetwork_3 rfl) ni_muLd <|
  ni_row (ni_get (T := TX19) ni_dX19_dropNetwork_4 (by decide) rfl (by decide) ni_uX19 ni_w1569) ni_muGet <|
  ni_row (ni_get (T := TX15) ni_dX19_dropNetwork_7 (by decide) rfl (by decide) ni_uX15 ni_w1494) ni_muGet <|
  ni_row (ni_okP (ni_iconst ni_dX19_dropNetwork_10 (by decide +kernel))) (ni_muP (ni_eqPush fun _ => rfl)) <|
  ni_row (ni_okP (ni_isub ni_dX19_dropNetwork_11)) (ni_muP ni_eqI) <|
  ni_row (ni_stat (y := 130) ni_dX19_dropNetwork_12 ni_w1604 ni_w1605 ni_w71 ni_w1606 ⟨by decide +kernel, by decide +kernel, by decide +kernel⟩ (by decide) rfl) ni_muC <|
  ni_row (ni_okP (ni_if_ne ni_dX19_dropNetwork_15 (by decide))) (ni_muP ni_eqIf) <|
  ni_row (ni_okP (ni_iconst ni_dX19_dropNetwork_18 (by decide +kernel))) (ni_muP (ni_eqPush fun _ => rfl)) <|
  ni_row (ni_okP (ni_goto ni_dX19_dropNetwork_19 (by decide))) (ni_muP ni_eqGo) <|
  ni_row (ni_okP (ni_iconst ni_dX19_dropNetwork_23 (by decide +kernel))) (ni_muP (ni_eqPush fun _ => rfl)) <|
  ni_row (ni_virt (y := 164) (T := TX19) ni_dX19_dropNetwork_24 (by decide) rfl rfl ni_w1584 ni_w1586 ni_w30 ni_w71 ni_w1587 ⟨by decide +kernel, by decide +kernel, by decide +kernel⟩ (by decide) rfl) (ni_muV (by decide)) <|
  ni_row (ni_okP (ni_if_eq ni_dX19_dropNetwork_27 (by decide))) (ni_muP ni_eqIf) <|
  ni_row (ni_okP (ni_iconst ni_dX19_dropNetwork_30 (by decide +kernel))) (ni_muP (ni_eqPush fun _ => rfl)) <|
  ni_row (ni_ret ni_dX19_dropNetwork_31) ni_muR <|
  ni_row0
def ni_pr124 : List (Nat × ni_S) := [(0, ni_sLd 3 0 1),
  (1, ni_sLd 0 1 2),
  (2, ni_sP (ni_gPush (.int 0) 3)),
  (3, ni_sLd 3 0 4),
  (4, ni_sGet 18 0 7),
  (7, ni_sGet 14 14 10),
  (10, ni_sP (ni_gPush (.int 1) 11)),
  (11, ni_sP (ni_gI (fun x y => x - y) 12)),
  (12, ni_sC 130 3 15),
  (15, ni_sP (ni_gIf (fun x => decide (¬ x = 0)) 22 18)),
  (18, ni_sP (ni_gPush (.int 1) 19)),
  (19, ni_sP (ni_gGo 23)),
  (23, ni_sP (ni_gPush (.int 1) 24)),
  (24, ni_sV 164 2 18 27),
  (27, ni_sP (ni_gIf (fun x => decide (x = 0)) 32 30)),
  (30, ni_sP (ni_gPush (.int 0) 31)),
  (31, ni_sR (some .int))]
theorem ni_pk124 : ∀ r ∈ ni_pr124, ni_Ok xs yX19_dropStatic cX19_dropStatic 2 (some .int) [] r.1 r.2 ∧ ni_MU r.2 := ni_row (ni_aloadn ni_dX19_dropStatic_0 rfl) ni_muLd <|
  ni_row (ni_iloadn ni_dX19_dropStatic_1 rfl) ni_muLd <|
  ni_row (ni_okP (ni_iconst ni_dX19_dropStatic_2 (by decide +kernel))) (ni_muP (ni_eqPush fun _ => rfl)) <|
  ni_row (ni_aloadn ni_dX19_dropStatic_3 rfl) ni_muLd <|
  ni_row (ni_get (T := TX19) ni_dX19_dropStatic_4 (by decide) rfl (by decide) ni_uX19 ni_w1569) ni_muGet <|
  ni_row (ni_get (T := TX15) ni_dX19_dropStatic_7 (by decide) rfl (by decide) ni_uX15 ni_w1502) ni_muGet <|
  ni_row (ni_okP (ni_iconst ni_dX19_dropStatic_10 (by decide +kernel))) (ni_muP (ni_eqPush fun _ => rfl)) <|
  ni_row (ni_okP (ni_isub ni_dX19_dropStatic_11)) (ni_muP ni_eqI) <|
  ni_row (ni_stat (y := 130) ni_dX19_dropStatic_12 ni_w1604 ni_w1605 ni_w71 ni_w1606 ⟨by decide +kernel, by decide +kernel, by decide +kernel⟩ (by decide) rfl) ni_muC <|
  ni_row (ni_okP (ni_if_ne ni_dX19_dropStatic_15 (by decide))) (ni_muP ni_eqIf) <|
  ni_row (ni_okP (ni_iconst ni_dX19_dropStatic_18 (by decide +kernel))) (ni_muP (ni_eqPush fun _ => rfl)) <|
  ni_row (ni_okP (ni_goto ni_dX19_dropStatic_19 (by decide))) (ni_muP ni_eqGo) <|
  ni_row (ni_okP (ni_iconst ni_dX19_dropStatic_23 (by decide +kernel))) (ni_muP (ni_eqPush fun _ => rfl)) <|
  ni_row (ni_virt (y := 164) (T := TX19) ni_dX19_dropStatic_24 (by decide) rfl rfl ni_w1584 ni_w1586 ni_w30 ni_w71 ni_w1587 ⟨by decide +kernel, by decide +kernel, by decide +kernel⟩ (by decide) rfl) (ni_muV (by decide)) <|
  ni_row (ni_okP (ni_if_eq ni_dX19_dropStatic_27 (by decide))) (ni_muP ni_eqIf) <|
  ni_row (ni_okP (ni_iconst ni_dX19_dropStatic_30 (by decide +kernel))) (ni_muP (ni_eqPush fun _ => rfl)) <|
  ni_row (ni_ret ni_dX19_dropStatic_31) ni_muR <|
  ni_row0
def ni_pr125 : List (Nat × ni_S) := [(0, ni_sLd 3 0 1),
  (1, ni_sLd 0 1 2),
  (2, ni_sV 133 1 18 5),
  (5, ni_sP (ni_gIf (fun x => decide (¬ x = 0)) 31 8)),
  (31, ni_sP (ni_gPush (.int 0) 32)),
  (32, ni_sP (ni_gGo 54)),
  (54, ni_sR (some .int))]
theorem ni_pk125 : ∀ r ∈ ni_pr125, ni_Ok xs yX19_dropped cX19_dropped 3 (some .int) [] r.1 r.2 ∧ ni_MU r.2 := ni_row (ni_aloadn ni_dX19_dropped_0 rfl) ni_muLd <|
  ni_row (ni_iloadn ni_dX19_dropped_1 rfl) ni_muLd <|
  ni_row (ni_virt (y := 133) (T := TX19) ni_dX19_dropped_2 (by decide) rfl rfl ni_w1963 ni_w1965 ni_w43 ni_w71 ni_w1966 ⟨by decide +kernel, by decide +kernel, by decide +kernel⟩ (by decide) rfl) (ni_muV (by decide)) <|
  ni_row (ni_okP (ni_if_ne ni_dX19_dropped_5 (by decide))) (ni_muP ni_eqIf) <|
  ni_row (ni_okP (ni_iconst ni_dX19_dropped_31 (by decide +kernel))) (ni_muP (ni_eqPush fun _ => rfl)) <|
  ni_row (ni_okP (ni_goto ni_dX19_dropped_32 (by decide))) (ni_muP ni_eqGo) <|
  ni_row (ni_ret ni_dX19_dropped_54) ni_muR <|
  ni_row0
def ni_pr126 : List (Nat × ni_S) := [(0, ni_sLd 3 0 1),
  (1, ni_sLd 0 1 2),
  (2, ni_sV 135 1 18 5),
  (5, ni_sP (ni_gIf (fun x => decide (x = 0)) 12 8)),
  (8, ni_sP (ni_gPush (.int 0) 9)),
  (9, ni_sP (ni_gGo 29)),
  (29, ni_sR (some .int))]
theorem ni_pk126 : ∀ r ∈ ni_pr126, ni_Ok xs yX19_entries cX19_entries 2 (some .int) [] r.1 r.2 ∧ ni_MU r.2 := ni_row (ni_aloadn ni_dX19_entries_0 rfl) ni_muLd <|
  ni_row (ni_iloadn ni_dX19_entries_1 rfl) ni_muLd <|
  ni_row (ni_virt (y := 135) (T := TX19) ni_dX19_entries_2 (by decide) rfl rfl ni_w1600 ni_w1602 ni_w33 ni_w71 ni_w1603 ⟨by decide +kernel, by decide +kernel, by decide +kernel⟩ (by decide) rfl) (ni_muV (by decide)) <|
  ni_row (ni_okP (ni_if_eq ni_dX19_entries_5 (by decide))) (ni_muP ni_eqIf) <|
  ni_row (ni_okP (ni_iconst ni_dX19_entries_8 (by decide +kernel))) (ni_muP (ni_eqPush fun _ => rfl)) <|
  ni_row (ni_okP (ni_goto ni_dX19_entries_9 (by decide))) (ni_muP ni_eqGo) <|
  ni_row (ni_ret ni_dX19_entries_29) ni_muR <|
  ni_row0
end NIP
