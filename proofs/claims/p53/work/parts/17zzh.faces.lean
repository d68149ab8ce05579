/-! THE FACE'S CALLS THAT WRITE LETTERS -/
section NXF
variable {xs : List Int32} {St : Nat → Option ni_C} {M M' M1 : ni_H} {ad rw cp rw1 cp1 : Nat → Nat} {A A' A2 : Nat → Nat → Int} {own : Nat → Int} {m n1 : Nat}
theorem nx_QK {e : Int} {k : Nat} (hK : ni_Kp M ad rw cp M1 rw1 cp1) (h : nx_Q St own A e k M1 ad rw1 cp1 M') : nx_Q St own A e k M ad rw cp M' := by
  have := nx_QT (k := 0) nq_fr1r (fun _ _ _ => rfl) nx_subR (fun x => ⟨Int.le_refl _, by omega⟩) (nx_KpM (nx_Kp0 hK) (by omega) (by omega)) h
  rw [Nat.zero_add] at this
  exact this
theorem nx_KpL (hK : ni_Kp M ad rw cp M1 rw1 cp1) {b : Nat} (h : M.1.length + b ≤ 900000 + ni_gz cp) : M1.1.length + b ≤ 900000 + ni_gz cp1 := by
  have := hK.2.2.1
  omega
theorem mt_newLink {e a b c d x : Int} {l : Nat} (hR : ni_Rep St M ad rw cp A (ni_live A)) (hA2 : A2 = ni_u2 (ni_u2 (ni_u2 (ni_u2 (ni_u2 (ni_u2 A 0 2 ((l : Int) + 1)) (48 + 17 * l) 0 a) (48 + 17 * l) 1 b) (48 + 17 * l) 2 c) (48 + 17 * l) 3 d) (48 + 17 * l) 4 x) (h : nq_Inv St own (ni_u2 A2 (48 + 17 * l) 5 1) e) (hCO : nq_CO (ni_u2 A2 (48 + 17 * l) 5 1)) (hl : l < 14) (hlc : A 0 2 = l) (hown : ∀ x, own x ≤ 800000) (hb : M.1.length + 57350 ≤ 900000 + ni_gz cp) : wp_C xs 8 85 [.ref (ad 0), ni_z a, ni_z b, ni_z c, ni_z d, ni_z x] M (fun u M' => (∃ x : Int, u = some (ni_z x)) ∧ nx_Q St own (ni_u2 A2 (48 + 17 * l) 5 1) e 2 M ad rw cp M') := by
  have hx : ni_Sx St M ad rw cp M rw cp A (ni_live A) := ⟨hR, ni_KpR⟩
  have hli := ni_liS l hl
  have us0 : ni_us 0 = true := by decide +kernel
  have kd0 : ni_kd 0 = 4 := by decide +kernel
  refine wp_enter (Nat.le_of_ble_eq_true rfl) (ls := [.ref (ad 0), ni_z a, ni_z b, ni_z c, ni_z d, ni_z x, ni_J, ni_J]) rfl ?_
  refine wp_Ld rfl rfl rfl ?_
  refine ws_Get (v := ni_z (A 0 2)) rfl hx us0 kd0 rfl rfl rfl ?_
  rw [hlc]
  refine wp_St (ls' := [.ref (ad 0), ni_z a, ni_z b, ni_z c, ni_z d, ni_z x, ni_z (l : Int), ni_J]) rfl rfl rfl ?_
  refine wp_Ld rfl rfl rfl ?_
  refine wp_P (g := ni_gDup 8) rfl rfl ?_
  refine ws_Get (v := ni_z (A 0 2)) rfl hx us0 kd0 rfl rfl rfl ?_
  rw [hlc]
  refine wp_P (g := ni_gPush (.int 1) 12) rfl (wp_push (z := 1) rfl) ?_
  refine wp_P rfl wp_add ?_
  refine ws_Put (q := 16) (y := 85) (pc := 13) rfl hx us0 kd0 rfl rfl (fun _ => rfl) rfl (fun z _ => by cases z) fun M1 hx1 => ?_
  have c1 := ni_clU (x := (l : Int) + 1) (ni_clR A) us0 kd0 (j := 2) rfl
  refine wp_Ld rfl rfl rfl ?_
  refine ws_Get (v := .ref (ad 2)) rfl hx1 us0 kd0 rfl rfl rfl ?_
  refine wp_Ld rfl rfl rfl ?_
  refine ws_Qld (q := 23) (y := 85) (pc := 22) (s := 2) (n := 14) (t := 102) (j := l) (v := .ref (ad (48 + 17 * l))) rfl hx1 (show ni_us 2 = true by decide +kernel) (show ni_kd 2 = 102 by decide +kernel) (show ni_ln 2 = 14 by decide +kernel) ⟨by decide, rfl⟩ rfl (by omega) (by decide) (ni_LR hx1 (show ni_us 2 = true by decide +kernel) (by decide +kernel) (by omega)) rfl rfl ?_
  refine wp_St (ls' := [.ref (ad 0), ni_z a, ni_z b, ni_z c, ni_z d, ni_z x, ni_z (l : Int), .ref (ad (48 + 17 * l))]) rfl rfl rfl ?_
  refine wp_Ld rfl rfl rfl ?_
  refine wp_Ld rfl rfl rfl ?_
  refine ws_Put (q := 31) (y := 85) (pc := 28) rfl hx1 hli.1 hli.2 rfl rfl (fun _ => rfl) rfl (fun z _ => by cases z) fun M2 hx2 => ?_
  have c2 := ni_clU (x := a) c1 hli.1 hli.2 (j := 0) rfl
  refine wp_Ld rfl rfl rfl ?_
  refine wp_Ld rfl rfl rfl ?_
  refine ws_Put (q := 37) (y := 85) (pc := 34) rfl hx2 hli.1 hli.2 rfl rfl (fun _ => rfl) rfl (fun z _ => by cases z) fun M3 hx3 => ?_
  have c3 := ni_clU (x := b) c2 hli.1 hli.2 (j := 1) rfl
  refine wp_Ld rfl rfl rfl ?_
  refine wp_Ld rfl rfl rfl ?_
  refine ws_Put (q := 43) (y := 85) (pc := 40) rfl hx3 hli.1 hli.2 rfl rfl (fun _ => rfl) rfl (fun z _ => by cases z) fun M4 hx4 => ?_
  have c4 := ni_clU (x := c) c3 hli.1 hli.2 (j := 2) rfl
  refine wp_Ld rfl rfl rfl ?_
  refine wp_Ld rfl rfl rfl ?_
  refine ws_Put (q := 50) (y := 85) (pc := 47) rfl hx4 hli.1 hli.2 rfl rfl (fun _ => rfl) rfl (fun z _ => by cases z) fun M5 hx5 => ?_
  have c5 := ni_clU (x := d) c4 hli.1 hli.2 (j := 3) rfl
  refine wp_Ld rfl rfl rfl ?_
  refine wp_Ld rfl rfl rfl ?_
  refine ws_Put (q := 57) (y := 85) (pc := 54) rfl hx5 hli.1 hli.2 rfl rfl (fun _ => rfl) rfl (fun z _ => by cases z) fun M6 hx6 => ?_
  have c6 := ni_clU (x := x) c5 hli.1 hli.2 (j := 4) rfl
  have hR6 := ni_RepC hx6.1 c6
  have hK6 := hx6.2
  rw [← hA2] at hR6
  have l2 : A2 0 2 = (l : Int) + 1 := by rw [hA2, ni_u2n (by omega), ni_u2n (by omega), ni_u2n (by omega), ni_u2n (by omega), ni_u2n (by omega)]; exact ni_u2e
  obtain ⟨v0, n0⟩ := nx_cell hR6 us0 kd0 rfl
  refine wp_Ld rfl rfl rfl ?_
  refine wp_Ld rfl rfl rfl ?_
  refine wp_V (r := []) (as := [ni_z (l : Int)]) rfl rfl rfl n0 (Nat.le_of_ble_eq_true rfl) (mt_raise hR6 h hCO hl (by omega) hown (nx_KpL hK6 hb)) ?_
  rintro u1 M7 ⟨hu1, q7⟩
  rw [hu1]
  refine wp_Ld rfl rfl rfl ?_
  exact wp_R rfl rfl ⟨⟨_, rfl⟩, nx_QK hK6 q7⟩
theorem fx_addLink {e a b c d x : Int} {l : Nat} (hm : St m = some (9, [.ref (ad 0), .ref n1])) (hR : ni_Rep St M ad rw cp A (ni_live A)) (hown : ∀ x, own x ≤ 800000) (hb : M.1.length + 57350 ≤ 900000 + ni_gz cp) (h8 : A 0 1 ≤ 8) (ha : 0 ≤ a ∧ a < A 0 1) (hbb : 0 ≤ b ∧ b < A 0 1) (hab : a ≠ b) (hc : 1 ≤ c ∧ c ≤ 50) (hd : 1 ≤ d ∧ d ≤ 200) (hxx : 1 ≤ x ∧ x ≤ 20) (hA2 : A2 = ni_u2 (ni_u2 (ni_u2 (ni_u2 (ni_u2 (ni_u2 A 0 2 ((l : Int) + 1)) (48 + 17 * l) 0 a) (48 + 17 * l) 1 b) (48 + 17 * l) 2 c) (48 + 17 * l) 3 d) (48 + 17 * l) 4 x) (h : nq_Inv St own (ni_u2 A2 (48 + 17 * l) 5 1) e) (hCO : nq_CO (ni_u2 A2 (48 + 17 * l) 5 1)) (hl : l < 14) (hlc : A 0 2 = l) : wp_C xs 25 2 [.ref m, ni_z a, ni_z b, ni_z c, ni_z d, ni_z x] M (fun u M' => (∃ x : Int, u = some (ni_z x)) ∧ nx_Q St own (ni_u2 A2 (48 + 17 * l) 5 1) e 2 M ad rw cp M') := by
  have us0 : ni_us 0 = true := by decide +kernel
  have kd0 : ni_kd 0 = 4 := by decide +kernel
  refine wp_enter (Nat.le_of_ble_eq_true rfl) (ls := [.ref m, ni_z a, ni_z b, ni_z c, ni_z d, ni_z x]) rfl ?_
  refine wp_Ld rfl rfl rfl ?_
  refine wp_Ld rfl rfl rfl ?_
  obtain ⟨v, A', ⟨hv, hA⟩, hF⟩ := fc_router (xs := xs) (A := A) (Z := fun a => a 0 = ad 0) hm (fun _ hz => hz) (i := a) ha h8
  subst hv
  rw [hA] at hF
  refine wp_V (r := []) (as := [ni_z a]) rfl rfl rfl (hR.2.2.2.2.1 m _ hm).1 (Nat.le_of_ble_eq_true rfl) (wp_up (hF M ad rw cp rfl hR) (by decide)) ?_
  rintro u1 M1 ⟨hu1, rw1, cp1, hR1, hK1⟩
  rw [hu1]
  refine wp_Ld rfl rfl rfl ?_
  refine wp_Ld rfl rfl rfl ?_
  obtain ⟨v, A', ⟨hv, hA⟩, hF⟩ := fc_router (xs := xs) (A := A) (Z := fun a => a 0 = ad 0) hm (fun _ hz => hz) (i := b) hbb h8
  subst hv
  rw [hA] at hF
  refine wp_V (r := []) (as := [ni_z b]) rfl rfl rfl (hR1.2.2.2.2.1 m _ hm).1 (Nat.le_of_ble_eq_true rfl) (wp_up (hF M1 ad rw1 cp1 rfl hR1) (by decide)) ?_
  rintro u2 M2 ⟨hu2, rw2, cp2, hR2, hK2⟩
  rw [hu2]
  have hK := ni_KpT hK1 hK2
  have hx2 : ni_Sx St M2 ad rw2 cp2 M2 rw2 cp2 A (ni_live A) := ⟨hR2, ni_KpR⟩
  refine wp_Ld rfl rfl rfl ?_
  refine wp_Ld rfl rfl rfl ?_
  refine wp_Ic true rfl (zc_ne_t ⟨by omega, by omega⟩ ⟨by omega, by omega⟩ hab) ?_
  refine wp_Ld rfl rfl rfl ?_
  refine wp_P (g := ni_gPush (.int 1) 27) rfl (wp_push (z := 1) rfl) ?_
  refine wp_P (g := ni_gPush (.int 50) 29) rfl (wp_push (z := 50) rfl) ?_
  refine wp_S (r := []) (as := [ni_z c, ni_z 1, ni_z 50]) rfl (Nat.le_of_ble_eq_true rfl) rfl rfl (Nat.le_of_ble_eq_true rfl) (wp_up (mt_chkR (xs := xs) (i := c) (a := 1) (b := 50) (by omega) (by omega) M2) (by decide)) ?_
  rintro u3 M3 ⟨hu3, hM3⟩
  rw [hu3, hM3]
  refine wp_Ld rfl rfl rfl ?_
  refine wp_P (g := ni_gPush (.int 1) 35) rfl (wp_push (z := 1) rfl) ?_
  refine wp_P (g := ni_gPush (.int 200) 38) rfl (wp_push (z := 200) rfl) ?_
  refine wp_S (r := []) (as := [ni_z d, ni_z 1, ni_z 200]) rfl (Nat.le_of_ble_eq_true rfl) rfl rfl (Nat.le_of_ble_eq_true rfl) (wp_up (mt_chkR (xs := xs) (i := d) (a := 1) (b := 200) (by omega) (by omega) M2) (by decide)) ?_
  rintro u4 M4 ⟨hu4, hM4⟩
  rw [hu4, hM4]
  refine wp_Ld rfl rfl rfl ?_
  refine wp_P (g := ni_gPush (.int 1) 44) rfl (wp_push (z := 1) rfl) ?_
  refine wp_P (g := ni_gPush (.int 20) 46) rfl (wp_push (z := 20) rfl) ?_
  refine wp_S (r := []) (as := [ni_z x, ni_z 1, ni_z 20]) rfl (Nat.le_of_ble_eq_true rfl) rfl rfl (Nat.le_of_ble_eq_true rfl) (wp_up (mt_chkR (xs := xs) (i := x) (a := 1) (b := 20) (by omega) (by omega) M2) (by decide)) ?_
  rintro u5 M5 ⟨hu5, hM5⟩
  rw [hu5, hM5]
  refine wp_Ld rfl rfl rfl ?_
  refine wp_Get (v := .ref (ad 0)) rfl (hR2.2.2.2.2.1 m _ hm).1 rfl ?_
  refine ws_Get (v := ni_z (A 0 2)) rfl hx2 us0 kd0 rfl rfl rfl ?_
  refine wp_P (g := ni_gPush (.int 14) 58) rfl (wp_push (z := 14) rfl) ?_
  refine wp_Ic true rfl (zc_lt_t ⟨by omega, by omega⟩ ⟨by omega, by omega⟩ (by omega)) ?_
  refine wp_Ld rfl rfl rfl ?_
  refine wp_Get (v := .ref (ad 0)) rfl (hR2.2.2.2.2.1 m _ hm).1 rfl ?_
  refine wp_Ld rfl rfl rfl ?_
  refine wp_Ld rfl rfl rfl ?_
  refine wp_Ld rfl rfl rfl ?_
  refine wp_Ld rfl rfl rfl ?_
  refine wp_Ld rfl rfl rfl ?_
  obtain ⟨v0, n0⟩ := nx_cell hR2 us0 kd0 rfl
  refine wp_V (r := []) (as := [ni_z a, ni_z b, ni_z c, ni_z d, ni_z x]) rfl rfl rfl n0 (Nat.le_of_ble_eq_true rfl) (wp_up (mt_newLink hR2 hA2 h hCO hl hlc hown (nx_KpL hK hb)) (by decide)) ?_
  rintro u6 M6 ⟨⟨y6, hu6⟩, q6⟩
  rw [hu6]
  exact wp_R rfl rfl ⟨⟨y6, rfl⟩, nx_QK hK q6⟩
theorem fx_setCost {e c : Int} {l : Nat} (hm : St m = some (9, [.ref (ad 0), .ref n1])) (hR : ni_Rep St M ad rw cp A (ni_live A)) (hown : ∀ x, own x ≤ 800000) (hb : M.1.length + 57350 ≤ 900000 + ni_gz cp) (h : nq_Inv St own (ni_u2 A (48 + 17 * l) 2 c) e) (hCO : nq_CO (ni_u2 A (48 + 17 * l) 2 c)) (hc2 : 1 ≤ A (48 + 17 * l) 2 ∧ A (48 + 17 * l) 2 ≤ 50) (hc : 1 ≤ c ∧ c ≤ 50) (hl : l < 14) (hlc : (l : Int) < A 0 2) (h14 : A 0 2 ≤ 14) : wp_C xs 25 39 [.ref m, ni_z (l : Int), ni_z c] M (fun u M' => (∃ x : Int, u = some (ni_z x)) ∧ nx_Q St own (ni_u2 A (48 + 17 * l) 2 c) e 2 M ad rw cp M') := by
  have us0 : ni_us 0 = true := by decide +kernel
  have kd0 : ni_kd 0 = 4 := by decide +kernel
  refine wp_enter (Nat.le_of_ble_eq_true rfl) (ls := [.ref m, ni_z (l : Int), ni_z c]) rfl ?_
  refine wp_Ld rfl rfl rfl ?_
  refine wp_Ld rfl rfl rfl ?_
  obtain ⟨v, A', ⟨hv, hA⟩, hF⟩ := fc_link (xs := xs) (A := A) (Z := fun a => a 0 = ad 0) hm (fun _ hz => hz) (i := (l : Int)) ⟨by omega, hlc⟩ h14
  subst hv
  rw [hA] at hF
  refine wp_V (r := []) (as := [ni_z (l : Int)]) rfl rfl rfl (hR.2.2.2.2.1 m _ hm).1 (Nat.le_of_ble_eq_true rfl) (wp_up (hF M ad rw cp rfl hR) (by decide)) ?_
  rintro u1 M1 ⟨hu1, rw1, cp1, hR1, hK1⟩
  rw [hu1]
  refine wp_Ld rfl rfl rfl ?_
  refine wp_P (g := ni_gPush (.int 1) 7) rfl (wp_push (z := 1) rfl) ?_
  refine wp_P (g := ni_gPush (.int 50) 9) rfl (wp_push (z := 50) rfl) ?_
  refine wp_S (r := []) (as := [ni_z c, ni_z 1, ni_z 50]) rfl (Nat.le_of_ble_eq_true rfl) rfl rfl (Nat.le_of_ble_eq_true rfl) (wp_up (mt_chkR (xs := xs) (i := c) (a := 1) (b := 50) (by omega) (by omega) M1) (by decide)) ?_
  rintro u3 M3 ⟨hu3, hM3⟩
  rw [hu3, hM3]
  refine wp_Ld rfl rfl rfl ?_
  refine wp_Get (v := .ref (ad 0)) rfl (hR1.2.2.2.2.1 m _ hm).1 rfl ?_
  refine wp_Ld rfl rfl rfl ?_
  refine wp_Ld rfl rfl rfl ?_
  obtain ⟨v0, n0⟩ := nx_cell hR1 us0 kd0 rfl
  refine wp_V (r := []) (as := [ni_z (l : Int), ni_z c]) rfl rfl rfl n0 (Nat.le_of_ble_eq_true rfl) (wp_up (mt_changeCost hR1 h hCO hc2 hc hl hlc hown (nx_KpL hK1 hb)) (by decide)) ?_
  rintro u6 M6 ⟨⟨y6, hu6⟩, q6⟩
  rw [hu6]
  exact wp_R rfl rfl ⟨⟨y6, rfl⟩, nx_QK hK1 q6⟩
theorem fx_raise {e : Int} {l : Nat} (hm : St m = some (9, [.ref (ad 0), .ref n1])) (hR : ni_Rep St M ad rw cp A (ni_live A)) (hown : ∀ x, own x ≤ 800000) (hb : M.1.length + 57350 ≤ 900000 + ni_gz cp) (h0 : nq_Inv St own A e) (hCO0 : nq_CO A) (h : nq_Inv St own (ni_u2 A (48 + 17 * l) 5 1) e) (hCO : nq_CO (ni_u2 A (48 + 17 * l) 5 1)) (hl : l < 14) (hlc : (l : Int) < A 0 2) (h14 : A 0 2 ≤ 14) : wp_C xs 25 41 [.ref m, ni_z (l : Int), ni_z 1] M (fun u M' => (∃ x : Int, u = some (ni_z x)) ∧ (nx_Q St own (ni_u2 A (48 + 17 * l) 5 1) e 2 M ad rw cp M' ∨ nx_Q St own A e 2 M ad rw cp M')) := by
  have us0 : ni_us 0 = true := by decide +kernel
  have kd0 : ni_kd 0 = 4 := by decide +kernel
  have hli := ni_liS l hl
  have hlb := h0.2.1.1 l hl
  refine wp_enter (Nat.le_of_ble_eq_true rfl) (ls := [.ref m, ni_z (l : Int), ni_z 1, ni_J]) rfl ?_
  refine wp_Ld rfl rfl rfl ?_
  refine wp_Ld rfl rfl rfl ?_
  obtain ⟨v, A', ⟨hv, hA⟩, hF⟩ := fc_link (xs := xs) (A := A) (Z := fun a => a 0 = ad 0) hm (fun _ hz => hz) (i := (l : Int)) ⟨by omega, hlc⟩ h14
  subst hv
  rw [hA] at hF
  refine wp_V (r := []) (as := [ni_z (l : Int)]) rfl rfl rfl (hR.2.2.2.2.1 m _ hm).1 (Nat.le_of_ble_eq_true rfl) (wp_up (hF M ad rw cp rfl hR) (by decide)) ?_
  rintro u1 M1 ⟨hu1, rw1, cp1, hR1, hK1⟩
  rw [hu1]
  have hx1 : ni_Sx St M1 ad rw1 cp1 M1 rw1 cp1 A (ni_live A) := ⟨hR1, ni_KpR⟩
  refine wp_Ld rfl rfl rfl ?_
  refine wp_Get (v := .ref (ad 0)) rfl (hR1.2.2.2.2.1 m _ hm).1 rfl ?_
  refine ws_Get (v := .ref (ad 2)) rfl hx1 us0 kd0 rfl rfl rfl ?_
  refine wp_Ld rfl rfl rfl ?_
  refine ws_Qld (q := 14) (y := 41) (pc := 13) (s := 2) (n := 14) (t := 102) (j := l) (v := .ref (ad (48 + 17 * l))) rfl hx1 (show ni_us 2 = true by decide +kernel) (show ni_kd 2 = 102 by decide +kernel) (show ni_ln 2 = 14 by decide +kernel) ⟨by decide, rfl⟩ rfl (by omega) (by decide) (ni_LR hx1 (show ni_us 2 = true by decide +kernel) (by decide +kernel) (by omega)) rfl rfl ?_
  refine ws_Get (v := ni_z (A (48 + 17 * l) 5)) rfl hx1 hli.1 hli.2 rfl rfl rfl ?_
  refine wp_St (ls' := [.ref m, ni_z (l : Int), ni_z 1, ni_z (A (48 + 17 * l) 5)]) rfl rfl rfl ?_
  refine wp_Ld rfl rfl rfl ?_
  refine wp_If false rfl (zf_eq_f ⟨by omega, by omega⟩ (by omega)) ?_
  refine wp_Ld rfl rfl rfl ?_
  generalize A (48 + 17 * l) 5 = up at hlb ⊢
  have hend : ∀ M2, (nx_Q St own (ni_u2 A (48 + 17 * l) 5 1) e 2 M ad rw cp M2 ∨ nx_Q St own A e 2 M ad rw cp M2) → wp_G xs 24 41 34 [.ref m, ni_z (l : Int), ni_z 1, ni_z up] [] M2 (fun u M' => (∃ x : Int, u = some (ni_z x)) ∧ (nx_Q St own (ni_u2 A (48 + 17 * l) 5 1) e 2 M ad rw cp M' ∨ nx_Q St own A e 2 M ad rw cp M')) := fun M2 q2 => by
    refine wp_Ld rfl rfl rfl ?_
    refine wp_If true rfl (zf_ne_t ⟨by omega, by omega⟩ (by omega)) ?_
    refine wp_Ld rfl rfl rfl ?_
    exact wp_R rfl (ni_rokB hlb.2.2) ⟨⟨_, rfl⟩, q2⟩
  by_cases c : up = 0
  · refine wp_If false rfl (zf_ne_f ⟨by omega, by omega⟩ (by omega)) ?_
    refine wp_Ld rfl rfl rfl ?_
    refine wp_Get (v := .ref (ad 0)) rfl (hR1.2.2.2.2.1 m _ hm).1 rfl ?_
    refine wp_Ld rfl rfl rfl ?_
    obtain ⟨v0, n0⟩ := nx_cell hR1 us0 kd0 rfl
    refine wp_V (r := []) (as := [ni_z (l : Int)]) rfl rfl rfl n0 (Nat.le_of_ble_eq_true rfl) (wp_up (mt_raise hR1 h hCO hl hlc hown (nx_KpL hK1 hb)) (by decide)) ?_
    rintro u6 M6 ⟨hu6, q6⟩
    rw [hu6]
    exact hend M6 (Or.inl (nx_QK hK1 q6))
  · refine wp_If true rfl (zf_ne_t ⟨by omega, by omega⟩ (by omega)) ?_
    exact hend M1 (Or.inr (nx_QK hK1 (nx_QM (nx_Q0 h0 hx1) (by omega))))
theorem fx_cut {e : Int} {l : Nat} (hm : St m = some (9, [.ref (ad 0), .ref n1])) (hR : ni_Rep St M ad rw cp A (ni_live A)) (hown : ∀ x, own x ≤ 800000) (hb : M.1.length + 57350 ≤ 900000 + ni_gz cp) (h0 : nq_Inv St own A e) (hCO0 : nq_CO A) (hl : l < 14) (hlc : (l : Int) < A 0 2) (h14 : A 0 2 ≤ 14) : wp_C xs 25 41 [.ref m, ni_z (l : Int), ni_z 0] M (fun u M' => (∃ x : Int, u = some (ni_z x)) ∧ (nx_Q St own A e 2 M ad rw cp M' ∨ ∃ A3, (nq_CO A3 ∧ (∀ s j, s < 12 ∨ 286 ≤ s → A3 s j = A s j) ∧ (∀ s j, 48 ≤ s → (s < 48 + 17 * l ∨ 48 + 17 * l + 17 ≤ s) → A3 s j = A s j) ∧ ∀ j, j ≠ 5 → A3 (48 + 17 * l) j = A (48 + 17 * l) j) ∧ (∀ f : Nat, f < 12 → (∀ j, A3 (12 + 3 * f) j = A (12 + 3 * f) j) ∧ (∀ j, A3 (12 + 3 * f + 1) j = A (12 + 3 * f + 1) j) ∧ (A 0 3 ≤ f → (∀ j, A3 (12 + 3 * f + 2) j = A (12 + 3 * f + 2) j))) ∧ nx_Q St own A3 (e + 544) 2 M ad rw cp M')) := by
  have us0 : ni_us 0 = true := by decide +kernel
  have kd0 : ni_kd 0 = 4 := by decide +kernel
  have hli := ni_liS l hl
  have hlb := h0.2.1.1 l hl
  refine wp_enter (Nat.le_of_ble_eq_true rfl) (ls := [.ref m, ni_z (l : Int), ni_z 0, ni_J]) rfl ?_
  refine wp_Ld rfl rfl rfl ?_
  refine wp_Ld rfl rfl rfl ?_
  obtain ⟨v, A', ⟨hv, hA⟩, hF⟩ := fc_link (xs := xs) (A := A) (Z := fun a => a 0 = ad 0) hm (fun _ hz => hz) (i := (l : Int)) ⟨by omega, hlc⟩ h14
  subst hv
  rw [hA] at hF
  refine wp_V (r := []) (as := [ni_z (l : Int)]) rfl rfl rfl (hR.2.2.2.2.1 m _ hm).1 (Nat.le_of_ble_eq_true rfl) (wp_up (hF M ad rw cp rfl hR) (by decide)) ?_
  rintro u1 M1 ⟨hu1, rw1, cp1, hR1, hK1⟩
  rw [hu1]
  have hx1 : ni_Sx St M1 ad rw1 cp1 M1 rw1 cp1 A (ni_live A) := ⟨hR1, ni_KpR⟩
  refine wp_Ld rfl rfl rfl ?_
  refine wp_Get (v := .ref (ad 0)) rfl (hR1.2.2.2.2.1 m _ hm).1 rfl ?_
  refine ws_Get (v := .ref (ad 2)) rfl hx1 us0 kd0 rfl rfl rfl ?_
  refine wp_Ld rfl rfl rfl ?_
  refine ws_Qld (q := 14) (y := 41) (pc := 13) (s := 2) (n := 14) (t := 102) (j := l) (v := .ref (ad (48 + 17 * l))) rfl hx1 (show ni_us 2 = true by decide +kernel) (show ni_kd 2 = 102 by decide +kernel) (show ni_ln 2 = 14 by decide +kernel) ⟨by decide, rfl⟩ rfl (by omega) (by decide) (ni_LR hx1 (show ni_us 2 = true by decide +kernel) (by decide +kernel) (by omega)) rfl rfl ?_
  refine ws_Get (v := ni_z (A (48 + 17 * l) 5)) rfl hx1 hli.1 hli.2 rfl rfl rfl ?_
  refine wp_St (ls' := [.ref m, ni_z (l : Int), ni_z 0, ni_z (A (48 + 17 * l) 5)]) rfl rfl rfl ?_
  refine wp_Ld rfl rfl rfl ?_
  refine wp_If true rfl (zf_eq_t ⟨by omega, by omega⟩ (by omega)) ?_
  refine wp_Ld rfl rfl rfl ?_
  refine wp_If false rfl (zf_ne_f ⟨by omega, by omega⟩ (by omega)) ?_
  refine wp_Ld rfl rfl rfl ?_
  by_cases c : A (48 + 17 * l) 5 = 0
  · refine wp_If true rfl (zf_eq_t ⟨by omega, by omega⟩ c) ?_
    refine wp_Ld rfl rfl rfl ?_
    exact wp_R rfl (ni_rokB hlb.2.2) ⟨⟨_, rfl⟩, Or.inl (nx_QK hK1 (nx_QM (nx_Q0 h0 hx1) (by omega)))⟩
  · refine wp_If false rfl (zf_eq_f ⟨by omega, by omega⟩ c) ?_
    refine wp_Ld rfl rfl rfl ?_
    refine wp_Get (v := .ref (ad 0)) rfl (hR1.2.2.2.2.1 m _ hm).1 rfl ?_
    refine wp_Ld rfl rfl rfl ?_
    obtain ⟨v0, n0⟩ := nx_cell hR1 us0 kd0 rfl
    refine wp_V (r := []) (as := [ni_z (l : Int)]) rfl rfl rfl n0 (Nat.le_of_ble_eq_true rfl) (wp_up (mt_cut hR1 h0 hCO0 hl hlc hown (nx_KpL hK1 hb)) (by decide)) ?_
    rintro u6 M6 ⟨hu6, A3, g1, g2, q6⟩
    rw [hu6]
    refine wp_Ld rfl rfl rfl ?_
    exact wp_R rfl (ni_rokB hlb.2.2) ⟨⟨_, rfl⟩, Or.inr ⟨A3, g1, g2, nx_QK hK1 q6⟩⟩
end NXF
