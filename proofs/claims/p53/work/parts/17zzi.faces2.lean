/-! NETWORKS, AND ROUTERS -/
section NXG
variable {xs : List Int32} {St : Nat → Option ni_C} {M M' M1 : ni_H} {ad rw cp rw1 cp1 : Nat → Nat} {A A' A2 : Nat → Nat → Int} {own : Nat → Int} {m n1 : Nat} {L : Nat → Nat}
theorem mt_hasL {n r : Nat} {p : Int} (hR : ni_Rep St M ad rw cp A (ni_live A)) (hn : A 4 3 = n) (hn24 : n ≤ 24) (hr : r < 8) (hp : 0 ≤ p ∧ p < 2097152) (hPL : ni_PL A 4) (hne : ∀ i : Nat, i < n → A 6 i ≠ p) : ∀ k i : Nat, i + k = n → wp_G xs 0 129 2 [.ref (ad 4), ni_z (r : Int), ni_z p, ni_z (i : Int)] [] M (fun u M' => u = some (ni_z 0) ∧ M' = M) := by
  have hx1 : ni_Sx St M ad rw cp M rw cp A (ni_live A) := ⟨hR, ni_KpR⟩
  intro k
  induction k with
  | zero =>
    intro i hi
    refine wp_Ld rfl rfl rfl ?_
    refine wp_Ld rfl rfl rfl ?_
    refine ws_Get (v := ni_z (A 4 3)) rfl hx1 (show ni_us 4 = true by decide +kernel) (show ni_kd 4 = 6 by decide +kernel) rfl rfl rfl ?_
    refine wp_Ic true rfl (zc_ge_t ⟨by omega, by omega⟩ ⟨by omega, by omega⟩ (by omega)) ?_
    refine wp_P (g := ni_gPush (.int 0) 39) rfl (wp_push (z := 0) rfl) ?_
    exact wp_R rfl rfl ⟨rfl, rfl⟩
  | succ k ih =>
    intro i hi
    have hpl : (0 ≤ A 5 i ∧ A 5 i < 8) ∧ (0 ≤ A 6 i ∧ A 6 i < 2097152 ∧ A 6 i % 32 ≤ 16) ∧ (-1 ≤ A 7 i ∧ A 7 i < 14) := hPL.2 i (by omega)
    have hnei := hne i (by omega)
    refine wp_Ld rfl rfl rfl ?_
    refine wp_Ld rfl rfl rfl ?_
    refine ws_Get (v := ni_z (A 4 3)) rfl hx1 (show ni_us 4 = true by decide +kernel) (show ni_kd 4 = 6 by decide +kernel) rfl rfl rfl ?_
    refine wp_Ic false rfl (zc_ge_f ⟨by omega, by omega⟩ ⟨by omega, by omega⟩ (by omega)) ?_
    refine wp_Ld rfl rfl rfl ?_
    refine ws_Get (v := .ref (ad 5)) rfl hx1 (show ni_us 4 = true by decide +kernel) (show ni_kd 4 = 6 by decide +kernel) rfl rfl rfl ?_
    refine wp_Ld rfl rfl rfl ?_
    refine ws_Ald (q := 16) (y := 129) (pc := 15) (s := 5) (n := 24) (t := 100) (j := i) (v := ni_z (A 5 i)) rfl hx1 (show ni_us 5 = true by decide +kernel) (show ni_kd 5 = 100 by decide +kernel) (show ni_ln 5 = 24 by decide +kernel) ⟨by decide, rfl⟩ rfl (by omega) (by decide) (ni_L8 (by decide +kernel) (show ni_ct 5 = (4, 3) by decide +kernel) (by decide) (by omega) (ni_clR A)) rfl rfl ?_
    refine wp_Ld rfl rfl rfl ?_
    have hgo : wp_G xs 0 129 32 [.ref (ad 4), ni_z (r : Int), ni_z p, ni_z (i : Int)] [] M (fun u M' => u = some (ni_z 0) ∧ M' = M) := by
      refine wp_Inc (ls' := [.ref (ad 4), ni_z (r : Int), ni_z p, ni_z ((i : Int) + 1)]) rfl rfl (zi_inc (z := 1) rfl) rfl ?_
      refine wp_P (g := ni_gGo 2) rfl rfl ?_
      exact ih (i + 1) (by omega)
    by_cases c2 : A 5 i = r
    · refine wp_Ic false rfl (zc_ne_f ⟨by omega, by omega⟩ ⟨by omega, by omega⟩ (by omega)) ?_
      refine wp_Ld rfl rfl rfl ?_
      refine ws_Get (v := .ref (ad 6)) rfl hx1 (show ni_us 4 = true by decide +kernel) (show ni_kd 4 = 6 by decide +kernel) rfl rfl rfl ?_
      refine wp_Ld rfl rfl rfl ?_
      refine ws_Ald (q := 26) (y := 129) (pc := 25) (s := 6) (n := 24) (t := 100) (j := i) (v := ni_z (A 6 i)) rfl hx1 (show ni_us 6 = true by decide +kernel) (show ni_kd 6 = 100 by decide +kernel) (show ni_ln 6 = 24 by decide +kernel) ⟨by decide, rfl⟩ rfl (by omega) (by decide) (ni_L8 (by decide +kernel) (show ni_ct 6 = (4, 3) by decide +kernel) (by decide) (by omega) (ni_clR A)) rfl rfl ?_
      refine wp_Ld rfl rfl rfl ?_
      refine wp_Ic true rfl (zc_ne_t ⟨by omega, by omega⟩ ⟨by omega, by omega⟩ hnei) ?_
      exact hgo
    · refine wp_Ic true rfl (zc_ne_t ⟨by omega, by omega⟩ ⟨by omega, by omega⟩ c2) ?_
      exact hgo
theorem fx_addNetwork {e a b : Int} {r n k : Nat} (hm : St m = some (9, [.ref (ad 0), .ref n1])) (hR : ni_Rep St M ad rw cp A (ni_live A)) (hown : ∀ x, own x ≤ 800000) (hb : M.1.length + 57350 ≤ 900000 + ni_gz cp) (h8 : A 0 1 ≤ 8) (hr : r < 8) (hrc : (r : Int) < A 0 1) (hk : k ≤ 16) (hbk : b = 16 - k) (ha : 0 ≤ a ∧ a ≤ 65535) (hak : a % 2 ^ k = 0) (hn : A 4 3 = n) (hn24 : n < 24) (hPL : ni_PL A 4) (hne : ∀ i : Nat, i < n → A 6 i ≠ a * 32 + b) (h : nq_Inv St own (ni_u2 (ni_u2 (ni_u2 (ni_u2 A 5 n r) 6 n (a * 32 + b)) 7 n (-1)) 4 3 ((n : Int) + 1)) e) (hCO : nq_CO (ni_u2 (ni_u2 (ni_u2 (ni_u2 A 5 n r) 6 n (a * 32 + b)) 7 n (-1)) 4 3 ((n : Int) + 1))) : wp_C xs 25 3 [.ref m, ni_z (r : Int), ni_z a, ni_z b] M (fun u M' => (∃ x : Int, u = some (ni_z x)) ∧ nx_Q St own (ni_u2 (ni_u2 (ni_u2 (ni_u2 A 5 n r) 6 n (a * 32 + b)) 7 n (-1)) 4 3 ((n : Int) + 1)) e 1 M ad rw cp M') := by
  have us0 : ni_us 0 = true := by decide +kernel
  have kd0 : ni_kd 0 = 4 := by decide +kernel
  have us4 : ni_us 4 = true := by decide +kernel
  have kd4 : ni_kd 4 = 6 := by decide +kernel
  refine wp_enter (Nat.le_of_ble_eq_true rfl) (ls := [.ref m, ni_z (r : Int), ni_z a, ni_z b, ni_J]) rfl ?_
  refine wp_Ld rfl rfl rfl ?_
  refine wp_Ld rfl rfl rfl ?_
  obtain ⟨v, A', ⟨hv, hA⟩, hF⟩ := fc_router (xs := xs) (A := A) (Z := fun a => a 0 = ad 0) hm (fun _ hz => hz) (i := (r : Int)) ⟨by omega, hrc⟩ h8
  subst hv
  rw [hA] at hF
  refine wp_V (r := []) (as := [ni_z (r : Int)]) rfl rfl rfl (hR.2.2.2.2.1 m _ hm).1 (Nat.le_of_ble_eq_true rfl) (wp_up (hF M ad rw cp rfl hR) (by decide)) ?_
  rintro u1 M1 ⟨hu1, rw1, cp1, hR1, hK1⟩
  rw [hu1]
  have hx1 : ni_Sx St M1 ad rw1 cp1 M1 rw1 cp1 A (ni_live A) := ⟨hR1, ni_KpR⟩
  refine wp_Ld rfl rfl rfl ?_
  refine wp_Ld rfl rfl rfl ?_
  refine wp_S (r := []) (as := [ni_z a, ni_z b]) rfl (Nat.le_of_ble_eq_true rfl) rfl rfl (Nat.le_of_ble_eq_true rfl) (wp_up (mt_chkP (xs := xs) hk hbk ha hak M1) (by decide)) ?_
  rintro u3 M3 ⟨hu3, hM3⟩
  rw [hu3, hM3]
  refine wp_Ld rfl rfl rfl ?_
  refine wp_Ld rfl rfl rfl ?_
  refine wp_S (r := []) (as := [ni_z a, ni_z b]) rfl (Nat.le_of_ble_eq_true rfl) rfl rfl (Nat.le_of_ble_eq_true rfl) (wp_up (mt_preOf (xs := xs) (a := a) (l := b) M1) (by decide)) ?_
  rintro u4 M4 ⟨hu4, hM4⟩
  rw [hu4, hM4]
  refine wp_St (ls' := [.ref m, ni_z (r : Int), ni_z a, ni_z b, ni_z (a * 32 + b)]) rfl rfl rfl ?_
  refine wp_Ld rfl rfl rfl ?_
  refine wp_Get (v := .ref (ad 0)) rfl (hR1.2.2.2.2.1 m _ hm).1 rfl ?_
  refine ws_Get (v := .ref (ad 4)) rfl hx1 us0 kd0 rfl rfl rfl ?_
  refine ws_Get (v := ni_z (A 4 3)) rfl hx1 us4 kd4 rfl rfl rfl ?_
  refine wp_P (g := ni_gPush (.int 24) 29) rfl (wp_push (z := 24) rfl) ?_
  refine wp_Ic true rfl (zc_lt_t ⟨by omega, by omega⟩ ⟨by omega, by omega⟩ (by omega)) ?_
  refine wp_Ld rfl rfl rfl ?_
  refine wp_Get (v := .ref (ad 0)) rfl (hR1.2.2.2.2.1 m _ hm).1 rfl ?_
  refine ws_Get (v := .ref (ad 4)) rfl hx1 us0 kd0 rfl rfl rfl ?_
  refine wp_Ld rfl rfl rfl ?_
  refine wp_Ld rfl rfl rfl ?_
  obtain ⟨v4, n4⟩ := nx_cell hR1 us4 kd4 rfl
  have hhas : wp_C xs 1 129 [.ref (ad 4), ni_z (r : Int), ni_z (a * 32 + b)] M1 (fun u M' => u = some (ni_z 0) ∧ M' = M1) := by
    refine wp_enter (Nat.le_of_ble_eq_true rfl) (ls := [.ref (ad 4), ni_z (r : Int), ni_z (a * 32 + b), ni_J]) rfl ?_
    refine wp_P (g := ni_gPush (.int 0) 1) rfl (wp_push (z := 0) rfl) ?_
    refine wp_St (ls' := [.ref (ad 4), ni_z (r : Int), ni_z (a * 32 + b), ni_z ((0 : Nat) : Int)]) rfl rfl rfl ?_
    exact mt_hasL hR1 hn (by omega) hr (by omega) hPL hne n 0 (by omega)
  refine wp_V (r := []) (as := [ni_z (r : Int), ni_z (a * 32 + b)]) rfl rfl rfl n4 (Nat.le_of_ble_eq_true rfl) (wp_up hhas (by decide)) ?_
  rintro u5 M5 ⟨hu5, hM5⟩
  rw [hu5, hM5]
  refine wp_If true rfl (zf_eq_t ⟨by omega, by omega⟩ rfl) ?_
  refine wp_Ld rfl rfl rfl ?_
  refine wp_Get (v := .ref (ad 0)) rfl (hR1.2.2.2.2.1 m _ hm).1 rfl ?_
  refine wp_Ld rfl rfl rfl ?_
  refine wp_Ld rfl rfl rfl ?_
  obtain ⟨v0, n0⟩ := nx_cell hR1 us0 kd0 rfl
  refine wp_V (r := []) (as := [ni_z (r : Int), ni_z (a * 32 + b)]) rfl rfl rfl n0 (Nat.le_of_ble_eq_true rfl) (wp_up (mt_newNetwork hR1 hn hn24 h hCO hr hrc hown (nx_KpL hK1 hb)) (by decide)) ?_
  rintro u6 M6 ⟨⟨y6, hu6⟩, q6⟩
  rw [hu6]
  exact wp_R rfl rfl ⟨⟨y6, rfl⟩, nx_QK hK1 q6⟩
/-- a new router: what is told stays told -/
theorem fx_addRouter {n : Nat} (hm : St m = some (9, [.ref (ad 0), .ref n1])) (hR : ni_Rep St M ad rw cp A L) (hn : A 0 1 = n) (hn8 : n < 8) : wp_C xs 25 4 [.ref m] M (fun u M' => (∃ x : Int, u = some (ni_z x)) ∧ ni_Rep St M' ad rw cp (ni_u2 A 0 1 ((n : Int) + 1)) L ∧ ni_Kp M ad rw cp M' rw cp) := by
  have us0 : ni_us 0 = true := by decide +kernel
  have kd0 : ni_kd 0 = 4 := by decide +kernel
  have hx : ni_Sx St M ad rw cp M rw cp A L := ⟨hR, ni_KpR⟩
  refine wp_enter (Nat.le_of_ble_eq_true rfl) (ls := [.ref m]) rfl ?_
  refine wp_Ld rfl rfl rfl ?_
  refine wp_Get (v := .ref (ad 0)) rfl (hR.2.2.2.2.1 m _ hm).1 rfl ?_
  refine ws_Get (v := ni_z (A 0 1)) rfl hx us0 kd0 rfl rfl rfl ?_
  refine wp_P (g := ni_gPush (.int 8) 9) rfl (wp_push (z := 8) rfl) ?_
  refine wp_Ic true rfl (zc_lt_t ⟨by omega, by omega⟩ ⟨by omega, by omega⟩ (by omega)) ?_
  refine wp_Ld rfl rfl rfl ?_
  refine wp_Get (v := .ref (ad 0)) rfl (hR.2.2.2.2.1 m _ hm).1 rfl ?_
  obtain ⟨v0, n0⟩ := nx_cell hR us0 kd0 rfl
  have hq : wp_C xs 1 87 [.ref (ad 0)] M (fun u M' => (∃ x : Int, u = some (ni_z x)) ∧ ni_Rep St M' ad rw cp (ni_u2 A 0 1 ((n : Int) + 1)) L ∧ ni_Kp M ad rw cp M' rw cp) := by
    refine wp_enter (Nat.le_of_ble_eq_true rfl) (ls := [.ref (ad 0)]) rfl ?_
    refine wp_Ld rfl rfl rfl ?_
    refine wp_P (g := ni_gDup 2) rfl rfl ?_
    refine ws_Get (v := ni_z (A 0 1)) rfl hx us0 kd0 rfl rfl rfl ?_
    rw [hn]
    refine wp_P (g := ni_gPush (.int 1) 6) rfl (wp_push (z := 1) rfl) ?_
    refine wp_P rfl wp_add ?_
    refine ws_Put (q := 10) (y := 87) (pc := 7) rfl hx us0 kd0 rfl rfl (fun _ => rfl) rfl (fun z _ => by cases z) fun M1 hx1 => ?_
    refine wp_Ld rfl rfl rfl ?_
    refine ws_Get (v := ni_z (ni_u2 A 0 1 ((n : Int) + 1) 0 1)) rfl hx1 us0 kd0 rfl rfl rfl ?_
    refine wp_P (g := ni_gPush (.int 1) 15) rfl (wp_push (z := 1) rfl) ?_
    refine wp_P rfl wp_sub ?_
    exact wp_R rfl rfl ⟨⟨_, rfl⟩, hx1⟩
  refine wp_V (r := []) (as := []) rfl rfl rfl n0 (Nat.le_of_ble_eq_true rfl) (wp_up hq (by decide)) ?_
  rintro u6 M6 ⟨⟨y6, hu6⟩, q6⟩
  rw [hu6]
  exact wp_R rfl rfl ⟨⟨y6, rfl⟩, q6⟩
end NXG
