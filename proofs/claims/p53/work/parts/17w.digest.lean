/-! THE CHECKSUM -/
section NDG
variable {Z : (Nat → Nat) → Prop} {m n0 n1 : Nat} {xs : List Int32} {St : Nat → Option ni_C} {A : Nat → Nat → Int}
theorem mt_dgPL {p : Nat} {b0 : Int64} (hs : ni_us p = true) (hk : ni_kd p = 5) (hn : 0 ≤ A p 10 ∧ A p 10 ≤ 250) (hq : ∀ i : Nat, (i : Int) < A p 10 → 0 ≤ A (p + 7) i ∧ A (p + 7) i ≤ 2147483647) : ∀ k i : Nat, i + k = 4 → ∀ d0 : Int64, ni_E xs St Z 2 19 29 [nf_J (b0), .inl ni_J, ni_aP (p), nf_J (d0), .inl ni_J, ni_aI ((i : Int))] [] A (ni_live A) (fun v A' => ∃ x : Int64, v = some (nf_J x) ∧ A' = A) := by
  have h374 := (ni_usT hs).1
  intro k
  induction k with
  | zero =>
    intro i hi d0
    refine E_Ld (q := 31) rfl rfl (fun _ _ => rfl) ?_
    refine E_push (q := 32) (c := 4) (z := 4) rfl rfl ?_
    refine E_Ic true rfl (zc_ge_t ⟨by omega, by omega⟩ ⟨by omega, by omega⟩ (by omega)) ?_
    refine E_Ld (q := 71) rfl rfl (fun _ _ => rfl) ?_
    refine E_R rfl (fun _ _ => rfl) (fun _ _ => rfl) ?_
    exact ⟨_, rfl, rfl⟩
  | succ k ih =>
    intro i hi d0
    refine E_Ld (q := 31) rfl rfl (fun _ _ => rfl) ?_
    refine E_push (q := 32) (c := 4) (z := 4) rfl rfl ?_
    refine E_Ic false rfl (zc_ge_f ⟨by omega, by omega⟩ ⟨by omega, by omega⟩ (by omega)) ?_
    refine E_Ld (q := 36) rfl rfl (fun _ _ => rfl) ?_
    refine E_pushJ (q := 39) (c := 31) rfl ?_
    refine E_mulJ (q := 40) rfl ?_
    refine E_Ld (q := 41) rfl rfl (fun _ _ => rfl) ?_
    refine E_Ld (q := 43) rfl rfl (fun _ _ => rfl) ?_
    refine E_V (q := 46) (w := some (ni_aI (ni_cn A p i (A p 10).toNat))) rfl rfl rfl hs hk rfl (Nat.le_of_ble_eq_true rfl) (fun _ _ _ => rfl) (ni_Dup (mt_count (p := p) (c := (i : Int)) (by omega) hn hq hs hk) (by decide)) (fun _ _ => rfl) (fun _ _ => rfl) ?_
    refine E_toJ (q := 47) rfl ?_
    refine E_addJ (q := 48) rfl ?_
    generalize ((d0) * (31)) + ((Int32.ofInt (ni_cn A p i (A p 10).toNat)).toInt64) = dg1
    refine E_St (q := 49) (ls' := [nf_J (b0), .inl ni_J, ni_aP (p), nf_J (dg1), .inl ni_J, ni_aI ((i : Int))]) rfl (fun _ _ => rfl) (fun _ _ => rfl) ?_
    refine E_Ld (q := 50) rfl rfl (fun _ _ => rfl) ?_
    refine E_pushJ (q := 53) (c := 31) rfl ?_
    refine E_mulJ (q := 54) rfl ?_
    refine E_Ld (q := 55) rfl rfl (fun _ _ => rfl) ?_
    refine E_Get (q := 58) (v := ni_aP (p + 6)) rfl hs hk rfl rfl (fun _ _ => rfl) ?_
    refine E_Ld (q := 60) rfl rfl (fun _ _ => rfl) ?_
    refine E_Ald (q := 61) (j := i) (e := A (p + 6) (i)) rfl (ni_o5_6 hs hk).1 (ni_o5_6 hs hk).2.1 (ni_o5_6 hs hk).2.2.1 rfl (by omega) (by decide) (ni_L9 (ni_o5_6 hs hk).1 (ni_o5_6 hs hk).2.2.2 (by omega)) (fun _ _ => rfl) ?_
    refine E_toJ (q := 62) rfl ?_
    refine E_addJ (q := 63) rfl ?_
    generalize ((dg1) * (31)) + ((Int32.ofInt (A (p + 6) (i))).toInt64) = dg2
    refine E_St (q := 64) (ls' := [nf_J (b0), .inl ni_J, ni_aP (p), nf_J (dg2), .inl ni_J, ni_aI ((i : Int))]) rfl (fun _ _ => rfl) (fun _ _ => rfl) ?_
    refine E_Inc (q := 67) (ls' := [nf_J (b0), .inl ni_J, ni_aP (p), nf_J (dg2), .inl ni_J, ni_aI ((i : Int) + 1)]) (z := 1) rfl rfl rfl (fun _ _ => rfl) ?_
    refine E_Go (q := 29) rfl ?_
    exact ih (i + 1) (by omega) _
theorem mt_dgP {p : Nat} {b0 : Int64} (hs : ni_us p = true) (hk : ni_kd p = 5) (hn : 0 ≤ A p 10 ∧ A p 10 ≤ 250) (hq : ∀ i : Nat, (i : Int) < A p 10 → 0 ≤ A (p + 7) i ∧ A (p + 7) i ≤ 2147483647) : ni_M xs St 3 19 [nf_J b0, ni_aP p] A (fun v A' => ∃ x : Int64, v = some (nf_J x) ∧ A' = A) := by
  have h374 := (ni_usT hs).1
  refine ni_Min (ls := [nf_J (b0), .inl ni_J, ni_aP (p), .inl ni_J, .inl ni_J, .inl ni_J]) (fun _ => Nat.le_of_ble_eq_true rfl) (fun _ _ => rfl) ?_
  refine E_Ld (q := 1) rfl rfl (fun _ _ => rfl) ?_
  refine E_St (q := 2) (ls' := [nf_J (b0), .inl ni_J, ni_aP (p), nf_J (b0), .inl ni_J, .inl ni_J]) rfl (fun _ _ => rfl) (fun _ _ => rfl) ?_
  refine E_Ld (q := 3) rfl rfl (fun _ _ => rfl) ?_
  refine E_pushJ (q := 6) (c := 31) rfl ?_
  refine E_mulJ (q := 7) rfl ?_
  refine E_Ld (q := 8) rfl rfl (fun _ _ => rfl) ?_
  refine E_GetI (q := 11) (e := A (p) 11) rfl hs hk rfl rfl (fun _ _ => rfl) ?_
  refine E_toJ (q := 12) rfl ?_
  refine E_addJ (q := 13) rfl ?_
  generalize ((b0) * (31)) + ((Int32.ofInt (A (p) 11)).toInt64) = dg1
  refine E_St (q := 14) (ls' := [nf_J (b0), .inl ni_J, ni_aP (p), nf_J (dg1), .inl ni_J, .inl ni_J]) rfl (fun _ _ => rfl) (fun _ _ => rfl) ?_
  refine E_Ld (q := 15) rfl rfl (fun _ _ => rfl) ?_
  refine E_pushJ (q := 18) (c := 31) rfl ?_
  refine E_mulJ (q := 19) rfl ?_
  refine E_Ld (q := 20) rfl rfl (fun _ _ => rfl) ?_
  refine E_GetI (q := 23) (e := A (p) 13) rfl hs hk rfl rfl (fun _ _ => rfl) ?_
  refine E_toJ (q := 24) rfl ?_
  refine E_addJ (q := 25) rfl ?_
  generalize ((dg1) * (31)) + ((Int32.ofInt (A (p) 13)).toInt64) = dg2
  refine E_St (q := 26) (ls' := [nf_J (b0), .inl ni_J, ni_aP (p), nf_J (dg2), .inl ni_J, .inl ni_J]) rfl (fun _ _ => rfl) (fun _ _ => rfl) ?_
  refine E_push (q := 27) (c := 0) (z := 0) rfl rfl ?_
  refine E_St (q := 29) (ls' := [nf_J (b0), .inl ni_J, ni_aP (p), nf_J (dg2), .inl ni_J, ni_aI (0)]) rfl (fun _ _ => rfl) (fun _ _ => rfl) ?_
  exact mt_dgPL hs hk hn hq 4 0 rfl _
theorem mt_dgL {l : Nat} {b0 : Int64} (hl : l < 14) (h5 : A (48 + 17 * l) 5 = 0 ∨ A (48 + 17 * l) 5 = 1) (hn1 : 0 ≤ A (48 + 17 * l + 1) 10 ∧ A (48 + 17 * l + 1) 10 ≤ 250) (hq1 : ∀ i : Nat, (i : Int) < A (48 + 17 * l + 1) 10 → 0 ≤ A (48 + 17 * l + 1 + 7) i ∧ A (48 + 17 * l + 1 + 7) i ≤ 2147483647) (hn9 : 0 ≤ A (48 + 17 * l + 9) 10 ∧ A (48 + 17 * l + 9) 10 ≤ 250) (hq9 : ∀ i : Nat, (i : Int) < A (48 + 17 * l + 9) 10 → 0 ≤ A (48 + 17 * l + 9 + 7) i ∧ A (48 + 17 * l + 9 + 7) i ≤ 2147483647) : ni_M xs St 4 18 [nf_J b0, ni_aP (48 + 17 * l)] A (fun v A' => ∃ x : Int64, v = some (nf_J x) ∧ A' = A) := by
  refine ni_Min (ls := [nf_J (b0), .inl ni_J, ni_aP (48 + 17 * l), .inl ni_J, .inl ni_J]) (fun _ => Nat.le_of_ble_eq_true rfl) (fun _ _ => rfl) ?_
  refine E_Ld (q := 1) rfl rfl (fun _ _ => rfl) ?_
  refine E_St (q := 2) (ls' := [nf_J (b0), .inl ni_J, ni_aP (48 + 17 * l), nf_J (b0), .inl ni_J]) rfl (fun _ _ => rfl) (fun _ _ => rfl) ?_
  refine E_Ld (q := 3) rfl rfl (fun _ _ => rfl) ?_
  refine E_pushJ (q := 6) (c := 31) rfl ?_
  refine E_mulJ (q := 7) rfl ?_
  refine E_Ld (q := 8) rfl rfl (fun _ _ => rfl) ?_
  refine E_GetI (q := 11) (e := A (48 + 17 * l) 5) rfl (ni_liS l hl).1 (ni_liS l hl).2 rfl rfl (fun _ _ => rfl) ?_
  by_cases g11 : (A (48 + 17 * l) 5) = 0
  · refine E_If true rfl (zf_eq_t ⟨by omega, by omega⟩ g11) ?_
    refine E_push (q := 19) (c := 0) (z := 0) rfl rfl ?_
    refine E_toJ (q := 20) rfl ?_
    refine E_addJ (q := 21) rfl ?_
    generalize ((b0) * (31)) + ((Int32.ofInt (0)).toInt64) = dg1
    refine E_St (q := 22) (ls' := [nf_J (b0), .inl ni_J, ni_aP (48 + 17 * l), nf_J (dg1), .inl ni_J]) rfl (fun _ _ => rfl) (fun _ _ => rfl) ?_
    refine E_Ld (q := 23) rfl rfl (fun _ _ => rfl) ?_
    refine E_pushJ (q := 26) (c := 31) rfl ?_
    refine E_mulJ (q := 27) rfl ?_
    refine E_Ld (q := 28) rfl rfl (fun _ _ => rfl) ?_
    refine E_V (q := 31) (w := some (ni_aI (A (48 + 17 * l + 1 + 1) 4 + A (48 + 17 * l + 9 + 1) 4))) rfl rfl rfl (ni_liS l hl).1 (ni_liS l hl).2 rfl (Nat.le_of_ble_eq_true rfl) (fun _ _ _ => rfl) (ni_Dup (mt_countP (ni_liS l hl).1 (ni_liS l hl).2) (by decide)) (fun _ _ => rfl) (fun _ _ => rfl) ?_
    refine E_toJ (q := 32) rfl ?_
    refine E_addJ (q := 33) rfl ?_
    generalize ((dg1) * (31)) + ((Int32.ofInt (A (48 + 17 * l + 1 + 1) 4 + A (48 + 17 * l + 9 + 1) 4)).toInt64) = dg2
    refine E_St (q := 34) (ls' := [nf_J (b0), .inl ni_J, ni_aP (48 + 17 * l), nf_J (dg2), .inl ni_J]) rfl (fun _ _ => rfl) (fun _ _ => rfl) ?_
    refine E_Ld (q := 35) rfl rfl (fun _ _ => rfl) ?_
    refine E_Ld (q := 36) rfl rfl (fun _ _ => rfl) ?_
    refine E_Get (q := 39) (v := ni_aP (48 + 17 * l + 1)) rfl (ni_liS l hl).1 (ni_liS l hl).2 rfl rfl (fun _ _ => rfl) ?_
    obtain ⟨vp1, Ap1, ⟨x1, hvp1, hAp1⟩, hDp1⟩ := mt_dgP (xs := xs) (St := St) (A := A) (p := 48 + 17 * l + 1) (b0 := dg2) (ni_o3_1 (ni_liS l hl).1 (ni_liS l hl).2).1 (ni_o3_1 (ni_liS l hl).1 (ni_liS l hl).2).2.1 hn1 hq1
    subst hvp1
    rw [hAp1] at hDp1
    refine E_S (q := 42) (w := some (nf_J (x1))) rfl (Nat.le_of_ble_eq_true rfl) rfl rfl (Nat.le_of_ble_eq_true rfl) (fun _ _ _ => rfl) (hDp1) (fun _ _ => rfl) (fun _ _ => rfl) ?_
    refine E_St (q := 43) (ls' := [nf_J (b0), .inl ni_J, ni_aP (48 + 17 * l), nf_J (x1), .inl ni_J]) rfl (fun _ _ => rfl) (fun _ _ => rfl) ?_
    refine E_Ld (q := 44) rfl rfl (fun _ _ => rfl) ?_
    refine E_Ld (q := 45) rfl rfl (fun _ _ => rfl) ?_
    refine E_Get (q := 48) (v := ni_aP (48 + 17 * l + 9)) rfl (ni_liS l hl).1 (ni_liS l hl).2 rfl rfl (fun _ _ => rfl) ?_
    obtain ⟨vp2, Ap2, ⟨x2, hvp2, hAp2⟩, hDp2⟩ := mt_dgP (xs := xs) (St := St) (A := A) (p := 48 + 17 * l + 9) (b0 := x1) (ni_o3_9 (ni_liS l hl).1 (ni_liS l hl).2).1 (ni_o3_9 (ni_liS l hl).1 (ni_liS l hl).2).2.1 hn9 hq9
    subst hvp2
    rw [hAp2] at hDp2
    refine E_S (q := 51) (w := some (nf_J (x2))) rfl (Nat.le_of_ble_eq_true rfl) rfl rfl (Nat.le_of_ble_eq_true rfl) (fun _ _ _ => rfl) (hDp2) (fun _ _ => rfl) (fun _ _ => rfl) ?_
    refine E_R rfl (fun _ _ => rfl) (fun _ _ => rfl) ?_
    exact ⟨_, rfl, rfl⟩
  · refine E_If false rfl (zf_eq_f ⟨by omega, by omega⟩ g11) ?_
    refine E_push (q := 15) (c := 1) (z := 1) rfl rfl ?_
    refine E_Go (q := 19) rfl ?_
    refine E_toJ (q := 20) rfl ?_
    refine E_addJ (q := 21) rfl ?_
    generalize ((b0) * (31)) + ((Int32.ofInt (1)).toInt64) = dg1
    refine E_St (q := 22) (ls' := [nf_J (b0), .inl ni_J, ni_aP (48 + 17 * l), nf_J (dg1), .inl ni_J]) rfl (fun _ _ => rfl) (fun _ _ => rfl) ?_
    refine E_Ld (q := 23) rfl rfl (fun _ _ => rfl) ?_
    refine E_pushJ (q := 26) (c := 31) rfl ?_
    refine E_mulJ (q := 27) rfl ?_
    refine E_Ld (q := 28) rfl rfl (fun _ _ => rfl) ?_
    refine E_V (q := 31) (w := some (ni_aI (A (48 + 17 * l + 1 + 1) 4 + A (48 + 17 * l + 9 + 1) 4))) rfl rfl rfl (ni_liS l hl).1 (ni_liS l hl).2 rfl (Nat.le_of_ble_eq_true rfl) (fun _ _ _ => rfl) (ni_Dup (mt_countP (ni_liS l hl).1 (ni_liS l hl).2) (by decide)) (fun _ _ => rfl) (fun _ _ => rfl) ?_
    refine E_toJ (q := 32) rfl ?_
    refine E_addJ (q := 33) rfl ?_
    generalize ((dg1) * (31)) + ((Int32.ofInt (A (48 + 17 * l + 1 + 1) 4 + A (48 + 17 * l + 9 + 1) 4)).toInt64) = dg2
    refine E_St (q := 34) (ls' := [nf_J (b0), .inl ni_J, ni_aP (48 + 17 * l), nf_J (dg2), .inl ni_J]) rfl (fun _ _ => rfl) (fun _ _ => rfl) ?_
    refine E_Ld (q := 35) rfl rfl (fun _ _ => rfl) ?_
    refine E_Ld (q := 36) rfl rfl (fun _ _ => rfl) ?_
    refine E_Get (q := 39) (v := ni_aP (48 + 17 * l + 1)) rfl (ni_liS l hl).1 (ni_liS l hl).2 rfl rfl (fun _ _ => rfl) ?_
    obtain ⟨vp1, Ap1, ⟨x1, hvp1, hAp1⟩, hDp1⟩ := mt_dgP (xs := xs) (St := St) (A := A) (p := 48 + 17 * l + 1) (b0 := dg2) (ni_o3_1 (ni_liS l hl).1 (ni_liS l hl).2).1 (ni_o3_1 (ni_liS l hl).1 (ni_liS l hl).2).2.1 hn1 hq1
    subst hvp1
    rw [hAp1] at hDp1
    refine E_S (q := 42) (w := some (nf_J (x1))) rfl (Nat.le_of_ble_eq_true rfl) rfl rfl (Nat.le_of_ble_eq_true rfl) (fun _ _ _ => rfl) (hDp1) (fun _ _ => rfl) (fun _ _ => rfl) ?_
    refine E_St (q := 43) (ls' := [nf_J (b0), .inl ni_J, ni_aP (48 + 17 * l), nf_J (x1), .inl ni_J]) rfl (fun _ _ => rfl) (fun _ _ => rfl) ?_
    refine E_Ld (q := 44) rfl rfl (fun _ _ => rfl) ?_
    refine E_Ld (q := 45) rfl rfl (fun _ _ => rfl) ?_
    refine E_Get (q := 48) (v := ni_aP (48 + 17 * l + 9)) rfl (ni_liS l hl).1 (ni_liS l hl).2 rfl rfl (fun _ _ => rfl) ?_
    obtain ⟨vp2, Ap2, ⟨x2, hvp2, hAp2⟩, hDp2⟩ := mt_dgP (xs := xs) (St := St) (A := A) (p := 48 + 17 * l + 9) (b0 := x1) (ni_o3_9 (ni_liS l hl).1 (ni_liS l hl).2).1 (ni_o3_9 (ni_liS l hl).1 (ni_liS l hl).2).2.1 hn9 hq9
    subst hvp2
    rw [hAp2] at hDp2
    refine E_S (q := 51) (w := some (nf_J (x2))) rfl (Nat.le_of_ble_eq_true rfl) rfl rfl (Nat.le_of_ble_eq_true rfl) (fun _ _ _ => rfl) (hDp2) (fun _ _ => rfl) (fun _ _ => rfl) ?_
    refine E_R rfl (fun _ _ => rfl) (fun _ _ => rfl) ?_
    exact ⟨_, rfl, rfl⟩
theorem mt_dgRL {r : Nat} {b0 : Int64} (hm : St m = some (9, [.ref n0, .ref n1])) (hZ : ∀ ad, Z ad → ad 0 = n0) (hr : r < 8) (hrc : (r : Int) < A 0 1) (h1 : A 0 1 ≤ 8) (hLK : ni_LK St A (286 + 11 * r)) (hRD : ni_RD A (286 + 11 * r) r 10000) (hTS : ni_TS A (286 + 11 * r + 7)) : ∀ k i : Nat, ((i : Int) + k = A 0 1) → ∀ d0 : Int64, ni_E xs St Z 23 20 6 [ni_aL (m), nf_J (b0), .inl ni_J, ni_aP (286 + 11 * r), nf_J (d0), .inl ni_J, ni_aI ((i : Int))] [] A (ni_live A) (fun v A' => ∃ x : Int64, v = some (nf_J x) ∧ A' = A) := by
  obtain ⟨nn, dd, ⟨v1, B1, ⟨hv1, hB1⟩, hN⟩, ⟨v2, B2, ⟨hv2, hB2⟩, hE⟩, _⟩ := mt_countT (xs := xs) (St := St) (A := A) (t := 286 + 11 * r + 7) (ni_o7_7 (ni_roS r hr).1 (ni_roS r hr).2).1 (ni_o7_7 (ni_roS r hr).1 (ni_roS r hr).2).2.1 hTS
  subst hv1 hv2
  rw [hB1] at hN
  rw [hB2] at hE
  intro k
  induction k with
  | zero =>
    intro i hi d0
    refine E_Ld (q := 8) rfl rfl (fun _ _ => rfl) ?_
    refine E_Ld (q := 9) rfl rfl (fun _ _ => rfl) ?_
    refine E_GetT (q := 12) rfl hm hZ ?_
    refine E_GetI (q := 15) (e := A (0) 1) rfl (show ni_us 0 = true by decide +kernel) (show ni_kd 0 = 4 by decide +kernel) rfl rfl (fun _ _ => rfl) ?_
    refine E_Ic true rfl (zc_ge_t ⟨by omega, by omega⟩ ⟨by omega, by omega⟩ (by omega)) ?_
    refine E_Ld (q := 83) rfl rfl (fun _ _ => rfl) ?_
    refine E_pushJ (q := 86) (c := 31) rfl ?_
    refine E_mulJ (q := 87) rfl ?_
    refine E_Ld (q := 88) rfl rfl (fun _ _ => rfl) ?_
    refine E_Get (q := 91) (v := ni_aP (286 + 11 * r + 7)) rfl (ni_roS r hr).1 (ni_roS r hr).2 rfl rfl (fun _ _ => rfl) ?_
    refine E_GetI (q := 94) (e := A (286 + 11 * r + 7) 3) rfl (ni_o7_7 (ni_roS r hr).1 (ni_roS r hr).2).1 (ni_o7_7 (ni_roS r hr).1 (ni_roS r hr).2).2.1 rfl rfl (fun _ _ => rfl) ?_
    refine E_toJ (q := 95) rfl ?_
    refine E_addJ (q := 96) rfl ?_
    generalize ((d0) * (31)) + ((Int32.ofInt (A (286 + 11 * r + 7) 3)).toInt64) = dg1
    refine E_St (q := 98) (ls' := [ni_aL (m), nf_J (b0), .inl ni_J, ni_aP (286 + 11 * r), nf_J (dg1), .inl ni_J, ni_aI ((i : Int))]) rfl (fun _ _ => rfl) (fun _ _ => rfl) ?_
    refine E_Ld (q := 100) rfl rfl (fun _ _ => rfl) ?_
    refine E_pushJ (q := 103) (c := 31) rfl ?_
    refine E_mulJ (q := 104) rfl ?_
    refine E_Ld (q := 105) rfl rfl (fun _ _ => rfl) ?_
    refine E_Get (q := 108) (v := ni_aP (286 + 11 * r + 7)) rfl (ni_roS r hr).1 (ni_roS r hr).2 rfl rfl (fun _ _ => rfl) ?_
    refine E_V (q := 111) (w := some (ni_aI (nn))) rfl rfl rfl (ni_o7_7 (ni_roS r hr).1 (ni_roS r hr).2).1 (ni_o7_7 (ni_roS r hr).1 (ni_roS r hr).2).2.1 rfl (Nat.le_of_ble_eq_true rfl) (fun _ _ _ => rfl) (ni_Dup hN (by decide)) (fun _ _ => rfl) (fun _ _ => rfl) ?_
    refine E_toJ (q := 112) rfl ?_
    refine E_addJ (q := 113) rfl ?_
    generalize ((dg1) * (31)) + ((Int32.ofInt (nn)).toInt64) = dg2
    refine E_St (q := 115) (ls' := [ni_aL (m), nf_J (b0), .inl ni_J, ni_aP (286 + 11 * r), nf_J (dg2), .inl ni_J, ni_aI ((i : Int))]) rfl (fun _ _ => rfl) (fun _ _ => rfl) ?_
    refine E_Ld (q := 117) rfl rfl (fun _ _ => rfl) ?_
    refine E_pushJ (q := 120) (c := 31) rfl ?_
    refine E_mulJ (q := 121) rfl ?_
    refine E_Ld (q := 122) rfl rfl (fun _ _ => rfl) ?_
    refine E_Get (q := 125) (v := ni_aP (286 + 11 * r + 7)) rfl (ni_roS r hr).1 (ni_roS r hr).2 rfl rfl (fun _ _ => rfl) ?_
    refine E_V (q := 128) (w := some (ni_aI (dd))) rfl rfl rfl (ni_o7_7 (ni_roS r hr).1 (ni_roS r hr).2).1 (ni_o7_7 (ni_roS r hr).1 (ni_roS r hr).2).2.1 rfl (Nat.le_of_ble_eq_true rfl) (fun _ _ _ => rfl) (ni_Dup hE (by decide)) (fun _ _ => rfl) (fun _ _ => rfl) ?_
    refine E_toJ (q := 129) rfl ?_
    refine E_addJ (q := 130) rfl ?_
    generalize ((dg2) * (31)) + ((Int32.ofInt (dd)).toInt64) = dg3
    refine E_St (q := 132) (ls' := [ni_aL (m), nf_J (b0), .inl ni_J, ni_aP (286 + 11 * r), nf_J (dg3), .inl ni_J, ni_aI ((i : Int))]) rfl (fun _ _ => rfl) (fun _ _ => rfl) ?_
    refine E_Ld (q := 134) rfl rfl (fun _ _ => rfl) ?_
    refine E_R rfl (fun _ _ => rfl) (fun _ _ => rfl) ?_
    exact ⟨_, rfl, rfl⟩
  | succ k ih =>
    intro i hi d0
    obtain ⟨o1, n1, s1, ca1, na1, cs1, ns1, hb, _⟩ := (hLK i (by omega)).2
    have h6 := ni_rd0 (hRD.2 i (by omega)) (by omega)
    obtain ⟨b, hb6⟩ := Int.eq_ofNat_of_zero_le h6.2.2.1
    have hbc := mt_bitc (xs := xs) (n := b) (by omega)
    rw [← hb6] at hbc
    refine E_Ld (q := 8) rfl rfl (fun _ _ => rfl) ?_
    refine E_Ld (q := 9) rfl rfl (fun _ _ => rfl) ?_
    refine E_GetT (q := 12) rfl hm hZ ?_
    refine E_GetI (q := 15) (e := A (0) 1) rfl (show ni_us 0 = true by decide +kernel) (show ni_kd 0 = 4 by decide +kernel) rfl rfl (fun _ _ => rfl) ?_
    refine E_Ic false rfl (zc_ge_f ⟨by omega, by omega⟩ ⟨by omega, by omega⟩ (by omega)) ?_
    refine E_Ld (q := 20) rfl rfl (fun _ _ => rfl) ?_
    refine E_pushJ (q := 23) (c := 31) rfl ?_
    refine E_mulJ (q := 24) rfl ?_
    refine E_Ld (q := 25) rfl rfl (fun _ _ => rfl) ?_
    refine E_Get (q := 28) (v := ni_aP (286 + 11 * r + 4)) rfl (ni_roS r hr).1 (ni_roS r hr).2 rfl rfl (fun _ _ => rfl) ?_
    refine E_Ld (q := 30) rfl rfl (fun _ _ => rfl) ?_
    refine E_Qld (q := 31) (j := i) (v := ni_aL (A (286 + 11 * r + 4) (i)).toNat) rfl (ni_o7_4 (ni_roS r hr).1 (ni_roS r hr).2).1 (ni_o7_4 (ni_roS r hr).1 (ni_roS r hr).2).2.1 (ni_o7_4 (ni_roS r hr).1 (ni_roS r hr).2).2.2.1 ⟨by decide, rfl⟩ rfl (by omega) (by decide) (ni_L7 (ni_o7_4 (ni_roS r hr).1 (ni_roS r hr).2).1 (ni_ctR r hr) hrc (by omega)) (fun _ _ => rfl) (fun _ _ => rfl) ?_
    refine E_GetS (q := 34) (v := ni_aI (n1)) rfl hb (fun _ _ => rfl) ?_
    refine E_toJ (q := 35) rfl ?_
    refine E_addJ (q := 36) rfl ?_
    generalize ((d0) * (31)) + ((Int32.ofInt (n1)).toInt64) = dg1
    refine E_St (q := 38) (ls' := [ni_aL (m), nf_J (b0), .inl ni_J, ni_aP (286 + 11 * r), nf_J (dg1), .inl ni_J, ni_aI ((i : Int))]) rfl (fun _ _ => rfl) (fun _ _ => rfl) ?_
    refine E_Ld (q := 40) rfl rfl (fun _ _ => rfl) ?_
    refine E_pushJ (q := 43) (c := 31) rfl ?_
    refine E_mulJ (q := 44) rfl ?_
    refine E_Ld (q := 45) rfl rfl (fun _ _ => rfl) ?_
    refine E_Get (q := 48) (v := ni_aP (286 + 11 * r + 5)) rfl (ni_roS r hr).1 (ni_roS r hr).2 rfl rfl (fun _ _ => rfl) ?_
    refine E_Ld (q := 50) rfl rfl (fun _ _ => rfl) ?_
    refine E_Ald (q := 51) (j := i) (e := A (286 + 11 * r + 5) (i)) rfl (ni_o7_5 (ni_roS r hr).1 (ni_roS r hr).2).1 (ni_o7_5 (ni_roS r hr).1 (ni_roS r hr).2).2.1 (ni_o7_5 (ni_roS r hr).1 (ni_roS r hr).2).2.2.1 rfl (by omega) (by decide) (ni_L9 (ni_o7_5 (ni_roS r hr).1 (ni_roS r hr).2).1 (ni_o7_5 (ni_roS r hr).1 (ni_roS r hr).2).2.2.2 (by omega)) (fun _ _ => rfl) ?_
    refine E_toJ (q := 52) rfl ?_
    refine E_addJ (q := 53) rfl ?_
    generalize ((dg1) * (31)) + ((Int32.ofInt (A (286 + 11 * r + 5) (i))).toInt64) = dg2
    refine E_St (q := 55) (ls' := [ni_aL (m), nf_J (b0), .inl ni_J, ni_aP (286 + 11 * r), nf_J (dg2), .inl ni_J, ni_aI ((i : Int))]) rfl (fun _ _ => rfl) (fun _ _ => rfl) ?_
    refine E_Ld (q := 57) rfl rfl (fun _ _ => rfl) ?_
    refine E_pushJ (q := 60) (c := 31) rfl ?_
    refine E_mulJ (q := 61) rfl ?_
    refine E_Ld (q := 62) rfl rfl (fun _ _ => rfl) ?_
    refine E_Get (q := 65) (v := ni_aP (286 + 11 * r + 6)) rfl (ni_roS r hr).1 (ni_roS r hr).2 rfl rfl (fun _ _ => rfl) ?_
    refine E_Ld (q := 67) rfl rfl (fun _ _ => rfl) ?_
    refine E_Ald (q := 68) (j := i) (e := A (286 + 11 * r + 6) (i)) rfl (ni_o7_6 (ni_roS r hr).1 (ni_roS r hr).2).1 (ni_o7_6 (ni_roS r hr).1 (ni_roS r hr).2).2.1 (ni_o7_6 (ni_roS r hr).1 (ni_roS r hr).2).2.2.1 rfl (by omega) (by decide) (ni_L9 (ni_o7_6 (ni_roS r hr).1 (ni_roS r hr).2).1 (ni_o7_6 (ni_roS r hr).1 (ni_roS r hr).2).2.2.2 (by omega)) (fun _ _ => rfl) ?_
    refine E_C (q := 71) (w := some (ni_aI ((ni_bc b : Int)))) rfl (Nat.le_of_ble_eq_true rfl) rfl rfl (Nat.le_of_ble_eq_true rfl) (ni_PuUp hbc (by decide)) (fun _ _ => rfl) (fun _ _ => rfl) ?_
    refine E_toJ (q := 72) rfl ?_
    refine E_addJ (q := 73) rfl ?_
    generalize ((dg2) * (31)) + ((Int32.ofInt ((ni_bc b : Int))).toInt64) = dg3
    refine E_St (q := 75) (ls' := [ni_aL (m), nf_J (b0), .inl ni_J, ni_aP (286 + 11 * r), nf_J (dg3), .inl ni_J, ni_aI ((i : Int))]) rfl (fun _ _ => rfl) (fun _ _ => rfl) ?_
    refine E_Inc (q := 78) (ls' := [ni_aL (m), nf_J (b0), .inl ni_J, ni_aP (286 + 11 * r), nf_J (dg3), .inl ni_J, ni_aI ((i : Int) + 1)]) (z := 1) rfl rfl rfl (fun _ _ => rfl) ?_
    refine E_Go (q := 6) rfl ?_
    exact ih (i + 1) (by omega) _
theorem mt_dgR {r : Nat} {b0 : Int64} (hm : St m = some (9, [.ref n0, .ref n1])) (hZ : ∀ ad, Z ad → ad 0 = n0) (hr : r < 8) (hrc : (r : Int) < A 0 1) (h1 : A 0 1 ≤ 8) (hLK : ni_LK St A (286 + 11 * r)) (hRD : ni_RD A (286 + 11 * r) r 10000) (hTS : ni_TS A (286 + 11 * r + 7)) : nf_F xs St Z 24 20 [ni_aL m, nf_J b0, ni_aP (286 + 11 * r)] A (fun v A' => ∃ x : Int64, v = some (nf_J x) ∧ A' = A) := by
  refine nf_Fin (ls := [ni_aL (m), nf_J (b0), .inl ni_J, ni_aP (286 + 11 * r), .inl ni_J, .inl ni_J, .inl ni_J]) (fun _ => Nat.le_of_ble_eq_true rfl) (fun _ _ => rfl) ?_
  refine E_Ld (q := 1) rfl rfl (fun _ _ => rfl) ?_
  refine E_St (q := 3) (ls' := [ni_aL (m), nf_J (b0), .inl ni_J, ni_aP (286 + 11 * r), nf_J (b0), .inl ni_J, .inl ni_J]) rfl (fun _ _ => rfl) (fun _ _ => rfl) ?_
  refine E_push (q := 4) (c := 0) (z := 0) rfl rfl ?_
  refine E_St (q := 6) (ls' := [ni_aL (m), nf_J (b0), .inl ni_J, ni_aP (286 + 11 * r), nf_J (b0), .inl ni_J, ni_aI (0)]) rfl (fun _ _ => rfl) (fun _ _ => rfl) ?_
  exact mt_dgRL hm hZ hr hrc h1 hLK hRD hTS (A 0 1).toNat 0 (by omega) _
theorem mt_dgF2 {f : Nat} {b0 : Int64} (hm : St m = some (9, [.ref n0, .ref n1])) (hZ : ∀ ad, Z ad → ad 0 = n0) (hf : f < 12) (hfc : (f : Int) < A 0 3) (hC : nq_C A) (hLE : nq_LE2 A) : ∀ k i : Nat, ((i : Int) + k = A 0 1) → ∀ d0 : Int64, ni_E xs St Z 23 17 159 [ni_aL (m), nf_J (b0), .inl ni_J, ni_aI ((f : Int)), ni_aP (12 + 3 * f), nf_J (d0), .inl ni_J, ni_aI ((i : Int))] [] A (ni_live A) (fun v A' => ∃ x : Int64, v = some (nf_J x) ∧ A' = A) := by
  have hrc := hC.2.2.1
  intro k
  induction k with
  | zero =>
    intro i hi d0
    refine E_Ld (q := 161) rfl rfl (fun _ _ => rfl) ?_
    refine E_Ld (q := 162) rfl rfl (fun _ _ => rfl) ?_
    refine E_GetT (q := 165) rfl hm hZ ?_
    refine E_GetI (q := 168) (e := A (0) 1) rfl (show ni_us 0 = true by decide +kernel) (show ni_kd 0 = 4 by decide +kernel) rfl rfl (fun _ _ => rfl) ?_
    refine E_Ic true rfl (zc_ge_t ⟨by omega, by omega⟩ ⟨by omega, by omega⟩ (by omega)) ?_
    refine E_Ld (q := 199) rfl rfl (fun _ _ => rfl) ?_
    refine E_R rfl (fun _ _ => rfl) (fun _ _ => rfl) ?_
    exact ⟨_, rfl, rfl⟩
  | succ k ih =>
    intro i hi d0
    refine E_Ld (q := 161) rfl rfl (fun _ _ => rfl) ?_
    refine E_Ld (q := 162) rfl rfl (fun _ _ => rfl) ?_
    refine E_GetT (q := 165) rfl hm hZ ?_
    refine E_GetI (q := 168) (e := A (0) 1) rfl (show ni_us 0 = true by decide +kernel) (show ni_kd 0 = 4 by decide +kernel) rfl rfl (fun _ _ => rfl) ?_
    refine E_Ic false rfl (zc_ge_f ⟨by omega, by omega⟩ ⟨by omega, by omega⟩ (by omega)) ?_
    refine E_Ld (q := 173) rfl rfl (fun _ _ => rfl) ?_
    refine E_pushJ (q := 176) (c := 31) rfl ?_
    refine E_mulJ (q := 177) rfl ?_
    refine E_Ld (q := 178) rfl rfl (fun _ _ => rfl) ?_
    refine E_GetT (q := 181) rfl hm hZ ?_
    refine E_Ld (q := 183) rfl rfl (fun _ _ => rfl) ?_
    refine E_Ld (q := 184) rfl rfl (fun _ _ => rfl) ?_
    obtain ⟨vt, hDt, _⟩ := mt_toward (xs := xs) (St := St) (A := A) (r := i) (f := f) (by omega) hf (hC.2.2.2 i (by omega) (by omega))
    refine E_V (q := 187) (w := some (ni_aI (vt))) rfl rfl rfl (show ni_us 0 = true by decide +kernel) (show ni_kd 0 = 4 by decide +kernel) rfl (Nat.le_of_ble_eq_true rfl) (fun _ _ _ => rfl) (ni_Dup hDt (by decide)) (fun _ _ => rfl) (fun _ _ => rfl) ?_
    refine E_toJ (q := 188) rfl ?_
    refine E_addJ (q := 189) rfl ?_
    generalize ((d0) * (31)) + ((Int32.ofInt (vt)).toInt64) = dg1
    refine E_St (q := 191) (ls' := [ni_aL (m), nf_J (b0), .inl ni_J, ni_aI ((f : Int)), ni_aP (12 + 3 * f), nf_J (dg1), .inl ni_J, ni_aI ((i : Int))]) rfl (fun _ _ => rfl) (fun _ _ => rfl) ?_
    refine E_Inc (q := 194) (ls' := [ni_aL (m), nf_J (b0), .inl ni_J, ni_aI ((f : Int)), ni_aP (12 + 3 * f), nf_J (dg1), .inl ni_J, ni_aI ((i : Int) + 1)]) (z := 1) rfl rfl rfl (fun _ _ => rfl) ?_
    refine E_Go (q := 159) rfl ?_
    exact ih (i + 1) (by omega) _
theorem mt_dgF1 {f : Nat} {b0 : Int64} (hm : St m = some (9, [.ref n0, .ref n1])) (hZ : ∀ ad, Z ad → ad 0 = n0) (hf : f < 12) (hfc : (f : Int) < A 0 3) (hC : nq_C A) (hLE : nq_LE2 A) : ∀ k i : Nat, i + k = 7 → ∀ d0 : Int64, ni_E xs St Z 23 17 77 [ni_aL (m), nf_J (b0), .inl ni_J, ni_aI ((f : Int)), ni_aP (12 + 3 * f), nf_J (d0), .inl ni_J, ni_aI ((i : Int))] [] A (ni_live A) (fun v A' => ∃ x : Int64, v = some (nf_J x) ∧ A' = A) := by
  have hrc := hC.2.2.1
  intro k
  induction k with
  | zero =>
    intro i hi d0
    refine E_Ld (q := 79) rfl rfl (fun _ _ => rfl) ?_
    refine E_push (q := 81) (c := 7) (z := 7) rfl rfl ?_
    refine E_Ic true rfl (zc_ge_t ⟨by omega, by omega⟩ ⟨by omega, by omega⟩ (by omega)) ?_
    refine E_Ld (q := 110) rfl rfl (fun _ _ => rfl) ?_
    refine E_pushJ (q := 113) (c := 31) rfl ?_
    refine E_mulJ (q := 114) rfl ?_
    refine E_Ld (q := 116) rfl rfl (fun _ _ => rfl) ?_
    refine E_GetI (q := 119) (e := A (12 + 3 * f) 16) rfl (ni_flS f hf).1 (ni_flS f hf).2 rfl rfl (fun _ _ => rfl) ?_
    refine E_toJ (q := 120) rfl ?_
    refine E_addJ (q := 121) rfl ?_
    generalize ((d0) * (31)) + ((Int32.ofInt (A (12 + 3 * f) 16)).toInt64) = dg1
    refine E_St (q := 123) (ls' := [ni_aL (m), nf_J (b0), .inl ni_J, ni_aI ((f : Int)), ni_aP (12 + 3 * f), nf_J (dg1), .inl ni_J, ni_aI ((i : Int))]) rfl (fun _ _ => rfl) (fun _ _ => rfl) ?_
    refine E_Ld (q := 125) rfl rfl (fun _ _ => rfl) ?_
    refine E_pushJ (q := 128) (c := 31) rfl ?_
    refine E_mulJ (q := 129) rfl ?_
    refine E_Ld (q := 131) rfl rfl (fun _ _ => rfl) ?_
    refine E_GetI (q := 134) (e := A (12 + 3 * f) 18) rfl (ni_flS f hf).1 (ni_flS f hf).2 rfl rfl (fun _ _ => rfl) ?_
    refine E_toJ (q := 135) rfl ?_
    refine E_addJ (q := 136) rfl ?_
    generalize ((dg1) * (31)) + ((Int32.ofInt (A (12 + 3 * f) 18)).toInt64) = dg2
    refine E_St (q := 138) (ls' := [ni_aL (m), nf_J (b0), .inl ni_J, ni_aI ((f : Int)), ni_aP (12 + 3 * f), nf_J (dg2), .inl ni_J, ni_aI ((i : Int))]) rfl (fun _ _ => rfl) (fun _ _ => rfl) ?_
    refine E_Ld (q := 140) rfl rfl (fun _ _ => rfl) ?_
    refine E_pushJ (q := 143) (c := 31) rfl ?_
    refine E_mulJ (q := 144) rfl ?_
    refine E_Ld (q := 145) rfl rfl (fun _ _ => rfl) ?_
    refine E_GetT (q := 148) rfl hm hZ ?_
    refine E_Ld (q := 149) rfl rfl (fun _ _ => rfl) ?_
    obtain ⟨vf, Af, ⟨x, hvf, hAf, _⟩, hDf⟩ := mt_follow (xs := xs) (St := St) hf hfc hC hLE
    subst hvf
    rw [hAf] at hDf
    refine E_V (q := 152) (w := some (ni_aI (x))) rfl rfl rfl (show ni_us 0 = true by decide +kernel) (show ni_kd 0 = 4 by decide +kernel) rfl (Nat.le_of_ble_eq_true rfl) (fun _ _ _ => rfl) (ni_Dup hDf (by decide)) (fun _ _ => rfl) (fun _ _ => rfl) ?_
    refine E_toJ (q := 153) rfl ?_
    refine E_addJ (q := 154) rfl ?_
    generalize ((dg2) * (31)) + ((Int32.ofInt (x)).toInt64) = dg3
    refine E_St (q := 156) (ls' := [ni_aL (m), nf_J (b0), .inl ni_J, ni_aI ((f : Int)), ni_aP (12 + 3 * f), nf_J (dg3), .inl ni_J, ni_aI ((i : Int))]) rfl (fun _ _ => rfl) (fun _ _ => rfl) ?_
    refine E_push (q := 157) (c := 0) (z := 0) rfl rfl ?_
    refine E_St (q := 159) (ls' := [ni_aL (m), nf_J (b0), .inl ni_J, ni_aI ((f : Int)), ni_aP (12 + 3 * f), nf_J (dg3), .inl ni_J, ni_aI (0)]) rfl (fun _ _ => rfl) (fun _ _ => rfl) ?_
    exact mt_dgF2 hm hZ hf hfc hC hLE (A 0 1).toNat 0 (by omega) _
  | succ k ih =>
    intro i hi d0
    refine E_Ld (q := 79) rfl rfl (fun _ _ => rfl) ?_
    refine E_push (q := 81) (c := 7) (z := 7) rfl rfl ?_
    refine E_Ic false rfl (zc_ge_f ⟨by omega, by omega⟩ ⟨by omega, by omega⟩ (by omega)) ?_
    refine E_Ld (q := 86) rfl rfl (fun _ _ => rfl) ?_
    refine E_pushJ (q := 89) (c := 31) rfl ?_
    refine E_mulJ (q := 90) rfl ?_
    refine E_Ld (q := 92) rfl rfl (fun _ _ => rfl) ?_
    refine E_Get (q := 95) (v := ni_aP (12 + 3 * f + 2)) rfl (ni_flS f hf).1 (ni_flS f hf).2 rfl rfl (fun _ _ => rfl) ?_
    refine E_Ld (q := 97) rfl rfl (fun _ _ => rfl) ?_
    refine E_Ald (q := 98) (j := i) (e := A (12 + 3 * f + 2) (i)) rfl (ni_o0_2 (ni_flS f hf).1 (ni_flS f hf).2).1 (ni_o0_2 (ni_flS f hf).1 (ni_flS f hf).2).2.1 (ni_o0_2 (ni_flS f hf).1 (ni_flS f hf).2).2.2.1 rfl (by omega) (by decide) (ni_L9 (ni_o0_2 (ni_flS f hf).1 (ni_flS f hf).2).1 (ni_o0_2 (ni_flS f hf).1 (ni_flS f hf).2).2.2.2 (by omega)) (fun _ _ => rfl) ?_
    refine E_toJ (q := 99) rfl ?_
    refine E_addJ (q := 100) rfl ?_
    generalize ((d0) * (31)) + ((Int32.ofInt (A (12 + 3 * f + 2) (i))).toInt64) = dg1
    refine E_St (q := 102) (ls' := [ni_aL (m), nf_J (b0), .inl ni_J, ni_aI ((f : Int)), ni_aP (12 + 3 * f), nf_J (dg1), .inl ni_J, ni_aI ((i : Int))]) rfl (fun _ _ => rfl) (fun _ _ => rfl) ?_
    refine E_Inc (q := 105) (ls' := [ni_aL (m), nf_J (b0), .inl ni_J, ni_aI ((f : Int)), ni_aP (12 + 3 * f), nf_J (dg1), .inl ni_J, ni_aI ((i : Int) + 1)]) (z := 1) rfl rfl rfl (fun _ _ => rfl) ?_
    refine E_Go (q := 77) rfl ?_
    exact ih (i + 1) (by omega) _
theorem mt_dgF {f : Nat} {b0 : Int64} (hm : St m = some (9, [.ref n0, .ref n1])) (hZ : ∀ ad, Z ad → ad 0 = n0) (hf : f < 12) (hfc : (f : Int) < A 0 3) (hC : nq_C A) (hLE : nq_LE2 A) : nf_F xs St Z 24 17 [ni_aL m, nf_J b0, ni_aI (f : Int)] A (fun v A' => ∃ x : Int64, v = some (nf_J x) ∧ A' = A) := by
  refine nf_Fin (ls := [ni_aL (m), nf_J (b0), .inl ni_J, ni_aI ((f : Int)), .inl ni_J, .inl ni_J, .inl ni_J, .inl ni_J]) (fun _ => Nat.le_of_ble_eq_true rfl) (fun _ _ => rfl) ?_
  refine E_Ld (q := 1) rfl rfl (fun _ _ => rfl) ?_
  refine E_GetT (q := 4) rfl hm hZ ?_
  refine E_Get (q := 7) (v := ni_aP 3) rfl (show ni_us 0 = true by decide +kernel) (show ni_kd 0 = 4 by decide +kernel) rfl rfl (fun _ _ => rfl) ?_
  refine E_Ld (q := 8) rfl rfl (fun _ _ => rfl) ?_
  refine E_Qld (q := 9) (j := f) (v := ni_aP (12 + 3 * f)) rfl (show ni_us 3 = true by decide +kernel) (show ni_kd 3 = 103 by decide +kernel) (show ni_ln 3 = 12 by decide +kernel) ⟨by decide, rfl⟩ rfl (by omega) (by decide) (ni_L9 (show ni_us 3 = true by decide +kernel) (by decide +kernel) (by omega)) (fun _ _ => rfl) (fun _ _ => rfl) ?_
  refine E_St (q := 11) (ls' := [ni_aL (m), nf_J (b0), .inl ni_J, ni_aI ((f : Int)), ni_aP (12 + 3 * f), .inl ni_J, .inl ni_J, .inl ni_J]) rfl (fun _ _ => rfl) (fun _ _ => rfl) ?_
  refine E_Ld (q := 12) rfl rfl (fun _ _ => rfl) ?_
  refine E_St (q := 14) (ls' := [ni_aL (m), nf_J (b0), .inl ni_J, ni_aI ((f : Int)), ni_aP (12 + 3 * f), nf_J (b0), .inl ni_J, .inl ni_J]) rfl (fun _ _ => rfl) (fun _ _ => rfl) ?_
  refine E_Ld (q := 16) rfl rfl (fun _ _ => rfl) ?_
  refine E_pushJ (q := 19) (c := 31) rfl ?_
  refine E_mulJ (q := 20) rfl ?_
  refine E_Ld (q := 22) rfl rfl (fun _ _ => rfl) ?_
  refine E_GetI (q := 25) (e := A (12 + 3 * f) 12) rfl (ni_flS f hf).1 (ni_flS f hf).2 rfl rfl (fun _ _ => rfl) ?_
  refine E_toJ (q := 26) rfl ?_
  refine E_addJ (q := 27) rfl ?_
  generalize ((b0) * (31)) + ((Int32.ofInt (A (12 + 3 * f) 12)).toInt64) = dg1
  refine E_St (q := 29) (ls' := [ni_aL (m), nf_J (b0), .inl ni_J, ni_aI ((f : Int)), ni_aP (12 + 3 * f), nf_J (dg1), .inl ni_J, .inl ni_J]) rfl (fun _ _ => rfl) (fun _ _ => rfl) ?_
  refine E_Ld (q := 31) rfl rfl (fun _ _ => rfl) ?_
  refine E_pushJ (q := 34) (c := 31) rfl ?_
  refine E_mulJ (q := 35) rfl ?_
  refine E_Ld (q := 37) rfl rfl (fun _ _ => rfl) ?_
  refine E_GetI (q := 40) (e := A (12 + 3 * f) 11) rfl (ni_flS f hf).1 (ni_flS f hf).2 rfl rfl (fun _ _ => rfl) ?_
  refine E_toJ (q := 41) rfl ?_
  refine E_addJ (q := 42) rfl ?_
  generalize ((dg1) * (31)) + ((Int32.ofInt (A (12 + 3 * f) 11)).toInt64) = dg2
  refine E_St (q := 44) (ls' := [ni_aL (m), nf_J (b0), .inl ni_J, ni_aI ((f : Int)), ni_aP (12 + 3 * f), nf_J (dg2), .inl ni_J, .inl ni_J]) rfl (fun _ _ => rfl) (fun _ _ => rfl) ?_
  refine E_Ld (q := 46) rfl rfl (fun _ _ => rfl) ?_
  refine E_pushJ (q := 49) (c := 31) rfl ?_
  refine E_mulJ (q := 50) rfl ?_
  refine E_Ld (q := 52) rfl rfl (fun _ _ => rfl) ?_
  refine E_GetI (q := 55) (e := A (12 + 3 * f) 9) rfl (ni_flS f hf).1 (ni_flS f hf).2 rfl rfl (fun _ _ => rfl) ?_
  refine E_toJ (q := 56) rfl ?_
  refine E_addJ (q := 57) rfl ?_
  generalize ((dg2) * (31)) + ((Int32.ofInt (A (12 + 3 * f) 9)).toInt64) = dg3
  refine E_St (q := 59) (ls' := [ni_aL (m), nf_J (b0), .inl ni_J, ni_aI ((f : Int)), ni_aP (12 + 3 * f), nf_J (dg3), .inl ni_J, .inl ni_J]) rfl (fun _ _ => rfl) (fun _ _ => rfl) ?_
  refine E_Ld (q := 61) rfl rfl (fun _ _ => rfl) ?_
  refine E_pushJ (q := 64) (c := 31) rfl ?_
  refine E_mulJ (q := 65) rfl ?_
  refine E_Ld (q := 67) rfl rfl (fun _ _ => rfl) ?_
  refine E_GetI (q := 70) (e := A (12 + 3 * f) 13) rfl (ni_flS f hf).1 (ni_flS f hf).2 rfl rfl (fun _ _ => rfl) ?_
  refine E_toJ (q := 71) rfl ?_
  refine E_addJ (q := 72) rfl ?_
  generalize ((dg3) * (31)) + ((Int32.ofInt (A (12 + 3 * f) 13)).toInt64) = dg4
  refine E_St (q := 74) (ls' := [ni_aL (m), nf_J (b0), .inl ni_J, ni_aI ((f : Int)), ni_aP (12 + 3 * f), nf_J (dg4), .inl ni_J, .inl ni_J]) rfl (fun _ _ => rfl) (fun _ _ => rfl) ?_
  refine E_push (q := 75) (c := 0) (z := 0) rfl rfl ?_
  refine E_St (q := 77) (ls' := [ni_aL (m), nf_J (b0), .inl ni_J, ni_aI ((f : Int)), ni_aP (12 + 3 * f), nf_J (dg4), .inl ni_J, ni_aI (0)]) rfl (fun _ _ => rfl) (fun _ _ => rfl) ?_
  exact mt_dgF1 hm hZ hf hfc hC hLE 7 0 (by omega) _
theorem mt_dg3 (hm : St m = some (9, [.ref n0, .ref n1])) (hZ : ∀ ad, Z ad → ad 0 = n0) (h2 : 0 ≤ A 0 2 ∧ A 0 2 ≤ 14) (h3 : 0 ≤ A 0 3 ∧ A 0 3 ≤ 12) (hC : nq_C A) (hLE : nq_LE2 A) (hR : ∀ r : Nat, r < 8 → (r : Int) < A 0 1 → ni_LK St A (286 + 11 * r) ∧ ni_RD A (286 + 11 * r) r 10000 ∧ ni_TS A (286 + 11 * r + 7)) (hP : ∀ p, ni_po p → (0 ≤ A p 10 ∧ A p 10 ≤ 250) ∧ ∀ i : Nat, (i : Int) < A p 10 → 0 ≤ A (p + 7) i ∧ A (p + 7) i ≤ 2147483647) : ∀ k i : Nat, ((i : Int) + k = A 0 3) → ∀ d0 : Int64, ni_E xs St Z 24 16 184 [ni_aL (m), nf_J (d0), .inl ni_J, ni_aI ((i : Int))] [] A (ni_live A) (fun v A' => ∃ x : Int64, v = some (nf_J x) ∧ A' = A) := by
  have hrc := hC.2.2.1
  intro k
  induction k with
  | zero =>
    intro i hi d0
    refine E_Ld (q := 185) rfl rfl (fun _ _ => rfl) ?_
    refine E_Ld (q := 186) rfl rfl (fun _ _ => rfl) ?_
    refine E_GetT (q := 189) rfl hm hZ ?_
    refine E_GetI (q := 192) (e := A (0) 3) rfl (show ni_us 0 = true by decide +kernel) (show ni_kd 0 = 4 by decide +kernel) rfl rfl (fun _ _ => rfl) ?_
    refine E_Ic true rfl (zc_ge_t ⟨by omega, by omega⟩ ⟨by omega, by omega⟩ (by omega)) ?_
    refine E_Ld (q := 209) rfl rfl (fun _ _ => rfl) ?_
    refine E_R rfl (fun _ _ => rfl) (fun _ _ => rfl) ?_
    exact ⟨_, rfl, rfl⟩
  | succ k ih =>
    intro i hi d0
    refine E_Ld (q := 185) rfl rfl (fun _ _ => rfl) ?_
    refine E_Ld (q := 186) rfl rfl (fun _ _ => rfl) ?_
    refine E_GetT (q := 189) rfl hm hZ ?_
    refine E_GetI (q := 192) (e := A (0) 3) rfl (show ni_us 0 = true by decide +kernel) (show ni_kd 0 = 4 by decide +kernel) rfl rfl (fun _ _ => rfl) ?_
    refine E_Ic false rfl (zc_ge_f ⟨by omega, by omega⟩ ⟨by omega, by omega⟩ (by omega)) ?_
    refine E_Ld (q := 196) rfl rfl (fun _ _ => rfl) ?_
    refine E_Ld (q := 197) rfl rfl (fun _ _ => rfl) ?_
    refine E_Ld (q := 198) rfl rfl (fun _ _ => rfl) ?_
    obtain ⟨vf, Af, ⟨x, hvf, hAf⟩, hFf⟩ := mt_dgF (xs := xs) (St := St) (A := A) (f := i) (b0 := d0) hm hZ (by omega) (by omega) hC hLE
    subst hvf
    rw [hAf] at hFf
    refine E_VT (q := 201) (v := some (nf_J (x))) rfl rfl rfl hm (Nat.le_of_ble_eq_true rfl) (fun _ _ _ => rfl) (hFf) (fun _ _ => rfl) (fun _ _ => rfl) ?_
    refine E_St (q := 202) (ls' := [ni_aL (m), nf_J (x), .inl ni_J, ni_aI ((i : Int))]) rfl (fun _ _ => rfl) (fun _ _ => rfl) ?_
    refine E_Inc (q := 205) (ls' := [ni_aL (m), nf_J (x), .inl ni_J, ni_aI ((i : Int) + 1)]) (z := 1) rfl rfl rfl (fun _ _ => rfl) ?_
    refine E_Go (q := 184) rfl ?_
    exact ih (i + 1) (by omega) _
theorem mt_dg2 (hm : St m = some (9, [.ref n0, .ref n1])) (hZ : ∀ ad, Z ad → ad 0 = n0) (h2 : 0 ≤ A 0 2 ∧ A 0 2 ≤ 14) (h3 : 0 ≤ A 0 3 ∧ A 0 3 ≤ 12) (hC : nq_C A) (hLE : nq_LE2 A) (hR : ∀ r : Nat, r < 8 → (r : Int) < A 0 1 → ni_LK St A (286 + 11 * r) ∧ ni_RD A (286 + 11 * r) r 10000 ∧ ni_TS A (286 + 11 * r + 7)) (hP : ∀ p, ni_po p → (0 ≤ A p 10 ∧ A p 10 ≤ 250) ∧ ∀ i : Nat, (i : Int) < A p 10 → 0 ≤ A (p + 7) i ∧ A (p + 7) i ≤ 2147483647) : ∀ k i : Nat, ((i : Int) + k = A 0 2) → ∀ d0 : Int64, ni_E xs St Z 24 16 151 [ni_aL (m), nf_J (d0), .inl ni_J, ni_aI ((i : Int))] [] A (ni_live A) (fun v A' => ∃ x : Int64, v = some (nf_J x) ∧ A' = A) := by
  have hrc := hC.2.2.1
  intro k
  induction k with
  | zero =>
    intro i hi d0
    refine E_Ld (q := 152) rfl rfl (fun _ _ => rfl) ?_
    refine E_Ld (q := 153) rfl rfl (fun _ _ => rfl) ?_
    refine E_GetT (q := 156) rfl hm hZ ?_
    refine E_GetI (q := 159) (e := A (0) 2) rfl (show ni_us 0 = true by decide +kernel) (show ni_kd 0 = 4 by decide +kernel) rfl rfl (fun _ _ => rfl) ?_
    refine E_Ic true rfl (zc_ge_t ⟨by omega, by omega⟩ ⟨by omega, by omega⟩ (by omega)) ?_
    refine E_push (q := 183) (c := 0) (z := 0) rfl rfl ?_
    refine E_St (q := 184) (ls' := [ni_aL (m), nf_J (d0), .inl ni_J, ni_aI (0)]) rfl (fun _ _ => rfl) (fun _ _ => rfl) ?_
    exact mt_dg3 hm hZ h2 h3 hC hLE hR hP (A 0 3).toNat 0 (by omega) _
  | succ k ih =>
    intro i hi d0
    refine E_Ld (q := 152) rfl rfl (fun _ _ => rfl) ?_
    refine E_Ld (q := 153) rfl rfl (fun _ _ => rfl) ?_
    refine E_GetT (q := 156) rfl hm hZ ?_
    refine E_GetI (q := 159) (e := A (0) 2) rfl (show ni_us 0 = true by decide +kernel) (show ni_kd 0 = 4 by decide +kernel) rfl rfl (fun _ _ => rfl) ?_
    refine E_Ic false rfl (zc_ge_f ⟨by omega, by omega⟩ ⟨by omega, by omega⟩ (by omega)) ?_
    refine E_Ld (q := 163) rfl rfl (fun _ _ => rfl) ?_
    refine E_Ld (q := 164) rfl rfl (fun _ _ => rfl) ?_
    refine E_GetT (q := 167) rfl hm hZ ?_
    refine E_Get (q := 170) (v := ni_aP 2) rfl (show ni_us 0 = true by decide +kernel) (show ni_kd 0 = 4 by decide +kernel) rfl rfl (fun _ _ => rfl) ?_
    refine E_Ld (q := 171) rfl rfl (fun _ _ => rfl) ?_
    refine E_Qld (q := 172) (j := i) (v := ni_aP (48 + 17 * i)) rfl (show ni_us 2 = true by decide +kernel) (show ni_kd 2 = 102 by decide +kernel) (show ni_ln 2 = 14 by decide +kernel) ⟨by decide, rfl⟩ rfl (by omega) (by decide) (ni_L9 (show ni_us 2 = true by decide +kernel) (by decide +kernel) (by omega)) (fun _ _ => rfl) (fun _ _ => rfl) ?_
    have p1 : ni_po (48 + 17 * i + 1) := by unfold ni_po; omega
    have p9 : ni_po (48 + 17 * i + 9) := by unfold ni_po; omega
    obtain ⟨vf, Af, ⟨x, hvf, hAf⟩, hDf⟩ := mt_dgL (xs := xs) (St := St) (A := A) (l := i) (b0 := d0) (by omega) (hC.1 i (by omega)).2.2 (hP _ p1).1 (hP _ p1).2 (hP _ p9).1 (hP _ p9).2
    subst hvf
    rw [hAf] at hDf
    refine E_S (q := 175) (w := some (nf_J (x))) rfl (Nat.le_of_ble_eq_true rfl) rfl rfl (Nat.le_of_ble_eq_true rfl) (fun _ _ _ => rfl) (ni_Dup hDf (by decide)) (fun _ _ => rfl) (fun _ _ => rfl) ?_
    refine E_St (q := 176) (ls' := [ni_aL (m), nf_J (x), .inl ni_J, ni_aI ((i : Int))]) rfl (fun _ _ => rfl) (fun _ _ => rfl) ?_
    refine E_Inc (q := 179) (ls' := [ni_aL (m), nf_J (x), .inl ni_J, ni_aI ((i : Int) + 1)]) (z := 1) rfl rfl rfl (fun _ _ => rfl) ?_
    refine E_Go (q := 151) rfl ?_
    exact ih (i + 1) (by omega) _
theorem mt_dg1 (hm : St m = some (9, [.ref n0, .ref n1])) (hZ : ∀ ad, Z ad → ad 0 = n0) (h2 : 0 ≤ A 0 2 ∧ A 0 2 ≤ 14) (h3 : 0 ≤ A 0 3 ∧ A 0 3 ≤ 12) (hC : nq_C A) (hLE : nq_LE2 A) (hR : ∀ r : Nat, r < 8 → (r : Int) < A 0 1 → ni_LK St A (286 + 11 * r) ∧ ni_RD A (286 + 11 * r) r 10000 ∧ ni_TS A (286 + 11 * r + 7)) (hP : ∀ p, ni_po p → (0 ≤ A p 10 ∧ A p 10 ≤ 250) ∧ ∀ i : Nat, (i : Int) < A p 10 → 0 ≤ A (p + 7) i ∧ A (p + 7) i ≤ 2147483647) : ∀ k i : Nat, ((i : Int) + k = A 0 1) → ∀ d0 : Int64, ni_E xs St Z 24 16 117 [ni_aL (m), nf_J (d0), .inl ni_J, ni_aI ((i : Int))] [] A (ni_live A) (fun v A' => ∃ x : Int64, v = some (nf_J x) ∧ A' = A) := by
  have hrc := hC.2.2.1
  intro k
  induction k with
  | zero =>
    intro i hi d0
    refine E_Ld (q := 118) rfl rfl (fun _ _ => rfl) ?_
    refine E_Ld (q := 119) rfl rfl (fun _ _ => rfl) ?_
    refine E_GetT (q := 122) rfl hm hZ ?_
    refine E_GetI (q := 125) (e := A (0) 1) rfl (show ni_us 0 = true by decide +kernel) (show ni_kd 0 = 4 by decide +kernel) rfl rfl (fun _ _ => rfl) ?_
    refine E_Ic true rfl (zc_ge_t ⟨by omega, by omega⟩ ⟨by omega, by omega⟩ (by omega)) ?_
    refine E_push (q := 150) (c := 0) (z := 0) rfl rfl ?_
    refine E_St (q := 151) (ls' := [ni_aL (m), nf_J (d0), .inl ni_J, ni_aI (0)]) rfl (fun _ _ => rfl) (fun _ _ => rfl) ?_
    exact mt_dg2 hm hZ h2 h3 hC hLE hR hP (A 0 2).toNat 0 (by omega) _
  | succ k ih =>
    intro i hi d0
    refine E_Ld (q := 118) rfl rfl (fun _ _ => rfl) ?_
    refine E_Ld (q := 119) rfl rfl (fun _ _ => rfl) ?_
    refine E_GetT (q := 122) rfl hm hZ ?_
    refine E_GetI (q := 125) (e := A (0) 1) rfl (show ni_us 0 = true by decide +kernel) (show ni_kd 0 = 4 by decide +kernel) rfl rfl (fun _ _ => rfl) ?_
    refine E_Ic false rfl (zc_ge_f ⟨by omega, by omega⟩ ⟨by omega, by omega⟩ (by omega)) ?_
    refine E_Ld (q := 129) rfl rfl (fun _ _ => rfl) ?_
    refine E_Ld (q := 130) rfl rfl (fun _ _ => rfl) ?_
    refine E_Ld (q := 131) rfl rfl (fun _ _ => rfl) ?_
    refine E_GetT (q := 134) rfl hm hZ ?_
    refine E_Get (q := 137) (v := ni_aP 1) rfl (show ni_us 0 = true by decide +kernel) (show ni_kd 0 = 4 by decide +kernel) rfl rfl (fun _ _ => rfl) ?_
    refine E_Ld (q := 138) rfl rfl (fun _ _ => rfl) ?_
    refine E_Qld (q := 139) (j := i) (v := ni_aP (286 + 11 * i)) rfl (show ni_us 1 = true by decide +kernel) (show ni_kd 1 = 101 by decide +kernel) (show ni_ln 1 = 8 by decide +kernel) ⟨by decide, rfl⟩ rfl (by omega) (by decide) (ni_L9 (show ni_us 1 = true by decide +kernel) (by decide +kernel) (by omega)) (fun _ _ => rfl) (fun _ _ => rfl) ?_
    obtain ⟨g1, g2, g3⟩ := hR i (by omega) (by omega)
    obtain ⟨vf, Af, ⟨x, hvf, hAf⟩, hFf⟩ := mt_dgR (xs := xs) (St := St) (A := A) (r := i) (b0 := d0) hm hZ (by omega) (by omega) hrc.2 g1 g2 g3
    subst hvf
    rw [hAf] at hFf
    refine E_VT (q := 142) (v := some (nf_J (x))) rfl rfl rfl hm (Nat.le_of_ble_eq_true rfl) (fun _ _ _ => rfl) (hFf) (fun _ _ => rfl) (fun _ _ => rfl) ?_
    refine E_St (q := 143) (ls' := [ni_aL (m), nf_J (x), .inl ni_J, ni_aI ((i : Int))]) rfl (fun _ _ => rfl) (fun _ _ => rfl) ?_
    refine E_Inc (q := 146) (ls' := [ni_aL (m), nf_J (x), .inl ni_J, ni_aI ((i : Int) + 1)]) (z := 1) rfl rfl rfl (fun _ _ => rfl) ?_
    refine E_Go (q := 117) rfl ?_
    exact ih (i + 1) (by omega) _
/-- the checksum is told by the state -/
theorem fc_digest (hm : St m = some (9, [.ref n0, .ref n1])) (hZ : ∀ ad, Z ad → ad 0 = n0) (h2 : 0 ≤ A 0 2 ∧ A 0 2 ≤ 14) (h3 : 0 ≤ A 0 3 ∧ A 0 3 ≤ 12) (hC : nq_C A) (hLE : nq_LE2 A) (hR : ∀ r : Nat, r < 8 → (r : Int) < A 0 1 → ni_LK St A (286 + 11 * r) ∧ ni_RD A (286 + 11 * r) r 10000 ∧ ni_TS A (286 + 11 * r + 7)) (hP : ∀ p, ni_po p → (0 ≤ A p 10 ∧ A p 10 ≤ 250) ∧ ∀ i : Nat, (i : Int) < A p 10 → 0 ≤ A (p + 7) i ∧ A (p + 7) i ≤ 2147483647) : nf_F xs St Z 25 16 [ni_aL m] A (fun v A' => ∃ x : Int64, v = some (nf_J x) ∧ A' = A) := by
  have hrc := hC.2.2.1
  refine nf_Fin (ls := [ni_aL (m), .inl ni_J, .inl ni_J, .inl ni_J]) (fun _ => Nat.le_of_ble_eq_true rfl) (fun _ _ => rfl) ?_
  refine E_pushJ (q := 3) (c := 58026) rfl ?_
  refine E_St (q := 4) (ls' := [ni_aL (m), nf_J (58026), .inl ni_J, .inl ni_J]) rfl (fun _ _ => rfl) (fun _ _ => rfl) ?_
  refine E_Ld (q := 5) rfl rfl (fun _ _ => rfl) ?_
  refine E_pushJ (q := 8) (c := 31) rfl ?_
  refine E_mulJ (q := 9) rfl ?_
  refine E_Ld (q := 10) rfl rfl (fun _ _ => rfl) ?_
  refine E_GetT (q := 13) rfl hm hZ ?_
  refine E_GetI (q := 16) (e := A (0) 0) rfl (show ni_us 0 = true by decide +kernel) (show ni_kd 0 = 4 by decide +kernel) rfl rfl (fun _ _ => rfl) ?_
  refine E_toJ (q := 17) rfl ?_
  refine E_addJ (q := 18) rfl ?_
  generalize ((58026) * (31)) + ((Int32.ofInt (A (0) 0)).toInt64) = dg1
  refine E_St (q := 19) (ls' := [ni_aL (m), nf_J (dg1), .inl ni_J, .inl ni_J]) rfl (fun _ _ => rfl) (fun _ _ => rfl) ?_
  refine E_Ld (q := 20) rfl rfl (fun _ _ => rfl) ?_
  refine E_pushJ (q := 23) (c := 31) rfl ?_
  refine E_mulJ (q := 24) rfl ?_
  refine E_Ld (q := 25) rfl rfl (fun _ _ => rfl) ?_
  refine E_GetT (q := 28) rfl hm hZ ?_
  refine E_GetI (q := 31) (e := A (0) 1) rfl (show ni_us 0 = true by decide +kernel) (show ni_kd 0 = 4 by decide +kernel) rfl rfl (fun _ _ => rfl) ?_
  refine E_toJ (q := 32) rfl ?_
  refine E_addJ (q := 33) rfl ?_
  generalize ((dg1) * (31)) + ((Int32.ofInt (A (0) 1)).toInt64) = dg2
  refine E_St (q := 34) (ls' := [ni_aL (m), nf_J (dg2), .inl ni_J, .inl ni_J]) rfl (fun _ _ => rfl) (fun _ _ => rfl) ?_
  refine E_Ld (q := 35) rfl rfl (fun _ _ => rfl) ?_
  refine E_pushJ (q := 38) (c := 31) rfl ?_
  refine E_mulJ (q := 39) rfl ?_
  refine E_Ld (q := 40) rfl rfl (fun _ _ => rfl) ?_
  refine E_GetT (q := 43) rfl hm hZ ?_
  refine E_GetI (q := 46) (e := A (0) 2) rfl (show ni_us 0 = true by decide +kernel) (show ni_kd 0 = 4 by decide +kernel) rfl rfl (fun _ _ => rfl) ?_
  refine E_toJ (q := 47) rfl ?_
  refine E_addJ (q := 48) rfl ?_
  generalize ((dg2) * (31)) + ((Int32.ofInt (A (0) 2)).toInt64) = dg3
  refine E_St (q := 49) (ls' := [ni_aL (m), nf_J (dg3), .inl ni_J, .inl ni_J]) rfl (fun _ _ => rfl) (fun _ _ => rfl) ?_
  refine E_Ld (q := 50) rfl rfl (fun _ _ => rfl) ?_
  refine E_pushJ (q := 53) (c := 31) rfl ?_
  refine E_mulJ (q := 54) rfl ?_
  refine E_Ld (q := 55) rfl rfl (fun _ _ => rfl) ?_
  refine E_GetT (q := 58) rfl hm hZ ?_
  refine E_Get (q := 61) (v := ni_aP 4) rfl (show ni_us 0 = true by decide +kernel) (show ni_kd 0 = 4 by decide +kernel) rfl rfl (fun _ _ => rfl) ?_
  refine E_GetI (q := 64) (e := A (4) 3) rfl (show ni_us 4 = true by decide +kernel) (show ni_kd 4 = 6 by decide +kernel) rfl rfl (fun _ _ => rfl) ?_
  refine E_toJ (q := 65) rfl ?_
  refine E_addJ (q := 66) rfl ?_
  generalize ((dg3) * (31)) + ((Int32.ofInt (A (4) 3)).toInt64) = dg4
  refine E_St (q := 67) (ls' := [ni_aL (m), nf_J (dg4), .inl ni_J, .inl ni_J]) rfl (fun _ _ => rfl) (fun _ _ => rfl) ?_
  refine E_Ld (q := 68) rfl rfl (fun _ _ => rfl) ?_
  refine E_pushJ (q := 71) (c := 31) rfl ?_
  refine E_mulJ (q := 72) rfl ?_
  refine E_Ld (q := 73) rfl rfl (fun _ _ => rfl) ?_
  refine E_GetT (q := 76) rfl hm hZ ?_
  refine E_Get (q := 79) (v := ni_aP 8) rfl (show ni_us 0 = true by decide +kernel) (show ni_kd 0 = 4 by decide +kernel) rfl rfl (fun _ _ => rfl) ?_
  refine E_GetI (q := 82) (e := A (8) 3) rfl (show ni_us 8 = true by decide +kernel) (show ni_kd 8 = 6 by decide +kernel) rfl rfl (fun _ _ => rfl) ?_
  refine E_toJ (q := 83) rfl ?_
  refine E_addJ (q := 84) rfl ?_
  generalize ((dg4) * (31)) + ((Int32.ofInt (A (8) 3)).toInt64) = dg5
  refine E_St (q := 85) (ls' := [ni_aL (m), nf_J (dg5), .inl ni_J, .inl ni_J]) rfl (fun _ _ => rfl) (fun _ _ => rfl) ?_
  refine E_Ld (q := 86) rfl rfl (fun _ _ => rfl) ?_
  refine E_pushJ (q := 89) (c := 31) rfl ?_
  refine E_mulJ (q := 90) rfl ?_
  refine E_Ld (q := 91) rfl rfl (fun _ _ => rfl) ?_
  refine E_GetT (q := 94) rfl hm hZ ?_
  refine E_GetI (q := 97) (e := A (0) 3) rfl (show ni_us 0 = true by decide +kernel) (show ni_kd 0 = 4 by decide +kernel) rfl rfl (fun _ _ => rfl) ?_
  refine E_toJ (q := 98) rfl ?_
  refine E_addJ (q := 99) rfl ?_
  generalize ((dg5) * (31)) + ((Int32.ofInt (A (0) 3)).toInt64) = dg6
  refine E_St (q := 100) (ls' := [ni_aL (m), nf_J (dg6), .inl ni_J, .inl ni_J]) rfl (fun _ _ => rfl) (fun _ _ => rfl) ?_
  refine E_Ld (q := 101) rfl rfl (fun _ _ => rfl) ?_
  refine E_pushJ (q := 104) (c := 31) rfl ?_
  refine E_mulJ (q := 105) rfl ?_
  refine E_Ld (q := 106) rfl rfl (fun _ _ => rfl) ?_
  refine E_GetT (q := 109) rfl hm hZ ?_
  refine E_V (q := 112) (w := some (ni_aI (ni_lw A (A 0 2).toNat))) rfl rfl rfl (show ni_us 0 = true by decide +kernel) (show ni_kd 0 = 4 by decide +kernel) rfl (Nat.le_of_ble_eq_true rfl) (fun _ _ _ => rfl) (ni_Dup (mt_way h2) (by decide)) (fun _ _ => rfl) (fun _ _ => rfl) ?_
  refine E_toJ (q := 113) rfl ?_
  refine E_addJ (q := 114) rfl ?_
  generalize ((dg6) * (31)) + ((Int32.ofInt (ni_lw A (A 0 2).toNat)).toInt64) = dg7
  refine E_St (q := 115) (ls' := [ni_aL (m), nf_J (dg7), .inl ni_J, .inl ni_J]) rfl (fun _ _ => rfl) (fun _ _ => rfl) ?_
  refine E_push (q := 116) (c := 0) (z := 0) rfl rfl ?_
  refine E_St (q := 117) (ls' := [ni_aL (m), nf_J (dg7), .inl ni_J, ni_aI (0)]) rfl (fun _ _ => rfl) (fun _ _ => rfl) ?_
  exact mt_dg1 hm hZ h2 h3 hC hLE hR hP (A 0 1).toNat 0 (by omega) _
end NDG
