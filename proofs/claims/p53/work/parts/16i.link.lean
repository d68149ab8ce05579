/-! METHODS OF A LINK, A PREFIX; TO FIND AN ENTRY -/
section MLK
variable {xs : List Int32} {St : Nat → Option ni_C} {A : Nat → Nat → Int}
theorem mt_touch1 {l : Nat} {r : Int} (hr : 0 ≤ r ∧ r ≤ 100) (h0a : 0 ≤ A l 0 ∧ A l 0 ≤ 100) (h1a : 0 ≤ A l 1 ∧ A l 1 ≤ 100) (h : r = A l 0) (hs : ni_us l = true) (hk : ni_kd l = 3) : ni_Dc xs St 1 74 (fun ad => [.ref (ad l), ni_z r]) A (fun _ => some (ni_z (1))) A := by
  have h374 := (ni_usT hs).1
  refine ni_Dw (fun _ => Nat.le_of_ble_eq_true rfl) (fun _ => rfl) ?_
  intro M0 ad rw cp hR
  have h0 : ni_Sx St M0 ad rw cp M0 rw cp A (ni_live A) := ⟨hR, ni_KpR⟩
  have c0 := ni_clR A
  refine wp_Ld rfl rfl rfl ?_
  refine wp_Ld rfl rfl rfl ?_
  refine ws_Get (v := ni_z (A (l) 0)) rfl h0 hs hk rfl rfl rfl ?_
  refine wp_Ic true rfl (zc_eq_t ⟨by omega, by omega⟩ ⟨by omega, by omega⟩ (by omega)) ?_
  refine wp_P (g := ni_gPush (.int (1)) 17) rfl (wp_push (z := 1) rfl) ?_
  refine wp_P (g := ni_gGo 21) rfl rfl ?_
  exact ws_R (v := fun _ => some (ni_z (1))) rfl rfl h0 c0 rfl
theorem mt_touch2 {l : Nat} {r : Int} (hr : 0 ≤ r ∧ r ≤ 100) (h0a : 0 ≤ A l 0 ∧ A l 0 ≤ 100) (h1a : 0 ≤ A l 1 ∧ A l 1 ≤ 100) (h : ¬ r = A l 0) (h2 : r = A l 1) (hs : ni_us l = true) (hk : ni_kd l = 3) : ni_Dc xs St 1 74 (fun ad => [.ref (ad l), ni_z r]) A (fun _ => some (ni_z (1))) A := by
  have h374 := (ni_usT hs).1
  refine ni_Dw (fun _ => Nat.le_of_ble_eq_true rfl) (fun _ => rfl) ?_
  intro M0 ad rw cp hR
  have h0 : ni_Sx St M0 ad rw cp M0 rw cp A (ni_live A) := ⟨hR, ni_KpR⟩
  have c0 := ni_clR A
  refine wp_Ld rfl rfl rfl ?_
  refine wp_Ld rfl rfl rfl ?_
  refine ws_Get (v := ni_z (A (l) 0)) rfl h0 hs hk rfl rfl rfl ?_
  refine wp_Ic false rfl (zc_eq_f ⟨by omega, by omega⟩ ⟨by omega, by omega⟩ (by omega)) ?_
  refine wp_Ld rfl rfl rfl ?_
  refine wp_Ld rfl rfl rfl ?_
  refine ws_Get (v := ni_z (A (l) 1)) rfl h0 hs hk rfl rfl rfl ?_
  refine wp_Ic false rfl (zc_ne_f ⟨by omega, by omega⟩ ⟨by omega, by omega⟩ (by omega)) ?_
  refine wp_P (g := ni_gPush (.int (1)) 17) rfl (wp_push (z := 1) rfl) ?_
  refine wp_P (g := ni_gGo 21) rfl rfl ?_
  exact ws_R (v := fun _ => some (ni_z (1))) rfl rfl h0 c0 rfl
theorem mt_touch0 {l : Nat} {r : Int} (hr : 0 ≤ r ∧ r ≤ 100) (h0a : 0 ≤ A l 0 ∧ A l 0 ≤ 100) (h1a : 0 ≤ A l 1 ∧ A l 1 ≤ 100) (h : ¬ r = A l 0) (h2 : ¬ r = A l 1) (hs : ni_us l = true) (hk : ni_kd l = 3) : ni_Dc xs St 1 74 (fun ad => [.ref (ad l), ni_z r]) A (fun _ => some (ni_z (0))) A := by
  have h374 := (ni_usT hs).1
  refine ni_Dw (fun _ => Nat.le_of_ble_eq_true rfl) (fun _ => rfl) ?_
  intro M0 ad rw cp hR
  have h0 : ni_Sx St M0 ad rw cp M0 rw cp A (ni_live A) := ⟨hR, ni_KpR⟩
  have c0 := ni_clR A
  refine wp_Ld rfl rfl rfl ?_
  refine wp_Ld rfl rfl rfl ?_
  refine ws_Get (v := ni_z (A (l) 0)) rfl h0 hs hk rfl rfl rfl ?_
  refine wp_Ic false rfl (zc_eq_f ⟨by omega, by omega⟩ ⟨by omega, by omega⟩ (by omega)) ?_
  refine wp_Ld rfl rfl rfl ?_
  refine wp_Ld rfl rfl rfl ?_
  refine ws_Get (v := ni_z (A (l) 1)) rfl h0 hs hk rfl rfl rfl ?_
  refine wp_Ic true rfl (zc_ne_t ⟨by omega, by omega⟩ ⟨by omega, by omega⟩ (by omega)) ?_
  refine wp_P (g := ni_gPush (.int (0)) 21) rfl (wp_push (z := 0) rfl) ?_
  exact ws_R (v := fun _ => some (ni_z (0))) rfl rfl h0 c0 rfl
theorem mt_other1 {l : Nat} {r : Int} (hr : 0 ≤ r ∧ r ≤ 100) (h0a : 0 ≤ A l 0 ∧ A l 0 ≤ 100) (h1a : 0 ≤ A l 1 ∧ A l 1 ≤ 100) (h : r = A l 0) (hs : ni_us l = true) (hk : ni_kd l = 3) : ni_Dc xs St 1 72 (fun ad => [.ref (ad l), ni_z r]) A (fun _ => some (ni_z (A l 1))) A := by
  have h374 := (ni_usT hs).1
  refine ni_Dw (fun _ => Nat.le_of_ble_eq_true rfl) (fun _ => rfl) ?_
  intro M0 ad rw cp hR
  have h0 : ni_Sx St M0 ad rw cp M0 rw cp A (ni_live A) := ⟨hR, ni_KpR⟩
  have c0 := ni_clR A
  refine wp_Ld rfl rfl rfl ?_
  refine wp_Ld rfl rfl rfl ?_
  refine ws_Get (v := ni_z (A (l) 0)) rfl h0 hs hk rfl rfl rfl ?_
  refine wp_Ic false rfl (zc_ne_f ⟨by omega, by omega⟩ ⟨by omega, by omega⟩ (by omega)) ?_
  refine wp_Ld rfl rfl rfl ?_
  refine ws_Get (v := ni_z (A (l) 1)) rfl h0 hs hk rfl rfl rfl ?_
  refine wp_P (g := ni_gGo 19) rfl rfl ?_
  exact ws_R (v := fun _ => some (ni_z (A l 1))) rfl rfl h0 c0 rfl
theorem mt_other0 {l : Nat} {r : Int} (hr : 0 ≤ r ∧ r ≤ 100) (h0a : 0 ≤ A l 0 ∧ A l 0 ≤ 100) (h1a : 0 ≤ A l 1 ∧ A l 1 ≤ 100) (h : ¬ r = A l 0) (hs : ni_us l = true) (hk : ni_kd l = 3) : ni_Dc xs St 1 72 (fun ad => [.ref (ad l), ni_z r]) A (fun _ => some (ni_z (A l 0))) A := by
  have h374 := (ni_usT hs).1
  refine ni_Dw (fun _ => Nat.le_of_ble_eq_true rfl) (fun _ => rfl) ?_
  intro M0 ad rw cp hR
  have h0 : ni_Sx St M0 ad rw cp M0 rw cp A (ni_live A) := ⟨hR, ni_KpR⟩
  have c0 := ni_clR A
  refine wp_Ld rfl rfl rfl ?_
  refine wp_Ld rfl rfl rfl ?_
  refine ws_Get (v := ni_z (A (l) 0)) rfl h0 hs hk rfl rfl rfl ?_
  refine wp_Ic true rfl (zc_ne_t ⟨by omega, by omega⟩ ⟨by omega, by omega⟩ (by omega)) ?_
  refine wp_Ld rfl rfl rfl ?_
  refine ws_Get (v := ni_z (A (l) 0)) rfl h0 hs hk rfl rfl rfl ?_
  exact ws_R (v := fun _ => some (ni_z (A l 0))) rfl rfl h0 c0 rfl
theorem mt_portA {l : Nat} {r : Int} (hr : 0 ≤ r ∧ r ≤ 100) (h0a : 0 ≤ A l 0 ∧ A l 0 ≤ 100) (h1a : 0 ≤ A l 1 ∧ A l 1 ≤ 100) (h : r = A l 0) (hs : ni_us l = true) (hk : ni_kd l = 3) : ni_Dc xs St 1 73 (fun ad => [.ref (ad l), ni_z r]) A (fun ad => some (.ref (ad (l + 1)))) A := by
  have h374 := (ni_usT hs).1
  refine ni_Dw (fun _ => Nat.le_of_ble_eq_true rfl) (fun _ => rfl) ?_
  intro M0 ad rw cp hR
  have h0 : ni_Sx St M0 ad rw cp M0 rw cp A (ni_live A) := ⟨hR, ni_KpR⟩
  have c0 := ni_clR A
  refine wp_Ld rfl rfl rfl ?_
  refine wp_Ld rfl rfl rfl ?_
  refine ws_Get (v := ni_z (A (l) 0)) rfl h0 hs hk rfl rfl rfl ?_
  refine wp_Ic false rfl (zc_ne_f ⟨by omega, by omega⟩ ⟨by omega, by omega⟩ (by omega)) ?_
  refine wp_Ld rfl rfl rfl ?_
  refine ws_Get (v := .ref (ad (l + 1))) rfl h0 hs hk rfl rfl rfl ?_
  refine wp_P (g := ni_gGo 19) rfl rfl ?_
  exact ws_R (v := fun ad => some (.ref (ad (l + 1)))) rfl rfl h0 c0 rfl
theorem mt_portB {l : Nat} {r : Int} (hr : 0 ≤ r ∧ r ≤ 100) (h0a : 0 ≤ A l 0 ∧ A l 0 ≤ 100) (h1a : 0 ≤ A l 1 ∧ A l 1 ≤ 100) (h : ¬ r = A l 0) (hs : ni_us l = true) (hk : ni_kd l = 3) : ni_Dc xs St 1 73 (fun ad => [.ref (ad l), ni_z r]) A (fun ad => some (.ref (ad (l + 9)))) A := by
  have h374 := (ni_usT hs).1
  refine ni_Dw (fun _ => Nat.le_of_ble_eq_true rfl) (fun _ => rfl) ?_
  intro M0 ad rw cp hR
  have h0 : ni_Sx St M0 ad rw cp M0 rw cp A (ni_live A) := ⟨hR, ni_KpR⟩
  have c0 := ni_clR A
  refine wp_Ld rfl rfl rfl ?_
  refine wp_Ld rfl rfl rfl ?_
  refine ws_Get (v := ni_z (A (l) 0)) rfl h0 hs hk rfl rfl rfl ?_
  refine wp_Ic true rfl (zc_ne_t ⟨by omega, by omega⟩ ⟨by omega, by omega⟩ (by omega)) ?_
  refine wp_Ld rfl rfl rfl ?_
  refine ws_Get (v := .ref (ad (l + 9))) rfl h0 hs hk rfl rfl rfl ?_
  exact ws_R (v := fun ad => some (.ref (ad (l + 9)))) rfl rfl h0 c0 rfl
theorem mt_countP {l : Nat}  (hs : ni_us l = true) (hk : ni_kd l = 3) : ni_Dc xs St 1 71 (fun ad => [.ref (ad l)]) A (fun _ => some (ni_z (A (l + 1 + 1) 4 + A (l + 9 + 1) 4))) A := by
  have h374 := (ni_usT hs).1
  refine ni_Dw (fun _ => Nat.le_of_ble_eq_true rfl) (fun _ => rfl) ?_
  intro M0 ad rw cp hR
  have h0 : ni_Sx St M0 ad rw cp M0 rw cp A (ni_live A) := ⟨hR, ni_KpR⟩
  have c0 := ni_clR A
  refine wp_Ld rfl rfl rfl ?_
  refine ws_Get (v := .ref (ad (l + 1))) rfl h0 hs hk rfl rfl rfl ?_
  refine ws_Get (v := .ref (ad (l + 1 + 1))) rfl h0 (ni_o3_1 hs hk).1 (ni_o3_1 hs hk).2.1 rfl rfl rfl ?_
  refine ws_Get (v := ni_z (A (l + 1 + 1) 4)) rfl h0 (ni_o5_1 (ni_o3_1 hs hk).1 (ni_o3_1 hs hk).2.1).1 (ni_o5_1 (ni_o3_1 hs hk).1 (ni_o3_1 hs hk).2.1).2.1 rfl rfl rfl ?_
  refine wp_Ld rfl rfl rfl ?_
  refine ws_Get (v := .ref (ad (l + 9))) rfl h0 hs hk rfl rfl rfl ?_
  refine ws_Get (v := .ref (ad (l + 9 + 1))) rfl h0 (ni_o3_9 hs hk).1 (ni_o3_9 hs hk).2.1 rfl rfl rfl ?_
  refine ws_Get (v := ni_z (A (l + 9 + 1) 4)) rfl h0 (ni_o5_1 (ni_o3_9 hs hk).1 (ni_o3_9 hs hk).2.1).1 (ni_o5_1 (ni_o3_9 hs hk).1 (ni_o3_9 hs hk).2.1).2.1 rfl rfl rfl ?_
  refine wp_P rfl wp_add ?_
  exact ws_R (v := fun _ => some (ni_z (A (l + 1 + 1) 4 + A (l + 9 + 1) 4))) rfl rfl h0 c0 rfl
theorem mt_addrOf {x : Int} (hx : 0 ≤ x ∧ x ≤ 2147483647) : ni_Pu xs 1 119 [ni_z x] (some (ni_z (x / 32))) := by
  intro M
  refine wp_enter (Nat.le_of_ble_eq_true rfl) rfl ?_
  refine wp_Ld rfl rfl rfl ?_
  refine wp_P (g := ni_gPush (.int (5)) 2) rfl (wp_push (z := 5) rfl) ?_
  refine wp_P rfl (wp_I (c := x / 32) (zb_s5 ⟨by omega, by omega⟩)) ?_
  exact wp_R rfl rfl ⟨rfl, rfl⟩
theorem mt_lenOf {x : Int} (hx : 0 ≤ x ∧ x ≤ 2147483647) : ni_Pu xs 1 124 [ni_z x] (some (ni_z (x % 32))) := by
  intro M
  refine wp_enter (Nat.le_of_ble_eq_true rfl) rfl ?_
  refine wp_Ld rfl rfl rfl ?_
  refine wp_P (g := ni_gPush (.int (31)) 3) rfl (wp_push (z := 31) rfl) ?_
  refine wp_P rfl (wp_I (c := x % 32) (zb_m31 (by omega))) ?_
  exact wp_R rfl rfl ⟨rfl, rfl⟩
theorem zi_ex (z : Int32) : ∃ c : Int, z = Int32.ofInt c ∧ ni_R32 c := by
  refine ⟨z.toInt, (Int32.ofInt_toInt z).symm, ?_, ?_⟩
  · exact Int32.le_toInt z
  · have := Int32.toInt_lt z
    omega
theorem mt_fits {x a : Int} (hx : 0 ≤ x ∧ x ≤ 2147483647) : ∃ b : Int, ni_Pu xs 2 121 [ni_z x, ni_z a] (some (ni_z b)) ∧ (b = 0 ∨ b = 1) := by
  obtain ⟨c1, h1, g1⟩ := zi_ex (Int32.ofInt (x / 32) ^^^ Int32.ofInt a)
  obtain ⟨c2, h2, g2, g3⟩ := zi_ex (Int32.ofInt c1 >>> (Int32.ofInt (16 - x % 32) &&& 31))
  by_cases h : c2 = 0
  · refine ⟨1, fun M => ?_, Or.inr rfl⟩
    refine wp_enter (Nat.le_of_ble_eq_true rfl) rfl ?_
    refine wp_Ld rfl rfl rfl ?_
    refine ws_P rfl (Nat.le_of_ble_eq_true rfl) rfl rfl (Nat.le_of_ble_eq_true rfl) (mt_addrOf hx) ?_
    refine wp_Ld rfl rfl rfl ?_
    refine wp_P rfl (wp_I (c := c1) h1) ?_
    refine wp_P (g := ni_gPush (.int (16)) 8) rfl (wp_push (z := 16) rfl) ?_
    refine wp_Ld rfl rfl rfl ?_
    refine ws_P rfl (Nat.le_of_ble_eq_true rfl) rfl rfl (Nat.le_of_ble_eq_true rfl) (mt_lenOf hx) ?_
    refine wp_P rfl wp_sub ?_
    refine wp_P rfl (wp_I (c := c2) h2) ?_
    refine wp_If false rfl (zf_ne_f ⟨by omega, by omega⟩ (by omega)) ?_
    refine wp_P (g := ni_gPush (.int (1)) 18) rfl (wp_push (z := 1) rfl) ?_
    refine wp_P (g := ni_gGo 22) rfl rfl ?_
    exact wp_R rfl rfl ⟨rfl, rfl⟩
  · refine ⟨0, fun M => ?_, Or.inl rfl⟩
    refine wp_enter (Nat.le_of_ble_eq_true rfl) rfl ?_
    refine wp_Ld rfl rfl rfl ?_
    refine ws_P rfl (Nat.le_of_ble_eq_true rfl) rfl rfl (Nat.le_of_ble_eq_true rfl) (mt_addrOf hx) ?_
    refine wp_Ld rfl rfl rfl ?_
    refine wp_P rfl (wp_I (c := c1) h1) ?_
    refine wp_P (g := ni_gPush (.int (16)) 8) rfl (wp_push (z := 16) rfl) ?_
    refine wp_Ld rfl rfl rfl ?_
    refine ws_P rfl (Nat.le_of_ble_eq_true rfl) rfl rfl (Nat.le_of_ble_eq_true rfl) (mt_lenOf hx) ?_
    refine wp_P rfl wp_sub ?_
    refine wp_P rfl (wp_I (c := c2) h2) ?_
    refine wp_If true rfl (zf_ne_t ⟨by omega, by omega⟩ (by omega)) ?_
    refine wp_P (g := ni_gPush (.int (0)) 22) rfl (wp_push (z := 0) rfl) ?_
    exact wp_R rfl rfl ⟨rfl, rfl⟩
theorem mt_findL {t n : Nat} {a : Int} (hs : ni_us t = true) (hk : ni_kd t = 8) (hn : A t 3 = n) (hn1 : n ≤ 216) (hq : ∀ i : Nat, (i : Int) < A t 3 → 0 ≤ A (t + 1) i ∧ A (t + 1) i ≤ 2147483647) : ∀ k i : Nat, i + k = n → ∀ (best bl : Int) (w5 : Value), (-1 ≤ best ∧ best < n) → (-1 ≤ bl ∧ bl ≤ 31) → ∃ v : Int, ni_Dr xs St 2 147 7 (fun ad => [.ref (ad t), ni_z a, ni_z best, ni_z bl, ni_z (i : Int), w5]) A (fun _ => some (ni_z v)) A ∧ (-1 ≤ v ∧ v < n) := by
  have h374 := (ni_usT hs).1
  intro k
  induction k with
  | zero =>
    intro i hi best bl w5 hb hl
    have hin : i = n := by omega
    subst hin
    refine ⟨best, ?_, hb⟩
    · intro M0 ad rw cp hR
      have h0 : ni_Sx St M0 ad rw cp M0 rw cp A (ni_live A) := ⟨hR, ni_KpR⟩
      have c0 := ni_clR A
      refine wp_Ld rfl rfl rfl ?_
      refine wp_Ld rfl rfl rfl ?_
      refine ws_Get (v := ni_z (A (t) 3)) rfl h0 hs hk rfl rfl rfl ?_
      refine wp_Ic true rfl (zc_ge_t ⟨by omega, by omega⟩ ⟨by omega, by omega⟩ (by omega)) ?_
      refine wp_Ld rfl rfl rfl ?_
      exact ws_R (v := fun _ => some (ni_z best)) rfl rfl h0 c0 rfl
  | succ k ih =>
    intro i hi best bl w5 hb hl
    have hm0 : 0 ≤ A (t + 1) i % 32 := Int.emod_nonneg _ (by omega)
    have hm1 : A (t + 1) i % 32 < 32 := Int.emod_lt_of_pos _ (by omega)
    by_cases h1 : A (t + 1) i % 32 ≤ bl
    · obtain ⟨v, g, hv⟩ := ih (i + 1) (by omega) best bl (ni_z (A (t + 1) i % 32)) hb hl
      refine ⟨v, ?_, hv⟩
      · intro M0 ad rw cp hR
        have h0 : ni_Sx St M0 ad rw cp M0 rw cp A (ni_live A) := ⟨hR, ni_KpR⟩
        have c0 := ni_clR A
        refine wp_Ld rfl rfl rfl ?_
        refine wp_Ld rfl rfl rfl ?_
        refine ws_Get (v := ni_z (A (t) 3)) rfl h0 hs hk rfl rfl rfl ?_
        refine wp_Ic false rfl (zc_ge_f ⟨by omega, by omega⟩ ⟨by omega, by omega⟩ (by omega)) ?_
        refine wp_Ld rfl rfl rfl ?_
        refine ws_Get (v := .ref (ad (t + 1))) rfl h0 hs hk rfl rfl rfl ?_
        refine wp_Ld rfl rfl rfl ?_
        refine ws_Ald (j := i) (v := ni_z (A (t + 1) (i))) rfl h0 (ni_o8_1 hs hk).1 (ni_o8_1 hs hk).2.1 (ni_o8_1 hs hk).2.2.1 ⟨by decide, rfl⟩ rfl (by omega) (by decide) (ni_LQ (ni_o8_1 hs hk).2.2.2 (by omega) (by omega)) rfl rfl ?_
        refine ws_P rfl (Nat.le_of_ble_eq_true rfl) rfl rfl (Nat.le_of_ble_eq_true rfl) (ni_PuUp (mt_lenOf (hq i (by omega))) (by decide)) ?_
        refine wp_St rfl rfl rfl ?_
        refine wp_Ld rfl rfl rfl ?_
        refine wp_Ld rfl rfl rfl ?_
        refine wp_Ic true rfl (zc_le_t ⟨by omega, by omega⟩ ⟨by omega, by omega⟩ (by omega)) ?_
        refine wp_Inc (x' := (i : Int) + 1) rfl rfl (zi_inc (z := 1) rfl) rfl ?_
        refine wp_P (g := ni_gGo 7) rfl rfl ?_
        exact ws_Dg h0 c0 g rfl
    · obtain ⟨b, hfit, hb01⟩ := mt_fits (xs := xs) (a := a) (hq i (by omega))
      by_cases h2 : b = 0
      · obtain ⟨v, g, hv⟩ := ih (i + 1) (by omega) best bl (ni_z (A (t + 1) i % 32)) hb hl
        refine ⟨v, ?_, hv⟩
        · intro M0 ad rw cp hR
          have h0 : ni_Sx St M0 ad rw cp M0 rw cp A (ni_live A) := ⟨hR, ni_KpR⟩
          have c0 := ni_clR A
          refine wp_Ld rfl rfl rfl ?_
          refine wp_Ld rfl rfl rfl ?_
          refine ws_Get (v := ni_z (A (t) 3)) rfl h0 hs hk rfl rfl rfl ?_
          refine wp_Ic false rfl (zc_ge_f ⟨by omega, by omega⟩ ⟨by omega, by omega⟩ (by omega)) ?_
          refine wp_Ld rfl rfl rfl ?_
          refine ws_Get (v := .ref (ad (t + 1))) rfl h0 hs hk rfl rfl rfl ?_
          refine wp_Ld rfl rfl rfl ?_
          refine ws_Ald (j := i) (v := ni_z (A (t + 1) (i))) rfl h0 (ni_o8_1 hs hk).1 (ni_o8_1 hs hk).2.1 (ni_o8_1 hs hk).2.2.1 ⟨by decide, rfl⟩ rfl (by omega) (by decide) (ni_LQ (ni_o8_1 hs hk).2.2.2 (by omega) (by omega)) rfl rfl ?_
          refine ws_P rfl (Nat.le_of_ble_eq_true rfl) rfl rfl (Nat.le_of_ble_eq_true rfl) (ni_PuUp (mt_lenOf (hq i (by omega))) (by decide)) ?_
          refine wp_St rfl rfl rfl ?_
          refine wp_Ld rfl rfl rfl ?_
          refine wp_Ld rfl rfl rfl ?_
          refine wp_Ic false rfl (zc_le_f ⟨by omega, by omega⟩ ⟨by omega, by omega⟩ (by omega)) ?_
          refine wp_Ld rfl rfl rfl ?_
          refine ws_Get (v := .ref (ad (t + 1))) rfl h0 hs hk rfl rfl rfl ?_
          refine wp_Ld rfl rfl rfl ?_
          refine ws_Ald (j := i) (v := ni_z (A (t + 1) (i))) rfl h0 (ni_o8_1 hs hk).1 (ni_o8_1 hs hk).2.1 (ni_o8_1 hs hk).2.2.1 ⟨by decide, rfl⟩ rfl (by omega) (by decide) (ni_LQ (ni_o8_1 hs hk).2.2.2 (by omega) (by omega)) rfl rfl ?_
          refine wp_Ld rfl rfl rfl ?_
          refine ws_P rfl (Nat.le_of_ble_eq_true rfl) rfl rfl (Nat.le_of_ble_eq_true rfl) (hfit) ?_
          refine wp_If true rfl (zf_eq_t ⟨by omega, by omega⟩ (by omega)) ?_
          refine wp_Inc (x' := (i : Int) + 1) rfl rfl (zi_inc (z := 1) rfl) rfl ?_
          refine wp_P (g := ni_gGo 7) rfl rfl ?_
          exact ws_Dg h0 c0 g rfl
      · obtain ⟨v, g, hv⟩ := ih (i + 1) (by omega) (i : Int) (A (t + 1) i % 32) (ni_z (A (t + 1) i % 32)) (by omega) (by omega)
        refine ⟨v, ?_, hv⟩
        · intro M0 ad rw cp hR
          have h0 : ni_Sx St M0 ad rw cp M0 rw cp A (ni_live A) := ⟨hR, ni_KpR⟩
          have c0 := ni_clR A
          refine wp_Ld rfl rfl rfl ?_
          refine wp_Ld rfl rfl rfl ?_
          refine ws_Get (v := ni_z (A (t) 3)) rfl h0 hs hk rfl rfl rfl ?_
          refine wp_Ic false rfl (zc_ge_f ⟨by omega, by omega⟩ ⟨by omega, by omega⟩ (by omega)) ?_
          refine wp_Ld rfl rfl rfl ?_
          refine ws_Get (v := .ref (ad (t + 1))) rfl h0 hs hk rfl rfl rfl ?_
          refine wp_Ld rfl rfl rfl ?_
          refine ws_Ald (j := i) (v := ni_z (A (t + 1) (i))) rfl h0 (ni_o8_1 hs hk).1 (ni_o8_1 hs hk).2.1 (ni_o8_1 hs hk).2.2.1 ⟨by decide, rfl⟩ rfl (by omega) (by decide) (ni_LQ (ni_o8_1 hs hk).2.2.2 (by omega) (by omega)) rfl rfl ?_
          refine ws_P rfl (Nat.le_of_ble_eq_true rfl) rfl rfl (Nat.le_of_ble_eq_true rfl) (ni_PuUp (mt_lenOf (hq i (by omega))) (by decide)) ?_
          refine wp_St rfl rfl rfl ?_
          refine wp_Ld rfl rfl rfl ?_
          refine wp_Ld rfl rfl rfl ?_
          refine wp_Ic false rfl (zc_le_f ⟨by omega, by omega⟩ ⟨by omega, by omega⟩ (by omega)) ?_
          refine wp_Ld rfl rfl rfl ?_
          refine ws_Get (v := .ref (ad (t + 1))) rfl h0 hs hk rfl rfl rfl ?_
          refine wp_Ld rfl rfl rfl ?_
          refine ws_Ald (j := i) (v := ni_z (A (t + 1) (i))) rfl h0 (ni_o8_1 hs hk).1 (ni_o8_1 hs hk).2.1 (ni_o8_1 hs hk).2.2.1 ⟨by decide, rfl⟩ rfl (by omega) (by decide) (ni_LQ (ni_o8_1 hs hk).2.2.2 (by omega) (by omega)) rfl rfl ?_
          refine wp_Ld rfl rfl rfl ?_
          refine ws_P rfl (Nat.le_of_ble_eq_true rfl) rfl rfl (Nat.le_of_ble_eq_true rfl) (hfit) ?_
          refine wp_If false rfl (zf_eq_f ⟨by omega, by omega⟩ (by omega)) ?_
          refine wp_Ld rfl rfl rfl ?_
          refine wp_St rfl rfl rfl ?_
          refine wp_Ld rfl rfl rfl ?_
          refine wp_St rfl rfl rfl ?_
          refine wp_Inc (x' := (i : Int) + 1) rfl rfl (zi_inc (z := 1) rfl) rfl ?_
          refine wp_P (g := ni_gGo 7) rfl rfl ?_
          exact ws_Dg h0 c0 g rfl
theorem mt_find {t : Nat} {a : Int} (hs : ni_us t = true) (hk : ni_kd t = 8) (hn : 0 ≤ A t 3 ∧ A t 3 ≤ 216) (hq : ∀ i : Nat, (i : Int) < A t 3 → 0 ≤ A (t + 1) i ∧ A (t + 1) i ≤ 2147483647) : ∃ v : Int, ni_Dc xs St 3 147 (fun ad => [.ref (ad t), ni_z a]) A (fun _ => some (ni_z v)) A ∧ (-1 ≤ v ∧ v < A t 3) := by
  obtain ⟨v, g, hv⟩ := mt_findL (xs := xs) (St := St) (a := a) hs hk (n := (A t 3).toNat) (by omega) (by omega) hq (A t 3).toNat 0 (by omega) (-1) (-1) ni_J (by omega) (by omega)
  refine ⟨v, ?_, by omega⟩
  · refine ni_Dw (fun _ => Nat.le_of_ble_eq_true rfl) (fun _ => rfl) ?_
    intro M0 ad rw cp hR
    have h0 : ni_Sx St M0 ad rw cp M0 rw cp A (ni_live A) := ⟨hR, ni_KpR⟩
    have c0 := ni_clR A
    refine wp_P (g := ni_gPush (.int (-1)) 1) rfl (wp_push (z := -1) rfl) ?_
    refine wp_St rfl rfl rfl ?_
    refine wp_P (g := ni_gPush (.int (-1)) 3) rfl (wp_push (z := -1) rfl) ?_
    refine wp_St rfl rfl rfl ?_
    refine wp_P (g := ni_gPush (.int (0)) 5) rfl (wp_push (z := 0) rfl) ?_
    refine wp_St rfl rfl rfl ?_
    exact ws_Dg h0 c0 g rfl
end MLK
