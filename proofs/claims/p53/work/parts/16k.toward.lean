/-! THE LINK TOWARD A FLOW -/
section MTW
variable {xs : List Int32} {St : Nat → Option ni_C} {A : Nat → Nat → Int}
theorem mt_linkAtL {x pl : Int} : ∀ k i : Nat, i + k = 14 → ∀ left : Int, (-(i : Int) ≤ left ∧ left ≤ 1000) → ∃ v : Int, (∀ M, wp_G xs 0 82 4 [ni_z x, ni_z pl, ni_z left, ni_z (i : Int)] [] M (fun u M' => u = some (ni_z v) ∧ M' = M)) ∧ (-1 ≤ v ∧ v < 14) := by
  intro k
  induction k with
  | zero =>
    intro i hi left hl
    have hin : i = 14 := by omega
    subst hin
    refine ⟨-1, fun M => ?_, by omega, by omega⟩
    · skip
      refine wp_Ld rfl rfl rfl ?_
      refine wp_P (g := ni_gPush (.int (14)) 7) rfl (wp_push (z := 14) rfl) ?_
      refine wp_Ic true rfl (zc_ge_t ⟨by omega, by omega⟩ ⟨by omega, by omega⟩ (by omega)) ?_
      refine wp_P (g := ni_gPush (.int (-1)) 34) rfl (wp_push (z := -1) rfl) ?_
      exact wp_R rfl rfl ⟨rfl, rfl⟩
  | succ k ih =>
    intro i hi left hl
    obtain ⟨c1, h1, g1⟩ := zi_ex (Int32.ofInt x >>> (Int32.ofInt (i : Int) &&& 31))
    obtain ⟨c2, h2, g2, g3⟩ := zi_ex (Int32.ofInt c1 &&& Int32.ofInt 1)
    by_cases e : c2 = 0
    · obtain ⟨v, g, hv⟩ := ih (i + 1) (by omega) left (by omega)
      refine ⟨v, fun M => ?_, hv⟩
      refine wp_Ld rfl rfl rfl ?_
      refine wp_P (g := ni_gPush (.int (14)) 7) rfl (wp_push (z := 14) rfl) ?_
      refine wp_Ic false rfl (zc_ge_f ⟨by omega, by omega⟩ ⟨by omega, by omega⟩ (by omega)) ?_
      refine wp_Ld rfl rfl rfl ?_
      refine wp_Ld rfl rfl rfl ?_
      refine wp_P rfl (wp_I (c := c1) h1) ?_
      refine wp_P (g := ni_gPush (.int (1)) 14) rfl (wp_push (z := 1) rfl) ?_
      refine wp_P rfl (wp_I (c := c2) h2) ?_
      refine wp_If true rfl (zf_eq_t ⟨by omega, by omega⟩ (by omega)) ?_
      refine wp_Inc (x' := (i : Int) + 1) rfl rfl (zi_inc (z := 1) rfl) rfl ?_
      refine wp_P (g := ni_gGo 4) rfl rfl ?_
      exact g M
    · by_cases el : left = 0
      · refine ⟨i, fun M => ?_, by omega, by omega⟩
        refine wp_Ld rfl rfl rfl ?_
        refine wp_P (g := ni_gPush (.int (14)) 7) rfl (wp_push (z := 14) rfl) ?_
        refine wp_Ic false rfl (zc_ge_f ⟨by omega, by omega⟩ ⟨by omega, by omega⟩ (by omega)) ?_
        refine wp_Ld rfl rfl rfl ?_
        refine wp_Ld rfl rfl rfl ?_
        refine wp_P rfl (wp_I (c := c1) h1) ?_
        refine wp_P (g := ni_gPush (.int (1)) 14) rfl (wp_push (z := 1) rfl) ?_
        refine wp_P rfl (wp_I (c := c2) h2) ?_
        refine wp_If false rfl (zf_eq_f ⟨by omega, by omega⟩ (by omega)) ?_
        refine wp_Ld rfl rfl rfl ?_
        refine wp_If false rfl (zf_ne_f ⟨by omega, by omega⟩ (by omega)) ?_
        refine wp_Ld rfl rfl rfl ?_
        exact wp_R rfl rfl ⟨rfl, rfl⟩
      · obtain ⟨v, g, hv⟩ := ih (i + 1) (by omega) (left + (-1)) (by omega)
        refine ⟨v, fun M => ?_, hv⟩
        refine wp_Ld rfl rfl rfl ?_
        refine wp_P (g := ni_gPush (.int (14)) 7) rfl (wp_push (z := 14) rfl) ?_
        refine wp_Ic false rfl (zc_ge_f ⟨by omega, by omega⟩ ⟨by omega, by omega⟩ (by omega)) ?_
        refine wp_Ld rfl rfl rfl ?_
        refine wp_Ld rfl rfl rfl ?_
        refine wp_P rfl (wp_I (c := c1) h1) ?_
        refine wp_P (g := ni_gPush (.int (1)) 14) rfl (wp_push (z := 1) rfl) ?_
        refine wp_P rfl (wp_I (c := c2) h2) ?_
        refine wp_If false rfl (zf_eq_f ⟨by omega, by omega⟩ (by omega)) ?_
        refine wp_Ld rfl rfl rfl ?_
        refine wp_If true rfl (zf_ne_t ⟨by omega, by omega⟩ (by omega)) ?_
        refine wp_Inc (x' := left + (-1)) rfl rfl (zi_inc (z := -1) rfl) rfl ?_
        refine wp_Inc (x' := (i : Int) + 1) rfl rfl (zi_inc (z := 1) rfl) rfl ?_
        refine wp_P (g := ni_gGo 4) rfl rfl ?_
        exact g M
theorem mt_linkAt {x pl : Int} (h : 0 ≤ pl ∧ pl ≤ 1000) : ∃ v : Int, ni_Pu xs 1 82 [ni_z x, ni_z pl] (some (ni_z v)) ∧ (-1 ≤ v ∧ v < 14) := by
  obtain ⟨v, g, hv⟩ := mt_linkAtL (xs := xs) (x := x) (pl := pl) 14 0 (by omega) pl (by omega)
  refine ⟨v, fun M => ?_, hv⟩
  refine wp_enter (Nat.le_of_ble_eq_true rfl) rfl ?_
  refine wp_Ld rfl rfl rfl ?_
  refine wp_St rfl rfl rfl ?_
  refine wp_P (g := ni_gPush (.int (0)) 3) rfl (wp_push (z := 0) rfl) ?_
  refine wp_St rfl rfl rfl ?_
  exact g M
theorem ni_roS : ∀ r : Nat, r < 8 → ni_us (286 + 11 * r) = true ∧ ni_kd (286 + 11 * r) = 7 := by decide +kernel
theorem ni_liS : ∀ l : Nat, l < 14 → ni_us (48 + 17 * l) = true ∧ ni_kd (48 + 17 * l) = 3 := by decide +kernel
/-- a table is in order -/
def ni_TI (A : Nat → Nat → Int) (t : Nat) : Prop := (0 ≤ A t 3 ∧ A t 3 ≤ 216) ∧ ∀ i : Nat, (i : Int) < A t 3 → (0 ≤ A (t + 1) i ∧ A (t + 1) i < 2097152 ∧ A (t + 1) i % 32 ≤ 16) ∧ (0 ≤ A (t + 2) i ∧ A (t + 2) i ≤ 2) ∧ 0 ≤ A (t + 3) i ∧ A (t + 3) i < 16384
theorem mt_toward {r f : Nat} (hr : r < 8) (hf : f < 12) (hT : ni_TI A (286 + 11 * r + 7)) : ∃ v : Int, ni_Dc xs St 4 83 (fun ad => [.ref (ad 0), ni_z (r : Int), ni_z (f : Int)]) A (fun _ => some (ni_z v)) A ∧ (v = -2 ∨ (-1 ≤ v ∧ v < 14)) := by
  have ht := ni_o7_7 (ni_roS r hr).1 (ni_roS r hr).2
  obtain ⟨e, hD, he⟩ := mt_find (xs := xs) (St := St) (A := A) (a := A (12 + 3 * f) 1) ht.1 ht.2.1 hT.1 (fun i hi => by have := (hT.2 i hi).1; omega)
  by_cases e1 : e = -1
  · refine ⟨-1, ?_, Or.inr ⟨by omega, by omega⟩⟩
    · refine ni_Dw (fun _ => Nat.le_of_ble_eq_true rfl) (fun _ => rfl) ?_
      intro M0 ad rw cp hR
      have h0 : ni_Sx St M0 ad rw cp M0 rw cp A (ni_live A) := ⟨hR, ni_KpR⟩
      have c0 := ni_clR A
      refine wp_Ld rfl rfl rfl ?_
      refine ws_Get (v := .ref (ad 1)) rfl h0 (show ni_us 0 = true by decide +kernel) (show ni_kd 0 = 4 by decide +kernel) rfl rfl rfl ?_
      refine wp_Ld rfl rfl rfl ?_
      refine ws_Qld (j := r) (v := .ref (ad (286 + 11 * r))) rfl h0 (show ni_us 1 = true by decide +kernel) (show ni_kd 1 = 101 by decide +kernel) (show ni_ln 1 = 8 by decide +kernel) ⟨by decide, rfl⟩ rfl (by omega) (by decide) (ni_LR h0 (show ni_us 1 = true by decide +kernel) (by decide +kernel) (by omega)) rfl rfl ?_
      refine ws_Get (v := .ref (ad (286 + 11 * r + 7))) rfl h0 (ni_roS r hr).1 (ni_roS r hr).2 rfl rfl rfl ?_
      refine wp_St (ls' := [.ref (ad (0)), ni_z ((r : Int)), ni_z ((f : Int)), .ref (ad (286 + 11 * r + 7)), ni_J, ni_J, ni_J]) rfl rfl rfl ?_
      refine wp_Ld rfl rfl rfl ?_
      refine wp_Ld rfl rfl rfl ?_
      refine ws_Get (v := .ref (ad 3)) rfl h0 (show ni_us 0 = true by decide +kernel) (show ni_kd 0 = 4 by decide +kernel) rfl rfl rfl ?_
      refine wp_Ld rfl rfl rfl ?_
      refine ws_Qld (j := f) (v := .ref (ad (12 + 3 * f))) rfl h0 (show ni_us 3 = true by decide +kernel) (show ni_kd 3 = 103 by decide +kernel) (show ni_ln 3 = 12 by decide +kernel) ⟨by decide, rfl⟩ rfl (by omega) (by decide) (ni_LR h0 (show ni_us 3 = true by decide +kernel) (by decide +kernel) (by omega)) rfl rfl ?_
      refine ws_Get (v := ni_z (A (12 + 3 * f) 1)) rfl h0 (ni_flS f hf).1 (ni_flS f hf).2 rfl rfl rfl ?_
      refine ws_V rfl rfl rfl h0 c0 (ni_o7_7 (ni_roS r hr).1 (ni_roS r hr).2).1 (ni_o7_7 (ni_roS r hr).1 (ni_roS r hr).2).2.1 rfl (Nat.le_of_ble_eq_true rfl) (hD) rfl ?_
      intro M1 rw1 cp1 h1
      have c1 := ni_clR (A)
      clear h0 c0
      refine wp_St (ls' := [.ref (ad (0)), ni_z ((r : Int)), ni_z ((f : Int)), .ref (ad (286 + 11 * r + 7)), ni_z (e), ni_J, ni_J]) rfl rfl rfl ?_
      refine wp_Ld rfl rfl rfl ?_
      refine wp_P (g := ni_gPush (.int (-1)) 28) rfl (wp_push (z := -1) rfl) ?_
      refine wp_Ic false rfl (zc_ne_f ⟨by omega, by omega⟩ ⟨by omega, by omega⟩ (by omega)) ?_
      refine wp_P (g := ni_gPush (.int (-1)) 32) rfl (wp_push (z := -1) rfl) ?_
      exact ws_R (v := fun _ => some (ni_z (-1))) rfl rfl h1 c1 rfl
  · obtain ⟨n, hn⟩ := Int.eq_ofNat_of_zero_le (show 0 ≤ e by omega)
    obtain ⟨t1, t2, t3, t4⟩ := hT.2 n (by omega)
    have t5 := hT.1
    by_cases e2 : A (286 + 11 * r + 7 + 2) n = 0
    · refine ⟨-2, ?_, Or.inl rfl⟩
      · refine ni_Dw (fun _ => Nat.le_of_ble_eq_true rfl) (fun _ => rfl) ?_
        intro M0 ad rw cp hR
        have h0 : ni_Sx St M0 ad rw cp M0 rw cp A (ni_live A) := ⟨hR, ni_KpR⟩
        have c0 := ni_clR A
        refine wp_Ld rfl rfl rfl ?_
        refine ws_Get (v := .ref (ad 1)) rfl h0 (show ni_us 0 = true by decide +kernel) (show ni_kd 0 = 4 by decide +kernel) rfl rfl rfl ?_
        refine wp_Ld rfl rfl rfl ?_
        refine ws_Qld (j := r) (v := .ref (ad (286 + 11 * r))) rfl h0 (show ni_us 1 = true by decide +kernel) (show ni_kd 1 = 101 by decide +kernel) (show ni_ln 1 = 8 by decide +kernel) ⟨by decide, rfl⟩ rfl (by omega) (by decide) (ni_LR h0 (show ni_us 1 = true by decide +kernel) (by decide +kernel) (by omega)) rfl rfl ?_
        refine ws_Get (v := .ref (ad (286 + 11 * r + 7))) rfl h0 (ni_roS r hr).1 (ni_roS r hr).2 rfl rfl rfl ?_
        refine wp_St (ls' := [.ref (ad (0)), ni_z ((r : Int)), ni_z ((f : Int)), .ref (ad (286 + 11 * r + 7)), ni_J, ni_J, ni_J]) rfl rfl rfl ?_
        refine wp_Ld rfl rfl rfl ?_
        refine wp_Ld rfl rfl rfl ?_
        refine ws_Get (v := .ref (ad 3)) rfl h0 (show ni_us 0 = true by decide +kernel) (show ni_kd 0 = 4 by decide +kernel) rfl rfl rfl ?_
        refine wp_Ld rfl rfl rfl ?_
        refine ws_Qld (j := f) (v := .ref (ad (12 + 3 * f))) rfl h0 (show ni_us 3 = true by decide +kernel) (show ni_kd 3 = 103 by decide +kernel) (show ni_ln 3 = 12 by decide +kernel) ⟨by decide, rfl⟩ rfl (by omega) (by decide) (ni_LR h0 (show ni_us 3 = true by decide +kernel) (by decide +kernel) (by omega)) rfl rfl ?_
        refine ws_Get (v := ni_z (A (12 + 3 * f) 1)) rfl h0 (ni_flS f hf).1 (ni_flS f hf).2 rfl rfl rfl ?_
        refine ws_V rfl rfl rfl h0 c0 (ni_o7_7 (ni_roS r hr).1 (ni_roS r hr).2).1 (ni_o7_7 (ni_roS r hr).1 (ni_roS r hr).2).2.1 rfl (Nat.le_of_ble_eq_true rfl) (hD) rfl ?_
        intro M1 rw1 cp1 h1
        have c1 := ni_clR (A)
        clear h0 c0
        refine wp_St (ls' := [.ref (ad (0)), ni_z ((r : Int)), ni_z ((f : Int)), .ref (ad (286 + 11 * r + 7)), ni_z (e), ni_J, ni_J]) rfl rfl rfl ?_
        refine wp_Ld rfl rfl rfl ?_
        refine wp_P (g := ni_gPush (.int (-1)) 28) rfl (wp_push (z := -1) rfl) ?_
        refine wp_Ic true rfl (zc_ne_t ⟨by omega, by omega⟩ ⟨by omega, by omega⟩ (by omega)) ?_
        refine wp_Ld rfl rfl rfl ?_
        refine ws_Get (v := .ref (ad (286 + 11 * r + 7 + 2))) rfl h1 (ni_o7_7 (ni_roS r hr).1 (ni_roS r hr).2).1 (ni_o7_7 (ni_roS r hr).1 (ni_roS r hr).2).2.1 rfl rfl rfl ?_
        refine wp_Ld rfl rfl rfl ?_
        refine ws_Ald (j := n) (v := ni_z (A (286 + 11 * r + 7 + 2) (n))) rfl h1 (ni_o8_2 (ni_o7_7 (ni_roS r hr).1 (ni_roS r hr).2).1 (ni_o7_7 (ni_roS r hr).1 (ni_roS r hr).2).2.1).1 (ni_o8_2 (ni_o7_7 (ni_roS r hr).1 (ni_roS r hr).2).1 (ni_o7_7 (ni_roS r hr).1 (ni_roS r hr).2).2.1).2.1 (ni_o8_2 (ni_o7_7 (ni_roS r hr).1 (ni_roS r hr).2).1 (ni_o7_7 (ni_roS r hr).1 (ni_roS r hr).2).2.1).2.2.1 ⟨by decide, rfl⟩ hn (by omega) (by decide) (ni_LQ (ni_o8_2 (ni_o7_7 (ni_roS r hr).1 (ni_roS r hr).2).1 (ni_o7_7 (ni_roS r hr).1 (ni_roS r hr).2).2.1).2.2.2 (by omega) (by omega)) rfl rfl ?_
        refine wp_If false rfl (zf_ne_f ⟨by omega, by omega⟩ (by omega)) ?_
        refine wp_P (g := ni_gPush (.int (-2)) 45) rfl (wp_push (z := -2) rfl) ?_
        exact ws_R (v := fun _ => some (ni_z (-2))) rfl rfl h1 c1 rfl
    · obtain ⟨m, hm⟩ := Int.eq_ofNat_of_zero_le t3
      have hbc := ni_PuUp (mt_bitc (xs := xs) (n := m) (by omega)) (d' := 3) (by decide)
      rw [← hm] at hbc
      obtain ⟨b1, b2⟩ := ni_bcF (n := m) (by omega)
      by_cases e3 : ni_bc m = 0
      · refine ⟨-1, ?_, Or.inr ⟨by omega, by omega⟩⟩
        · refine ni_Dw (fun _ => Nat.le_of_ble_eq_true rfl) (fun _ => rfl) ?_
          intro M0 ad rw cp hR
          have h0 : ni_Sx St M0 ad rw cp M0 rw cp A (ni_live A) := ⟨hR, ni_KpR⟩
          have c0 := ni_clR A
          refine wp_Ld rfl rfl rfl ?_
          refine ws_Get (v := .ref (ad 1)) rfl h0 (show ni_us 0 = true by decide +kernel) (show ni_kd 0 = 4 by decide +kernel) rfl rfl rfl ?_
          refine wp_Ld rfl rfl rfl ?_
          refine ws_Qld (j := r) (v := .ref (ad (286 + 11 * r))) rfl h0 (show ni_us 1 = true by decide +kernel) (show ni_kd 1 = 101 by decide +kernel) (show ni_ln 1 = 8 by decide +kernel) ⟨by decide, rfl⟩ rfl (by omega) (by decide) (ni_LR h0 (show ni_us 1 = true by decide +kernel) (by decide +kernel) (by omega)) rfl rfl ?_
          refine ws_Get (v := .ref (ad (286 + 11 * r + 7))) rfl h0 (ni_roS r hr).1 (ni_roS r hr).2 rfl rfl rfl ?_
          refine wp_St (ls' := [.ref (ad (0)), ni_z ((r : Int)), ni_z ((f : Int)), .ref (ad (286 + 11 * r + 7)), ni_J, ni_J, ni_J]) rfl rfl rfl ?_
          refine wp_Ld rfl rfl rfl ?_
          refine wp_Ld rfl rfl rfl ?_
          refine ws_Get (v := .ref (ad 3)) rfl h0 (show ni_us 0 = true by decide +kernel) (show ni_kd 0 = 4 by decide +kernel) rfl rfl rfl ?_
          refine wp_Ld rfl rfl rfl ?_
          refine ws_Qld (j := f) (v := .ref (ad (12 + 3 * f))) rfl h0 (show ni_us 3 = true by decide +kernel) (show ni_kd 3 = 103 by decide +kernel) (show ni_ln 3 = 12 by decide +kernel) ⟨by decide, rfl⟩ rfl (by omega) (by decide) (ni_LR h0 (show ni_us 3 = true by decide +kernel) (by decide +kernel) (by omega)) rfl rfl ?_
          refine ws_Get (v := ni_z (A (12 + 3 * f) 1)) rfl h0 (ni_flS f hf).1 (ni_flS f hf).2 rfl rfl rfl ?_
          refine ws_V rfl rfl rfl h0 c0 (ni_o7_7 (ni_roS r hr).1 (ni_roS r hr).2).1 (ni_o7_7 (ni_roS r hr).1 (ni_roS r hr).2).2.1 rfl (Nat.le_of_ble_eq_true rfl) (hD) rfl ?_
          intro M1 rw1 cp1 h1
          have c1 := ni_clR (A)
          clear h0 c0
          refine wp_St (ls' := [.ref (ad (0)), ni_z ((r : Int)), ni_z ((f : Int)), .ref (ad (286 + 11 * r + 7)), ni_z (e), ni_J, ni_J]) rfl rfl rfl ?_
          refine wp_Ld rfl rfl rfl ?_
          refine wp_P (g := ni_gPush (.int (-1)) 28) rfl (wp_push (z := -1) rfl) ?_
          refine wp_Ic true rfl (zc_ne_t ⟨by omega, by omega⟩ ⟨by omega, by omega⟩ (by omega)) ?_
          refine wp_Ld rfl rfl rfl ?_
          refine ws_Get (v := .ref (ad (286 + 11 * r + 7 + 2))) rfl h1 (ni_o7_7 (ni_roS r hr).1 (ni_roS r hr).2).1 (ni_o7_7 (ni_roS r hr).1 (ni_roS r hr).2).2.1 rfl rfl rfl ?_
          refine wp_Ld rfl rfl rfl ?_
          refine ws_Ald (j := n) (v := ni_z (A (286 + 11 * r + 7 + 2) (n))) rfl h1 (ni_o8_2 (ni_o7_7 (ni_roS r hr).1 (ni_roS r hr).2).1 (ni_o7_7 (ni_roS r hr).1 (ni_roS r hr).2).2.1).1 (ni_o8_2 (ni_o7_7 (ni_roS r hr).1 (ni_roS r hr).2).1 (ni_o7_7 (ni_roS r hr).1 (ni_roS r hr).2).2.1).2.1 (ni_o8_2 (ni_o7_7 (ni_roS r hr).1 (ni_roS r hr).2).1 (ni_o7_7 (ni_roS r hr).1 (ni_roS r hr).2).2.1).2.2.1 ⟨by decide, rfl⟩ hn (by omega) (by decide) (ni_LQ (ni_o8_2 (ni_o7_7 (ni_roS r hr).1 (ni_roS r hr).2).1 (ni_o7_7 (ni_roS r hr).1 (ni_roS r hr).2).2.1).2.2.2 (by omega) (by omega)) rfl rfl ?_
          refine wp_If true rfl (zf_ne_t ⟨by omega, by omega⟩ (by omega)) ?_
          refine wp_Ld rfl rfl rfl ?_
          refine ws_Get (v := .ref (ad (286 + 11 * r + 7 + 3))) rfl h1 (ni_o7_7 (ni_roS r hr).1 (ni_roS r hr).2).1 (ni_o7_7 (ni_roS r hr).1 (ni_roS r hr).2).2.1 rfl rfl rfl ?_
          refine wp_Ld rfl rfl rfl ?_
          refine ws_Ald (j := n) (v := ni_z (A (286 + 11 * r + 7 + 3) (n))) rfl h1 (ni_o8_3 (ni_o7_7 (ni_roS r hr).1 (ni_roS r hr).2).1 (ni_o7_7 (ni_roS r hr).1 (ni_roS r hr).2).2.1).1 (ni_o8_3 (ni_o7_7 (ni_roS r hr).1 (ni_roS r hr).2).1 (ni_o7_7 (ni_roS r hr).1 (ni_roS r hr).2).2.1).2.1 (ni_o8_3 (ni_o7_7 (ni_roS r hr).1 (ni_roS r hr).2).1 (ni_o7_7 (ni_roS r hr).1 (ni_roS r hr).2).2.1).2.2.1 ⟨by decide, rfl⟩ hn (by omega) (by decide) (ni_LQ (ni_o8_3 (ni_o7_7 (ni_roS r hr).1 (ni_roS r hr).2).1 (ni_o7_7 (ni_roS r hr).1 (ni_roS r hr).2).2.1).2.2.2 (by omega) (by omega)) rfl rfl ?_
          refine wp_St (ls' := [.ref (ad (0)), ni_z ((r : Int)), ni_z ((f : Int)), .ref (ad (286 + 11 * r + 7)), ni_z (e), ni_z (A (286 + 11 * r + 7 + 3) (n)), ni_J]) rfl rfl rfl ?_
          refine wp_Ld rfl rfl rfl ?_
          refine ws_P rfl (Nat.le_of_ble_eq_true rfl) rfl rfl (Nat.le_of_ble_eq_true rfl) (hbc) ?_
          refine wp_St (ls' := [.ref (ad (0)), ni_z ((r : Int)), ni_z ((f : Int)), .ref (ad (286 + 11 * r + 7)), ni_z (e), ni_z (A (286 + 11 * r + 7 + 3) (n)), ni_z ((ni_bc m : Int))]) rfl rfl rfl ?_
          refine wp_Ld rfl rfl rfl ?_
          refine wp_If false rfl (zf_ne_f ⟨by omega, by omega⟩ (by omega)) ?_
          refine wp_P (g := ni_gPush (.int (-1)) 68) rfl (wp_push (z := -1) rfl) ?_
          refine wp_P (g := ni_gGo 85) rfl rfl ?_
          exact ws_R (v := fun _ => some (ni_z (-1))) rfl rfl h1 c1 rfl
      · have m0 : 0 ≤ ((f : Int) * 7 + (r : Int)) % (ni_bc m : Int) := Int.emod_nonneg _ (by omega)
        have m1 : ((f : Int) * 7 + (r : Int)) % (ni_bc m : Int) < (ni_bc m : Int) := Int.emod_lt_of_pos _ (by omega)
        obtain ⟨v, hla, hv⟩ := mt_linkAt (xs := xs) (x := A (286 + 11 * r + 7 + 3) n) (pl := ((f : Int) * 7 + (r : Int)) % (ni_bc m : Int)) (by omega)
        have hla := ni_PuUp hla (d' := 3) (by decide)
        refine ⟨v, ?_, Or.inr hv⟩
        · refine ni_Dw (fun _ => Nat.le_of_ble_eq_true rfl) (fun _ => rfl) ?_
          intro M0 ad rw cp hR
          have h0 : ni_Sx St M0 ad rw cp M0 rw cp A (ni_live A) := ⟨hR, ni_KpR⟩
          have c0 := ni_clR A
          refine wp_Ld rfl rfl rfl ?_
          refine ws_Get (v := .ref (ad 1)) rfl h0 (show ni_us 0 = true by decide +kernel) (show ni_kd 0 = 4 by decide +kernel) rfl rfl rfl ?_
          refine wp_Ld rfl rfl rfl ?_
          refine ws_Qld (j := r) (v := .ref (ad (286 + 11 * r))) rfl h0 (show ni_us 1 = true by decide +kernel) (show ni_kd 1 = 101 by decide +kernel) (show ni_ln 1 = 8 by decide +kernel) ⟨by decide, rfl⟩ rfl (by omega) (by decide) (ni_LR h0 (show ni_us 1 = true by decide +kernel) (by decide +kernel) (by omega)) rfl rfl ?_
          refine ws_Get (v := .ref (ad (286 + 11 * r + 7))) rfl h0 (ni_roS r hr).1 (ni_roS r hr).2 rfl rfl rfl ?_
          refine wp_St (ls' := [.ref (ad (0)), ni_z ((r : Int)), ni_z ((f : Int)), .ref (ad (286 + 11 * r + 7)), ni_J, ni_J, ni_J]) rfl rfl rfl ?_
          refine wp_Ld rfl rfl rfl ?_
          refine wp_Ld rfl rfl rfl ?_
          refine ws_Get (v := .ref (ad 3)) rfl h0 (show ni_us 0 = true by decide +kernel) (show ni_kd 0 = 4 by decide +kernel) rfl rfl rfl ?_
          refine wp_Ld rfl rfl rfl ?_
          refine ws_Qld (j := f) (v := .ref (ad (12 + 3 * f))) rfl h0 (show ni_us 3 = true by decide +kernel) (show ni_kd 3 = 103 by decide +kernel) (show ni_ln 3 = 12 by decide +kernel) ⟨by decide, rfl⟩ rfl (by omega) (by decide) (ni_LR h0 (show ni_us 3 = true by decide +kernel) (by decide +kernel) (by omega)) rfl rfl ?_
          refine ws_Get (v := ni_z (A (12 + 3 * f) 1)) rfl h0 (ni_flS f hf).1 (ni_flS f hf).2 rfl rfl rfl ?_
          refine ws_V rfl rfl rfl h0 c0 (ni_o7_7 (ni_roS r hr).1 (ni_roS r hr).2).1 (ni_o7_7 (ni_roS r hr).1 (ni_roS r hr).2).2.1 rfl (Nat.le_of_ble_eq_true rfl) (hD) rfl ?_
          intro M1 rw1 cp1 h1
          have c1 := ni_clR (A)
          clear h0 c0
          refine wp_St (ls' := [.ref (ad (0)), ni_z ((r : Int)), ni_z ((f : Int)), .ref (ad (286 + 11 * r + 7)), ni_z (e), ni_J, ni_J]) rfl rfl rfl ?_
          refine wp_Ld rfl rfl rfl ?_
          refine wp_P (g := ni_gPush (.int (-1)) 28) rfl (wp_push (z := -1) rfl) ?_
          refine wp_Ic true rfl (zc_ne_t ⟨by omega, by omega⟩ ⟨by omega, by omega⟩ (by omega)) ?_
          refine wp_Ld rfl rfl rfl ?_
          refine ws_Get (v := .ref (ad (286 + 11 * r + 7 + 2))) rfl h1 (ni_o7_7 (ni_roS r hr).1 (ni_roS r hr).2).1 (ni_o7_7 (ni_roS r hr).1 (ni_roS r hr).2).2.1 rfl rfl rfl ?_
          refine wp_Ld rfl rfl rfl ?_
          refine ws_Ald (j := n) (v := ni_z (A (286 + 11 * r + 7 + 2) (n))) rfl h1 (ni_o8_2 (ni_o7_7 (ni_roS r hr).1 (ni_roS r hr).2).1 (ni_o7_7 (ni_roS r hr).1 (ni_roS r hr).2).2.1).1 (ni_o8_2 (ni_o7_7 (ni_roS r hr).1 (ni_roS r hr).2).1 (ni_o7_7 (ni_roS r hr).1 (ni_roS r hr).2).2.1).2.1 (ni_o8_2 (ni_o7_7 (ni_roS r hr).1 (ni_roS r hr).2).1 (ni_o7_7 (ni_roS r hr).1 (ni_roS r hr).2).2.1).2.2.1 ⟨by decide, rfl⟩ hn (by omega) (by decide) (ni_LQ (ni_o8_2 (ni_o7_7 (ni_roS r hr).1 (ni_roS r hr).2).1 (ni_o7_7 (ni_roS r hr).1 (ni_roS r hr).2).2.1).2.2.2 (by omega) (by omega)) rfl rfl ?_
          refine wp_If true rfl (zf_ne_t ⟨by omega, by omega⟩ (by omega)) ?_
          refine wp_Ld rfl rfl rfl ?_
          refine ws_Get (v := .ref (ad (286 + 11 * r + 7 + 3))) rfl h1 (ni_o7_7 (ni_roS r hr).1 (ni_roS r hr).2).1 (ni_o7_7 (ni_roS r hr).1 (ni_roS r hr).2).2.1 rfl rfl rfl ?_
          refine wp_Ld rfl rfl rfl ?_
          refine ws_Ald (j := n) (v := ni_z (A (286 + 11 * r + 7 + 3) (n))) rfl h1 (ni_o8_3 (ni_o7_7 (ni_roS r hr).1 (ni_roS r hr).2).1 (ni_o7_7 (ni_roS r hr).1 (ni_roS r hr).2).2.1).1 (ni_o8_3 (ni_o7_7 (ni_roS r hr).1 (ni_roS r hr).2).1 (ni_o7_7 (ni_roS r hr).1 (ni_roS r hr).2).2.1).2.1 (ni_o8_3 (ni_o7_7 (ni_roS r hr).1 (ni_roS r hr).2).1 (ni_o7_7 (ni_roS r hr).1 (ni_roS r hr).2).2.1).2.2.1 ⟨by decide, rfl⟩ hn (by omega) (by decide) (ni_LQ (ni_o8_3 (ni_o7_7 (ni_roS r hr).1 (ni_roS r hr).2).1 (ni_o7_7 (ni_roS r hr).1 (ni_roS r hr).2).2.1).2.2.2 (by omega) (by omega)) rfl rfl ?_
          refine wp_St (ls' := [.ref (ad (0)), ni_z ((r : Int)), ni_z ((f : Int)), .ref (ad (286 + 11 * r + 7)), ni_z (e), ni_z (A (286 + 11 * r + 7 + 3) (n)), ni_J]) rfl rfl rfl ?_
          refine wp_Ld rfl rfl rfl ?_
          refine ws_P rfl (Nat.le_of_ble_eq_true rfl) rfl rfl (Nat.le_of_ble_eq_true rfl) (hbc) ?_
          refine wp_St (ls' := [.ref (ad (0)), ni_z ((r : Int)), ni_z ((f : Int)), .ref (ad (286 + 11 * r + 7)), ni_z (e), ni_z (A (286 + 11 * r + 7 + 3) (n)), ni_z ((ni_bc m : Int))]) rfl rfl rfl ?_
          refine wp_Ld rfl rfl rfl ?_
          refine wp_If true rfl (zf_ne_t ⟨by omega, by omega⟩ (by omega)) ?_
          refine wp_Ld rfl rfl rfl ?_
          refine wp_Ld rfl rfl rfl ?_
          refine wp_P (g := ni_gPush (.int (7)) 76) rfl (wp_push (z := 7) rfl) ?_
          refine wp_P rfl wp_mul ?_
          refine wp_Ld rfl rfl rfl ?_
          refine wp_P rfl wp_add ?_
          refine wp_Ld rfl rfl rfl ?_
          refine wp_P rfl (wp_I0 (c := ((f : Int) * 7 + (r : Int)) % (ni_bc m : Int)) (zi_rem ⟨by omega, by omega⟩ (by omega) (by omega))) ?_
          refine ws_P rfl (Nat.le_of_ble_eq_true rfl) rfl rfl (Nat.le_of_ble_eq_true rfl) (hla) ?_
          exact ws_R (v := fun _ => some (ni_z (v))) rfl rfl h1 c1 rfl
end MTW
