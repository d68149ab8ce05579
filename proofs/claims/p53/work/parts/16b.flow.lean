/-! METHODS OF A FLOW AND OF A LINE -/
section MFL
variable {xs : List Int32} {St : Nat → Option ni_C} {A : Nat → Nat → Int}
/-- a row moved on by one place, from a to i - 1 -/
def ni_sf (A : Nat → Nat → Int) (r a i : Nat) : Nat → Nat → Int := fun s j => if s = r ∧ a ≤ j ∧ j + 1 < i then A r (j + 1) else A s j
theorem ni_sf0 {r a i : Nat} (h : i ≤ a + 1) : ni_sf A r a i = A := by
  funext s j
  unfold ni_sf
  rw [if_neg (by omega)]
theorem ni_sfN {r a i s j : Nat} (h : s ≠ r ∨ j < a ∨ i ≤ j + 1) : ni_sf A r a i s j = A s j := by
  unfold ni_sf
  rw [if_neg (by omega)]
theorem ni_sfS {r a i J : Nat} (h : a + 1 ≤ i) (hJ : J = i - 1) : ni_u2 (ni_sf A r a i) r J (ni_sf A r a i r i) = ni_sf A r a (i + 1) := by
  subst hJ
  funext s j
  unfold ni_u2
  by_cases e : s = r ∧ j = i - 1
  · rw [if_pos e, ni_sfN (Or.inr (Or.inr (by omega)))]
    unfold ni_sf
    rw [if_pos ⟨e.1, by omega, by omega⟩, e.2]
    congr 1
    omega
  · rw [if_neg e]
    unfold ni_sf
    by_cases g : s = r ∧ a ≤ j ∧ j + 1 < i
    · rw [if_pos g, if_pos ⟨g.1, g.2.1, by omega⟩]
    · rw [if_neg g, if_neg ?_]
      rintro ⟨g1, g2, g3⟩
      refine g ⟨g1, g2, ?_⟩
      have : ¬ j = i - 1 := fun z => e ⟨g1, z⟩
      omega
theorem mt_isShaped0 {f : Nat} (h7 : 0 ≤ A f 7 ∧ A f 7 ≤ 1000000) (h : A f 7 ≤ 0) (hs : ni_us f = true) (hk : ni_kd f = 0) : ni_Dc xs St 1 56 (fun ad => [.ref (ad f)]) A (fun _ => some (ni_z (0))) A := by
  have h374 := (ni_usT hs).1
  refine ni_Dw (fun _ => Nat.le_of_ble_eq_true rfl) (fun _ => rfl) ?_
  intro M0 ad rw cp hR
  have h0 : ni_Sx St M0 ad rw cp M0 rw cp A (ni_live A) := ⟨hR, ni_KpR⟩
  have c0 := ni_clR A
  refine wp_Ld rfl rfl rfl ?_
  refine ws_Get (v := ni_z (A (f) 7)) rfl h0 hs hk rfl rfl rfl ?_
  refine wp_If true rfl (zf_le_t ⟨by omega, by omega⟩ (by omega)) ?_
  refine wp_P (g := ni_gPush (.int (0)) 12) rfl (wp_push (z := 0) rfl) ?_
  exact ws_R (v := fun _ => some (ni_z (0))) rfl rfl h0 c0 rfl
theorem mt_isShaped1 {f : Nat} (h7 : 0 ≤ A f 7 ∧ A f 7 ≤ 1000000) (h : 0 < A f 7) (hs : ni_us f = true) (hk : ni_kd f = 0) : ni_Dc xs St 1 56 (fun ad => [.ref (ad f)]) A (fun _ => some (ni_z (1))) A := by
  have h374 := (ni_usT hs).1
  refine ni_Dw (fun _ => Nat.le_of_ble_eq_true rfl) (fun _ => rfl) ?_
  intro M0 ad rw cp hR
  have h0 : ni_Sx St M0 ad rw cp M0 rw cp A (ni_live A) := ⟨hR, ni_KpR⟩
  have c0 := ni_clR A
  refine wp_Ld rfl rfl rfl ?_
  refine ws_Get (v := ni_z (A (f) 7)) rfl h0 hs hk rfl rfl rfl ?_
  refine wp_If false rfl (zf_le_f ⟨by omega, by omega⟩ (by omega)) ?_
  refine wp_P (g := ni_gPush (.int (1)) 8) rfl (wp_push (z := 1) rfl) ?_
  refine wp_P (g := ni_gGo 12) rfl rfl ?_
  exact ws_R (v := fun _ => some (ni_z (1))) rfl rfl h0 c0 rfl
theorem mt_gain {f : Nat} (h7 : 0 ≤ A f 7 ∧ A f 7 ≤ 1000000) (h8 : 0 ≤ A f 8 ∧ A f 8 ≤ 1000000) (h9 : 0 ≤ A f 9 ∧ A f 9 ≤ 1000000) (hs : ni_us f = true) (hk : ni_kd f = 0) : ni_Dc xs St 1 55 (fun ad => [.ref (ad f)]) A (fun _ => none) (ni_u2 A (f) 9 (min ((A (f) 9) + (A (f) 7)) (A (f) 8))) := by
  have h374 := (ni_usT hs).1
  refine ni_Dw (fun _ => Nat.le_of_ble_eq_true rfl) (fun _ => rfl) ?_
  intro M0 ad rw cp hR
  have h0 : ni_Sx St M0 ad rw cp M0 rw cp A (ni_live A) := ⟨hR, ni_KpR⟩
  have c0 := ni_clR A
  refine wp_Ld rfl rfl rfl ?_
  refine wp_Ld rfl rfl rfl ?_
  refine ws_Get (v := ni_z (A (f) 9)) rfl h0 hs hk rfl rfl rfl ?_
  refine wp_Ld rfl rfl rfl ?_
  refine ws_Get (v := ni_z (A (f) 7)) rfl h0 hs hk rfl rfl rfl ?_
  refine wp_P rfl wp_add ?_
  refine wp_Ld rfl rfl rfl ?_
  refine ws_Get (v := ni_z (A (f) 8)) rfl h0 hs hk rfl rfl rfl ?_
  refine wp_P rfl (wp_IM (c := min ((A (f) 9) + (A (f) 7)) (A (f) 8)) ⟨Nat.le_of_ble_eq_true rfl, zi_min ⟨by omega, by omega⟩ ⟨by omega, by omega⟩⟩) ?_
  refine ws_Put rfl h0 hs hk rfl rfl (fun _ => rfl) rfl (fun z => absurd z (by decide)) ?_
  intro M1 h1
  have c1 := ni_clU (j := 9) (x := min ((A (f) 9) + (A (f) 7)) (A (f) 8)) c0 hs hk rfl
  clear h0 c0
  exact ws_Rv (v := fun _ => none) rfl rfl h1 c1 rfl
theorem mt_pushFull {f : Nat} {x : Int} (h : 10 ≤ A f 11 ∧ A f 11 ≤ 1000000) (hs : ni_us f = true) (hk : ni_kd f = 0) : ni_Dc xs St 1 58 (fun ad => [.ref (ad f), ni_z x]) A (fun _ => none) (ni_u2 A (f + 2) 0 ((A (f + 2) 0) + 1)) := by
  have h374 := (ni_usT hs).1
  refine ni_Dw (fun _ => Nat.le_of_ble_eq_true rfl) (fun _ => rfl) ?_
  intro M0 ad rw cp hR
  have h0 : ni_Sx St M0 ad rw cp M0 rw cp A (ni_live A) := ⟨hR, ni_KpR⟩
  have c0 := ni_clR A
  refine wp_Ld rfl rfl rfl ?_
  refine ws_Get (v := ni_z (A (f) 11)) rfl h0 hs hk rfl rfl rfl ?_
  refine wp_P (g := ni_gPush (.int (10)) 6) rfl (wp_push (z := 10) rfl) ?_
  refine wp_Ic false rfl (zc_lt_f ⟨by omega, by omega⟩ ⟨by omega, by omega⟩ (by omega)) ?_
  refine wp_Ld rfl rfl rfl ?_
  refine ws_Get (v := .ref (ad (f + 2))) rfl h0 hs hk rfl rfl rfl ?_
  refine wp_P (g := ni_gPush (.int (0)) 14) rfl (wp_push (z := 0) rfl) ?_
  refine wp_P (g := ni_gDup2 15) rfl rfl ?_
  refine ws_Ald (j := 0) (v := ni_z (A (f + 2) 0)) rfl h0 (ni_o0_2 hs hk).1 (ni_o0_2 hs hk).2.1 (ni_o0_2 hs hk).2.2.1 ⟨by decide, rfl⟩ rfl (by omega) (by decide) (ni_LR h0 (ni_o0_2 hs hk).1 (ni_o0_2 hs hk).2.2.2 (by omega)) rfl rfl ?_
  refine wp_P (g := ni_gPush (.int (1)) 17) rfl (wp_push (z := 1) rfl) ?_
  refine wp_P rfl wp_add ?_
  refine ws_Ast (j := 0) (x := (A (f + 2) 0) + 1) rfl h0 (ni_o0_2 hs hk).1 (ni_o0_2 hs hk).2.1 (ni_o0_2 hs hk).2.2.1 ⟨by decide, rfl⟩ rfl (by omega) (by decide) (Or.inl rfl) (congrArg ni_z ni_u2e.symm) ⟨rfl, rfl⟩ ?_
  intro M1 h1
  have c1 := ni_clU (j := 0) (x := (A (f + 2) 0) + 1) c0 (ni_o0_2 hs hk).1 (ni_o0_2 hs hk).2.1 rfl
  clear h0 c0
  exact ws_Rv (v := fun _ => none) rfl rfl h1 c1 rfl
theorem mt_pushRoom {f : Nat} {x : Int} (h : 0 ≤ A f 11 ∧ A f 11 < 10) (hs : ni_us f = true) (hk : ni_kd f = 0) : ni_Dc xs St 1 58 (fun ad => [.ref (ad f), ni_z x]) A (fun _ => none) (ni_u2 (ni_u2 A (f + 1) ((A (f) 11).toNat) (x)) (f) 11 ((A (f) 11) + 1)) := by
  have h374 := (ni_usT hs).1
  refine ni_Dw (fun _ => Nat.le_of_ble_eq_true rfl) (fun _ => rfl) ?_
  intro M0 ad rw cp hR
  have h0 : ni_Sx St M0 ad rw cp M0 rw cp A (ni_live A) := ⟨hR, ni_KpR⟩
  have c0 := ni_clR A
  refine wp_Ld rfl rfl rfl ?_
  refine ws_Get (v := ni_z (A (f) 11)) rfl h0 hs hk rfl rfl rfl ?_
  refine wp_P (g := ni_gPush (.int (10)) 6) rfl (wp_push (z := 10) rfl) ?_
  refine wp_Ic true rfl (zc_lt_t ⟨by omega, by omega⟩ ⟨by omega, by omega⟩ (by omega)) ?_
  refine wp_Ld rfl rfl rfl ?_
  refine ws_Get (v := .ref (ad (f + 1))) rfl h0 hs hk rfl rfl rfl ?_
  refine wp_Ld rfl rfl rfl ?_
  refine ws_Get (v := ni_z (A (f) 11)) rfl h0 hs hk rfl rfl rfl ?_
  refine wp_Ld rfl rfl rfl ?_
  refine ws_Ast (j := (A (f) 11).toNat) (x := x) rfl h0 (ni_o0_1 hs hk).1 (ni_o0_1 hs hk).2.1 (ni_o0_1 hs hk).2.2.1 ⟨by decide, rfl⟩ (by omega) (by omega) (by decide) (Or.inl rfl) (congrArg ni_z ni_u2e.symm) ⟨rfl, rfl⟩ ?_
  intro M1 h1
  have c1 := ni_clU (j := (A (f) 11).toNat) (x := x) c0 (ni_o0_1 hs hk).1 (ni_o0_1 hs hk).2.1 rfl
  clear h0 c0
  refine wp_Ld rfl rfl rfl ?_
  refine wp_P (g := ni_gDup 32) rfl rfl ?_
  refine ws_Get (v := ni_z (A (f) 11)) rfl h1 hs hk rfl rfl (congrArg ni_z (ni_u2n (Or.inl (by omega)))) ?_
  refine wp_P (g := ni_gPush (.int (1)) 36) rfl (wp_push (z := 1) rfl) ?_
  refine wp_P rfl wp_add ?_
  refine ws_Put rfl h1 hs hk rfl rfl (fun _ => rfl) rfl (fun z => absurd z (by decide)) ?_
  intro M2 h2
  have c2 := ni_clU (j := 11) (x := (A (f) 11) + 1) c1 hs hk rfl
  clear h1 c1
  exact ws_Rv (v := fun _ => none) rfl rfl h2 c2 rfl
theorem mt_pull0 {f : Nat} (h : A f 11 = 0) (hs : ni_us f = true) (hk : ni_kd f = 0) : ni_Dc xs St 1 57 (fun ad => [.ref (ad f)]) A (fun _ => some (ni_z (-1))) A := by
  have h374 := (ni_usT hs).1
  refine ni_Dw (fun _ => Nat.le_of_ble_eq_true rfl) (fun _ => rfl) ?_
  intro M0 ad rw cp hR
  have h0 : ni_Sx St M0 ad rw cp M0 rw cp A (ni_live A) := ⟨hR, ni_KpR⟩
  have c0 := ni_clR A
  refine wp_Ld rfl rfl rfl ?_
  refine ws_Get (v := ni_z (A (f) 11)) rfl h0 hs hk rfl rfl rfl ?_
  refine wp_If true rfl (zf_eq_t ⟨by omega, by omega⟩ (by omega)) ?_
  refine wp_P (g := ni_gPush (.int (-1)) 19) rfl (wp_push (z := -1) rfl) ?_
  exact ws_R (v := fun _ => some (ni_z (-1))) rfl rfl h0 c0 rfl
theorem mt_pull1 {f : Nat} (h : 0 ≤ A f 11 ∧ A f 11 ≤ 10) (h0 : ¬ A f 11 = 0) (h9 : 0 ≤ A f 9 ∧ A f 9 ≤ 1000000) (h2 : 0 ≤ A f 2 ∧ A f 2 ≤ 1000000) (h92 : A f 9 < A f 2) (hs : ni_us f = true) (hk : ni_kd f = 0) : ni_Dc xs St 1 57 (fun ad => [.ref (ad f)]) A (fun _ => some (ni_z (-1))) A := by
  have h374 := (ni_usT hs).1
  refine ni_Dw (fun _ => Nat.le_of_ble_eq_true rfl) (fun _ => rfl) ?_
  intro M0 ad rw cp hR
  have h0 : ni_Sx St M0 ad rw cp M0 rw cp A (ni_live A) := ⟨hR, ni_KpR⟩
  have c0 := ni_clR A
  refine wp_Ld rfl rfl rfl ?_
  refine ws_Get (v := ni_z (A (f) 11)) rfl h0 hs hk rfl rfl rfl ?_
  refine wp_If false rfl (zf_eq_f ⟨by omega, by omega⟩ (by omega)) ?_
  refine wp_Ld rfl rfl rfl ?_
  refine ws_Get (v := ni_z (A (f) 9)) rfl h0 hs hk rfl rfl rfl ?_
  refine wp_Ld rfl rfl rfl ?_
  refine ws_Get (v := ni_z (A (f) 2)) rfl h0 hs hk rfl rfl rfl ?_
  refine wp_Ic false rfl (zc_ge_f ⟨by omega, by omega⟩ ⟨by omega, by omega⟩ (by omega)) ?_
  refine wp_P (g := ni_gPush (.int (-1)) 19) rfl (wp_push (z := -1) rfl) ?_
  exact ws_R (v := fun _ => some (ni_z (-1))) rfl rfl h0 c0 rfl
theorem mt_pullL {f n : Nat} {x : Int} (hs : ni_us f = true) (hk : ni_kd f = 0) (hn : A f 11 = n) (hn1 : n ≤ 10) : ∀ k i : Nat, i + k = n → 1 ≤ i → ni_Dr xs St 0 57 42 (fun ad => [.ref (ad f), ni_z x, ni_z (i : Int)]) (ni_sf A (f + 1) 0 i) (fun _ => some (ni_z x)) (ni_u2 (ni_sf A (f + 1) 0 n) f 11 (A f 11 - 1)) := by
  have h374 := (ni_usT hs).1
  intro k
  induction k with
  | zero =>
    intro i hi h1
    have hin : i = n := by omega
    subst hin
    have e11 : (ni_sf A (f + 1) 0 i) f 11 = A f 11 := ni_sfN (Or.inl (by omega))
    intro M0 ad rw cp hR
    have h0 : ni_Sx St M0 ad rw cp M0 rw cp (ni_sf A (f + 1) 0 i) (ni_live (ni_sf A (f + 1) 0 i)) := ⟨hR, ni_KpR⟩
    have c0 := ni_clR (ni_sf A (f + 1) 0 i)
    refine wp_Ld rfl rfl rfl ?_
    refine wp_Ld rfl rfl rfl ?_
    refine ws_Get (v := ni_z ((ni_sf A (f + 1) 0 i) (f) 11)) rfl h0 hs hk rfl rfl rfl ?_
    refine wp_Ic true rfl (zc_ge_t ⟨by omega, by omega⟩ ⟨by omega, by omega⟩ (by omega)) ?_
    refine wp_Ld rfl rfl rfl ?_
    refine wp_P (g := ni_gDup 72) rfl rfl ?_
    refine ws_Get (v := ni_z ((ni_sf A (f + 1) 0 i) (f) 11)) rfl h0 hs hk rfl rfl rfl ?_
    refine wp_P (g := ni_gPush (.int (1)) 76) rfl (wp_push (z := 1) rfl) ?_
    refine wp_P rfl wp_sub ?_
    refine ws_Put rfl h0 hs hk rfl rfl (fun _ => rfl) rfl (fun z => absurd z (by decide)) ?_
    intro M1 h1
    have c1 := ni_clU (j := 11) (x := ((ni_sf A (f + 1) 0 i) (f) 11) - 1) c0 hs hk rfl
    clear h0 c0
    refine wp_Ld rfl rfl rfl ?_
    rw [e11] at h1 c1
    exact ws_R (v := fun _ => some (ni_z x)) rfl rfl h1 c1 rfl
  | succ k ih =>
    intro i hi h1
    have e11 : (ni_sf A (f + 1) 0 i) f 11 = A f 11 := ni_sfN (Or.inl (by omega))
    intro M0 ad rw cp hR
    have h0 : ni_Sx St M0 ad rw cp M0 rw cp (ni_sf A (f + 1) 0 i) (ni_live (ni_sf A (f + 1) 0 i)) := ⟨hR, ni_KpR⟩
    have c0 := ni_clR (ni_sf A (f + 1) 0 i)
    refine wp_Ld rfl rfl rfl ?_
    refine wp_Ld rfl rfl rfl ?_
    refine ws_Get (v := ni_z ((ni_sf A (f + 1) 0 i) (f) 11)) rfl h0 hs hk rfl rfl rfl ?_
    refine wp_Ic false rfl (zc_ge_f ⟨by omega, by omega⟩ ⟨by omega, by omega⟩ (by omega)) ?_
    refine wp_Ld rfl rfl rfl ?_
    refine ws_Get (v := .ref (ad (f + 1))) rfl h0 hs hk rfl rfl rfl ?_
    refine wp_Ld rfl rfl rfl ?_
    refine wp_P (g := ni_gPush (.int (1)) 56) rfl (wp_push (z := 1) rfl) ?_
    refine wp_P rfl wp_sub ?_
    refine wp_Ld rfl rfl rfl ?_
    refine ws_Get (v := .ref (ad (f + 1))) rfl h0 hs hk rfl rfl rfl ?_
    refine wp_Ld rfl rfl rfl ?_
    refine ws_Ald (j := i) (v := ni_z ((ni_sf A (f + 1) 0 i) (f + 1) (i))) rfl h0 (ni_o0_1 hs hk).1 (ni_o0_1 hs hk).2.1 (ni_o0_1 hs hk).2.2.1 ⟨by decide, rfl⟩ rfl (by omega) (by decide) (ni_LR h0 (ni_o0_1 hs hk).1 (ni_o0_1 hs hk).2.2.2 (by omega)) rfl rfl ?_
    refine ws_Ast (j := (((i : Int)) - 1).toNat) (x := (ni_sf A (f + 1) 0 i) (f + 1) (i)) rfl h0 (ni_o0_1 hs hk).1 (ni_o0_1 hs hk).2.1 (ni_o0_1 hs hk).2.2.1 ⟨by decide, rfl⟩ (by omega) (by omega) (by decide) (Or.inl rfl) (congrArg ni_z ni_u2e.symm) ⟨rfl, rfl⟩ ?_
    intro M1 h1
    have c1 := ni_clU (j := (((i : Int)) - 1).toNat) (x := (ni_sf A (f + 1) 0 i) (f + 1) (i)) c0 (ni_o0_1 hs hk).1 (ni_o0_1 hs hk).2.1 rfl
    clear h0 c0
    refine wp_Inc (x' := (i : Int) + 1) rfl rfl (zi_inc (z := 1) rfl) rfl ?_
    refine wp_P (g := ni_gGo 42) rfl rfl ?_
    rw [ni_sfS (by omega) (by omega)] at h1 c1
    exact ws_Dg h1 c1 (ih (i + 1) (by omega) (by omega)) rfl
theorem mt_pull {f : Nat} (h : 0 < A f 11 ∧ A f 11 ≤ 10) (h9 : A f 2 ≤ A f 9 ∧ A f 9 ≤ 1000000) (h2 : 0 ≤ A f 2) (hs : ni_us f = true) (hk : ni_kd f = 0) : ni_Dc xs St 1 57 (fun ad => [.ref (ad f)]) A (fun _ => some (ni_z (A (f + 1) 0))) (ni_u2 (ni_sf (ni_u2 A f 9 (A f 9 - A f 2)) (f + 1) 0 (A f 11).toNat) f 11 (A f 11 - 1)) := by
  have h374 := (ni_usT hs).1
  refine ni_Dw (fun _ => Nat.le_of_ble_eq_true rfl) (fun _ => rfl) ?_
  intro M0 ad rw cp hR
  have h0 : ni_Sx St M0 ad rw cp M0 rw cp A (ni_live A) := ⟨hR, ni_KpR⟩
  have c0 := ni_clR A
  refine wp_Ld rfl rfl rfl ?_
  refine ws_Get (v := ni_z (A (f) 11)) rfl h0 hs hk rfl rfl rfl ?_
  refine wp_If false rfl (zf_eq_f ⟨by omega, by omega⟩ (by omega)) ?_
  refine wp_Ld rfl rfl rfl ?_
  refine ws_Get (v := ni_z (A (f) 9)) rfl h0 hs hk rfl rfl rfl ?_
  refine wp_Ld rfl rfl rfl ?_
  refine ws_Get (v := ni_z (A (f) 2)) rfl h0 hs hk rfl rfl rfl ?_
  refine wp_Ic true rfl (zc_ge_t ⟨by omega, by omega⟩ ⟨by omega, by omega⟩ (by omega)) ?_
  refine wp_Ld rfl rfl rfl ?_
  refine wp_P (g := ni_gDup 22) rfl rfl ?_
  refine ws_Get (v := ni_z (A (f) 9)) rfl h0 hs hk rfl rfl rfl ?_
  refine wp_Ld rfl rfl rfl ?_
  refine ws_Get (v := ni_z (A (f) 2)) rfl h0 hs hk rfl rfl rfl ?_
  refine wp_P rfl wp_sub ?_
  refine ws_Put rfl h0 hs hk rfl rfl (fun _ => rfl) rfl (fun z => absurd z (by decide)) ?_
  intro M1 h1
  have c1 := ni_clU (j := 9) (x := (A (f) 9) - (A (f) 2)) c0 hs hk rfl
  clear h0 c0
  refine wp_Ld rfl rfl rfl ?_
  refine ws_Get (v := .ref (ad (f + 1))) rfl h1 hs hk rfl rfl rfl ?_
  refine wp_P (g := ni_gPush (.int (0)) 38) rfl (wp_push (z := 0) rfl) ?_
  refine ws_Ald (j := 0) (v := ni_z (A (f + 1) 0)) rfl h1 (ni_o0_1 hs hk).1 (ni_o0_1 hs hk).2.1 (ni_o0_1 hs hk).2.2.1 ⟨by decide, rfl⟩ rfl (by omega) (by decide) (ni_LR h1 (ni_o0_1 hs hk).1 (ni_o0_1 hs hk).2.2.2 (by omega)) (congrArg ni_z (ni_u2n (Or.inr (by decide)))) rfl ?_
  refine wp_St rfl rfl rfl ?_
  refine wp_P (g := ni_gPush (.int (1)) 41) rfl (wp_push (z := 1) rfl) ?_
  refine wp_St rfl rfl rfl ?_
  have e1 : (ni_u2 A f 9 (A f 9 - A f 2)) f 11 = A f 11 := ni_u2n (Or.inr (by decide))
  have hl := mt_pullL (xs := xs) (St := St) (A := (ni_u2 A f 9 (A f 9 - A f 2))) (f := f) (n := (A f 11).toNat) (x := A (f + 1) 0) hs hk (by rw [e1]; omega) (by omega) ((A f 11).toNat - 1) 1 (by omega) (Nat.le_refl _)
  rw [ni_sf0 (Nat.le_refl _), e1] at hl
  exact ws_Dg h1 c1 hl rfl
theorem mt_due0 {f : Nat} {t : Int} (ht : 0 ≤ t ∧ t ≤ 1000000) (h4 : -1 ≤ A f 4 ∧ A f 4 ≤ 1000000) (h5 : 0 ≤ A f 5 ∧ A f 5 ≤ 1000000) (h6 : 0 ≤ A f 6 ∧ A f 6 ≤ 1000000) (h : A f 4 = -1) (hs : ni_us f = true) (hk : ni_kd f = 0) : ni_Dc xs St 1 54 (fun ad => [.ref (ad f), ni_z t]) A (fun _ => some (ni_z (-1))) A := by
  have h374 := (ni_usT hs).1
  refine ni_Dw (fun _ => Nat.le_of_ble_eq_true rfl) (fun _ => rfl) ?_
  intro M0 ad rw cp hR
  have h0 : ni_Sx St M0 ad rw cp M0 rw cp A (ni_live A) := ⟨hR, ni_KpR⟩
  have c0 := ni_clR A
  refine wp_Ld rfl rfl rfl ?_
  refine ws_Get (v := ni_z (A (f) 4)) rfl h0 hs hk rfl rfl rfl ?_
  refine wp_P (g := ni_gPush (.int (-1)) 5) rfl (wp_push (z := -1) rfl) ?_
  refine wp_Ic true rfl (zc_eq_t ⟨by omega, by omega⟩ ⟨by omega, by omega⟩ (by omega)) ?_
  refine wp_P (g := ni_gPush (.int (-1)) 25) rfl (wp_push (z := -1) rfl) ?_
  exact ws_R (v := fun _ => some (ni_z (-1))) rfl rfl h0 c0 rfl
theorem mt_due1 {f : Nat} {t : Int} (ht : 0 ≤ t ∧ t ≤ 1000000) (h4 : -1 ≤ A f 4 ∧ A f 4 ≤ 1000000) (h5 : 0 ≤ A f 5 ∧ A f 5 ≤ 1000000) (h6 : 0 ≤ A f 6 ∧ A f 6 ≤ 1000000) (h : ¬ A f 4 = -1) (hl : t < A f 4) (hs : ni_us f = true) (hk : ni_kd f = 0) : ni_Dc xs St 1 54 (fun ad => [.ref (ad f), ni_z t]) A (fun _ => some (ni_z (-1))) A := by
  have h374 := (ni_usT hs).1
  refine ni_Dw (fun _ => Nat.le_of_ble_eq_true rfl) (fun _ => rfl) ?_
  intro M0 ad rw cp hR
  have h0 : ni_Sx St M0 ad rw cp M0 rw cp A (ni_live A) := ⟨hR, ni_KpR⟩
  have c0 := ni_clR A
  refine wp_Ld rfl rfl rfl ?_
  refine ws_Get (v := ni_z (A (f) 4)) rfl h0 hs hk rfl rfl rfl ?_
  refine wp_P (g := ni_gPush (.int (-1)) 5) rfl (wp_push (z := -1) rfl) ?_
  refine wp_Ic false rfl (zc_eq_f ⟨by omega, by omega⟩ ⟨by omega, by omega⟩ (by omega)) ?_
  refine wp_Ld rfl rfl rfl ?_
  refine wp_Ld rfl rfl rfl ?_
  refine ws_Get (v := ni_z (A (f) 4)) rfl h0 hs hk rfl rfl rfl ?_
  refine wp_Ic true rfl (zc_lt_t ⟨by omega, by omega⟩ ⟨by omega, by omega⟩ (by omega)) ?_
  refine wp_P (g := ni_gPush (.int (-1)) 25) rfl (wp_push (z := -1) rfl) ?_
  exact ws_R (v := fun _ => some (ni_z (-1))) rfl rfl h0 c0 rfl
theorem mt_due2 {f : Nat} {t : Int} (ht : 0 ≤ t ∧ t ≤ 1000000) (h4 : -1 ≤ A f 4 ∧ A f 4 ≤ 1000000) (h5 : 0 ≤ A f 5 ∧ A f 5 ≤ 1000000) (h6 : 0 ≤ A f 6 ∧ A f 6 ≤ 1000000) (h : ¬ A f 4 = -1) (hl : A f 4 ≤ t) (hp : A f 5 < 1) (hs : ni_us f = true) (hk : ni_kd f = 0) : ni_Dc xs St 1 54 (fun ad => [.ref (ad f), ni_z t]) A (fun _ => some (ni_z (-1))) A := by
  have h374 := (ni_usT hs).1
  refine ni_Dw (fun _ => Nat.le_of_ble_eq_true rfl) (fun _ => rfl) ?_
  intro M0 ad rw cp hR
  have h0 : ni_Sx St M0 ad rw cp M0 rw cp A (ni_live A) := ⟨hR, ni_KpR⟩
  have c0 := ni_clR A
  refine wp_Ld rfl rfl rfl ?_
  refine ws_Get (v := ni_z (A (f) 4)) rfl h0 hs hk rfl rfl rfl ?_
  refine wp_P (g := ni_gPush (.int (-1)) 5) rfl (wp_push (z := -1) rfl) ?_
  refine wp_Ic false rfl (zc_eq_f ⟨by omega, by omega⟩ ⟨by omega, by omega⟩ (by omega)) ?_
  refine wp_Ld rfl rfl rfl ?_
  refine wp_Ld rfl rfl rfl ?_
  refine ws_Get (v := ni_z (A (f) 4)) rfl h0 hs hk rfl rfl rfl ?_
  refine wp_Ic false rfl (zc_lt_f ⟨by omega, by omega⟩ ⟨by omega, by omega⟩ (by omega)) ?_
  refine wp_Ld rfl rfl rfl ?_
  refine ws_Get (v := ni_z (A (f) 5)) rfl h0 hs hk rfl rfl rfl ?_
  refine wp_P (g := ni_gPush (.int (1)) 21) rfl (wp_push (z := 1) rfl) ?_
  refine wp_Ic false rfl (zc_ge_f ⟨by omega, by omega⟩ ⟨by omega, by omega⟩ (by omega)) ?_
  refine wp_P (g := ni_gPush (.int (-1)) 25) rfl (wp_push (z := -1) rfl) ?_
  exact ws_R (v := fun _ => some (ni_z (-1))) rfl rfl h0 c0 rfl
theorem mt_due3 {f : Nat} {t : Int} (ht : 0 ≤ t ∧ t ≤ 1000000) (h4 : -1 ≤ A f 4 ∧ A f 4 ≤ 1000000) (h5 : 0 ≤ A f 5 ∧ A f 5 ≤ 1000000) (h6 : 0 ≤ A f 6 ∧ A f 6 ≤ 1000000) (hl : A f 4 ≤ t) (h : 0 ≤ A f 4) (hp : 1 ≤ A f 5) (hr : ¬ (t - A f 4) % (A f 5) = 0) (hs : ni_us f = true) (hk : ni_kd f = 0) : ni_Dc xs St 1 54 (fun ad => [.ref (ad f), ni_z t]) A (fun _ => some (ni_z (-1))) A := by
  have h374 := (ni_usT hs).1
  refine ni_Dw (fun _ => Nat.le_of_ble_eq_true rfl) (fun _ => rfl) ?_
  intro M0 ad rw cp hR
  have h0 : ni_Sx St M0 ad rw cp M0 rw cp A (ni_live A) := ⟨hR, ni_KpR⟩
  have c0 := ni_clR A
  have hr0 : 0 ≤ (t - A f 4) % (A f 5) := Int.emod_nonneg _ (by omega)
  have hr1 : (t - A f 4) % (A f 5) < A f 5 := Int.emod_lt_of_pos _ (by omega)
  have hq0 : 0 ≤ (t - A f 4) / (A f 5) := Int.ediv_nonneg (by omega) (by omega)
  have hq1 : (t - A f 4) / (A f 5) ≤ t - A f 4 := Int.ediv_le_self _ (by omega)
  refine wp_Ld rfl rfl rfl ?_
  refine ws_Get (v := ni_z (A (f) 4)) rfl h0 hs hk rfl rfl rfl ?_
  refine wp_P (g := ni_gPush (.int (-1)) 5) rfl (wp_push (z := -1) rfl) ?_
  refine wp_Ic false rfl (zc_eq_f ⟨by omega, by omega⟩ ⟨by omega, by omega⟩ (by omega)) ?_
  refine wp_Ld rfl rfl rfl ?_
  refine wp_Ld rfl rfl rfl ?_
  refine ws_Get (v := ni_z (A (f) 4)) rfl h0 hs hk rfl rfl rfl ?_
  refine wp_Ic false rfl (zc_lt_f ⟨by omega, by omega⟩ ⟨by omega, by omega⟩ (by omega)) ?_
  refine wp_Ld rfl rfl rfl ?_
  refine ws_Get (v := ni_z (A (f) 5)) rfl h0 hs hk rfl rfl rfl ?_
  refine wp_P (g := ni_gPush (.int (1)) 21) rfl (wp_push (z := 1) rfl) ?_
  refine wp_Ic true rfl (zc_ge_t ⟨by omega, by omega⟩ ⟨by omega, by omega⟩ (by omega)) ?_
  refine wp_Ld rfl rfl rfl ?_
  refine wp_Ld rfl rfl rfl ?_
  refine ws_Get (v := ni_z (A (f) 4)) rfl h0 hs hk rfl rfl rfl ?_
  refine wp_P rfl wp_sub ?_
  refine wp_St rfl rfl rfl ?_
  refine wp_Ld rfl rfl rfl ?_
  refine wp_Ld rfl rfl rfl ?_
  refine ws_Get (v := ni_z (A (f) 5)) rfl h0 hs hk rfl rfl rfl ?_
  refine wp_P rfl (wp_I0 (c := (t - A (f) 4) % (A (f) 5)) (zi_rem ⟨by omega, by omega⟩ (by omega) (by omega))) ?_
  refine wp_If true rfl (zf_ne_t ⟨by omega, by omega⟩ (by omega)) ?_
  refine wp_P (g := ni_gPush (.int (0)) 60) rfl (wp_push (z := 0) rfl) ?_
  refine wp_St rfl rfl rfl ?_
  refine wp_Ld rfl rfl rfl ?_
  refine wp_If true rfl (zf_eq_t ⟨by omega, by omega⟩ (by omega)) ?_
  refine wp_P (g := ni_gPush (.int (-1)) 75) rfl (wp_push (z := -1) rfl) ?_
  exact ws_R (v := fun _ => some (ni_z (-1))) rfl rfl h0 c0 rfl
theorem mt_due4 {f : Nat} {t : Int} (ht : 0 ≤ t ∧ t ≤ 1000000) (h4 : -1 ≤ A f 4 ∧ A f 4 ≤ 1000000) (h5 : 0 ≤ A f 5 ∧ A f 5 ≤ 1000000) (h6 : 0 ≤ A f 6 ∧ A f 6 ≤ 1000000) (hl : A f 4 ≤ t) (h : 0 ≤ A f 4) (hp : 1 ≤ A f 5) (hr : (t - A f 4) % (A f 5) = 0) (hq : A f 6 ≤ (t - A f 4) / (A f 5)) (hs : ni_us f = true) (hk : ni_kd f = 0) : ni_Dc xs St 1 54 (fun ad => [.ref (ad f), ni_z t]) A (fun _ => some (ni_z (-1))) A := by
  have h374 := (ni_usT hs).1
  refine ni_Dw (fun _ => Nat.le_of_ble_eq_true rfl) (fun _ => rfl) ?_
  intro M0 ad rw cp hR
  have h0 : ni_Sx St M0 ad rw cp M0 rw cp A (ni_live A) := ⟨hR, ni_KpR⟩
  have c0 := ni_clR A
  have hr0 : 0 ≤ (t - A f 4) % (A f 5) := Int.emod_nonneg _ (by omega)
  have hr1 : (t - A f 4) % (A f 5) < A f 5 := Int.emod_lt_of_pos _ (by omega)
  have hq0 : 0 ≤ (t - A f 4) / (A f 5) := Int.ediv_nonneg (by omega) (by omega)
  have hq1 : (t - A f 4) / (A f 5) ≤ t - A f 4 := Int.ediv_le_self _ (by omega)
  refine wp_Ld rfl rfl rfl ?_
  refine ws_Get (v := ni_z (A (f) 4)) rfl h0 hs hk rfl rfl rfl ?_
  refine wp_P (g := ni_gPush (.int (-1)) 5) rfl (wp_push (z := -1) rfl) ?_
  refine wp_Ic false rfl (zc_eq_f ⟨by omega, by omega⟩ ⟨by omega, by omega⟩ (by omega)) ?_
  refine wp_Ld rfl rfl rfl ?_
  refine wp_Ld rfl rfl rfl ?_
  refine ws_Get (v := ni_z (A (f) 4)) rfl h0 hs hk rfl rfl rfl ?_
  refine wp_Ic false rfl (zc_lt_f ⟨by omega, by omega⟩ ⟨by omega, by omega⟩ (by omega)) ?_
  refine wp_Ld rfl rfl rfl ?_
  refine ws_Get (v := ni_z (A (f) 5)) rfl h0 hs hk rfl rfl rfl ?_
  refine wp_P (g := ni_gPush (.int (1)) 21) rfl (wp_push (z := 1) rfl) ?_
  refine wp_Ic true rfl (zc_ge_t ⟨by omega, by omega⟩ ⟨by omega, by omega⟩ (by omega)) ?_
  refine wp_Ld rfl rfl rfl ?_
  refine wp_Ld rfl rfl rfl ?_
  refine ws_Get (v := ni_z (A (f) 4)) rfl h0 hs hk rfl rfl rfl ?_
  refine wp_P rfl wp_sub ?_
  refine wp_St rfl rfl rfl ?_
  refine wp_Ld rfl rfl rfl ?_
  refine wp_Ld rfl rfl rfl ?_
  refine ws_Get (v := ni_z (A (f) 5)) rfl h0 hs hk rfl rfl rfl ?_
  refine wp_P rfl (wp_I0 (c := (t - A (f) 4) % (A (f) 5)) (zi_rem ⟨by omega, by omega⟩ (by omega) (by omega))) ?_
  refine wp_If false rfl (zf_ne_f ⟨by omega, by omega⟩ (by omega)) ?_
  refine wp_Ld rfl rfl rfl ?_
  refine wp_Ld rfl rfl rfl ?_
  refine ws_Get (v := ni_z (A (f) 5)) rfl h0 hs hk rfl rfl rfl ?_
  refine wp_P rfl (wp_I0 (c := (t - A (f) 4) / (A (f) 5)) (zi_div ⟨by omega, by omega⟩ (by omega) (by omega))) ?_
  refine wp_Ld rfl rfl rfl ?_
  refine ws_Get (v := ni_z (A (f) 6)) rfl h0 hs hk rfl rfl rfl ?_
  refine wp_Ic true rfl (zc_ge_t ⟨by omega, by omega⟩ ⟨by omega, by omega⟩ (by omega)) ?_
  refine wp_P (g := ni_gPush (.int (0)) 60) rfl (wp_push (z := 0) rfl) ?_
  refine wp_St rfl rfl rfl ?_
  refine wp_Ld rfl rfl rfl ?_
  refine wp_If true rfl (zf_eq_t ⟨by omega, by omega⟩ (by omega)) ?_
  refine wp_P (g := ni_gPush (.int (-1)) 75) rfl (wp_push (z := -1) rfl) ?_
  exact ws_R (v := fun _ => some (ni_z (-1))) rfl rfl h0 c0 rfl
theorem mt_due5 {f : Nat} {t : Int} (ht : 0 ≤ t ∧ t ≤ 1000000) (h4 : -1 ≤ A f 4 ∧ A f 4 ≤ 1000000) (h5 : 0 ≤ A f 5 ∧ A f 5 ≤ 1000000) (h6 : 0 ≤ A f 6 ∧ A f 6 ≤ 1000000) (hl : A f 4 ≤ t) (h : 0 ≤ A f 4) (hp : 1 ≤ A f 5) (hr : (t - A f 4) % (A f 5) = 0) (hq : (t - A f 4) / (A f 5) < A f 6) (hs : ni_us f = true) (hk : ni_kd f = 0) : ni_Dc xs St 1 54 (fun ad => [.ref (ad f), ni_z t]) A (fun _ => some (ni_z ((t - A f 4) / (A f 5)))) A := by
  have h374 := (ni_usT hs).1
  refine ni_Dw (fun _ => Nat.le_of_ble_eq_true rfl) (fun _ => rfl) ?_
  intro M0 ad rw cp hR
  have h0 : ni_Sx St M0 ad rw cp M0 rw cp A (ni_live A) := ⟨hR, ni_KpR⟩
  have c0 := ni_clR A
  have hr0 : 0 ≤ (t - A f 4) % (A f 5) := Int.emod_nonneg _ (by omega)
  have hr1 : (t - A f 4) % (A f 5) < A f 5 := Int.emod_lt_of_pos _ (by omega)
  have hq0 : 0 ≤ (t - A f 4) / (A f 5) := Int.ediv_nonneg (by omega) (by omega)
  have hq1 : (t - A f 4) / (A f 5) ≤ t - A f 4 := Int.ediv_le_self _ (by omega)
  refine wp_Ld rfl rfl rfl ?_
  refine ws_Get (v := ni_z (A (f) 4)) rfl h0 hs hk rfl rfl rfl ?_
  refine wp_P (g := ni_gPush (.int (-1)) 5) rfl (wp_push (z := -1) rfl) ?_
  refine wp_Ic false rfl (zc_eq_f ⟨by omega, by omega⟩ ⟨by omega, by omega⟩ (by omega)) ?_
  refine wp_Ld rfl rfl rfl ?_
  refine wp_Ld rfl rfl rfl ?_
  refine ws_Get (v := ni_z (A (f) 4)) rfl h0 hs hk rfl rfl rfl ?_
  refine wp_Ic false rfl (zc_lt_f ⟨by omega, by omega⟩ ⟨by omega, by omega⟩ (by omega)) ?_
  refine wp_Ld rfl rfl rfl ?_
  refine ws_Get (v := ni_z (A (f) 5)) rfl h0 hs hk rfl rfl rfl ?_
  refine wp_P (g := ni_gPush (.int (1)) 21) rfl (wp_push (z := 1) rfl) ?_
  refine wp_Ic true rfl (zc_ge_t ⟨by omega, by omega⟩ ⟨by omega, by omega⟩ (by omega)) ?_
  refine wp_Ld rfl rfl rfl ?_
  refine wp_Ld rfl rfl rfl ?_
  refine ws_Get (v := ni_z (A (f) 4)) rfl h0 hs hk rfl rfl rfl ?_
  refine wp_P rfl wp_sub ?_
  refine wp_St rfl rfl rfl ?_
  refine wp_Ld rfl rfl rfl ?_
  refine wp_Ld rfl rfl rfl ?_
  refine ws_Get (v := ni_z (A (f) 5)) rfl h0 hs hk rfl rfl rfl ?_
  refine wp_P rfl (wp_I0 (c := (t - A (f) 4) % (A (f) 5)) (zi_rem ⟨by omega, by omega⟩ (by omega) (by omega))) ?_
  refine wp_If false rfl (zf_ne_f ⟨by omega, by omega⟩ (by omega)) ?_
  refine wp_Ld rfl rfl rfl ?_
  refine wp_Ld rfl rfl rfl ?_
  refine ws_Get (v := ni_z (A (f) 5)) rfl h0 hs hk rfl rfl rfl ?_
  refine wp_P rfl (wp_I0 (c := (t - A (f) 4) / (A (f) 5)) (zi_div ⟨by omega, by omega⟩ (by omega) (by omega))) ?_
  refine wp_Ld rfl rfl rfl ?_
  refine ws_Get (v := ni_z (A (f) 6)) rfl h0 hs hk rfl rfl rfl ?_
  refine wp_Ic false rfl (zc_ge_f ⟨by omega, by omega⟩ ⟨by omega, by omega⟩ (by omega)) ?_
  refine wp_P (g := ni_gPush (.int (1)) 56) rfl (wp_push (z := 1) rfl) ?_
  refine wp_P (g := ni_gGo 60) rfl rfl ?_
  refine wp_St rfl rfl rfl ?_
  refine wp_Ld rfl rfl rfl ?_
  refine wp_If false rfl (zf_eq_f ⟨by omega, by omega⟩ (by omega)) ?_
  refine wp_Ld rfl rfl rfl ?_
  refine wp_Ld rfl rfl rfl ?_
  refine ws_Get (v := ni_z (A (f) 5)) rfl h0 hs hk rfl rfl rfl ?_
  refine wp_P rfl (wp_I0 (c := (t - A (f) 4) / (A (f) 5)) (zi_div ⟨by omega, by omega⟩ (by omega) (by omega))) ?_
  refine wp_P (g := ni_gGo 75) rfl rfl ?_
  exact ws_R (v := fun _ => some (ni_z ((t - A f 4) / (A f 5)))) rfl rfl h0 c0 rfl
theorem mt_deliver0 {f : Nat} {n t : Int} (hn : 0 ≤ n ∧ n ≤ 1000000) (hl : 0 ≤ t - (A f 4 + n * A f 5) ∧ t - (A f 4 + n * A f 5) ≤ 1000000) (h16 : -1 ≤ A f 16 ∧ A f 16 ≤ 1000000) (h17 : -1 ≤ A f 17 ∧ A f 17 ≤ 1000000) (h : A f 17 ≤ n) (hs : ni_us f = true) (hk : ni_kd f = 0) : ni_Dc xs St 1 53 (fun ad => [.ref (ad f), ni_z n, ni_z t]) A (fun _ => none) (ni_u2 (ni_u2 (ni_u2 (ni_u2 (ni_u2 A (f) 13 ((A (f) 13) + 1)) (f) 15 ((A (f) 15) + (t - ((A (f) 4) + (n * (A (f) 5)))))) (f) 16 (max (A (f) 16) (t - ((A (f) 4) + (n * (A (f) 5)))))) (f) 18 ((A (f) 18) + 0)) (f) 17 (max (A (f) 17) (n))) := by
  have h374 := (ni_usT hs).1
  refine ni_Dw (fun _ => Nat.le_of_ble_eq_true rfl) (fun _ => rfl) ?_
  intro M0 ad rw cp hR
  have h0 : ni_Sx St M0 ad rw cp M0 rw cp A (ni_live A) := ⟨hR, ni_KpR⟩
  have c0 := ni_clR A
  refine wp_Ld rfl rfl rfl ?_
  refine wp_Ld rfl rfl rfl ?_
  refine ws_Get (v := ni_z (A (f) 4)) rfl h0 hs hk rfl rfl rfl ?_
  refine wp_Ld rfl rfl rfl ?_
  refine wp_Ld rfl rfl rfl ?_
  refine ws_Get (v := ni_z (A (f) 5)) rfl h0 hs hk rfl rfl rfl ?_
  refine wp_P rfl wp_mul ?_
  refine wp_P rfl wp_add ?_
  refine wp_P rfl wp_sub ?_
  refine wp_St rfl rfl rfl ?_
  refine wp_Ld rfl rfl rfl ?_
  refine wp_P (g := ni_gDup 16) rfl rfl ?_
  refine ws_Get (v := ni_z (A (f) 13)) rfl h0 hs hk rfl rfl rfl ?_
  refine wp_P (g := ni_gPush (.int (1)) 20) rfl (wp_push (z := 1) rfl) ?_
  refine wp_P rfl wp_add ?_
  refine ws_Put rfl h0 hs hk rfl rfl (fun _ => rfl) rfl (fun z => absurd z (by decide)) ?_
  intro M1 h1
  have c1 := ni_clU (j := 13) (x := (A (f) 13) + 1) c0 hs hk rfl
  clear h0 c0
  refine wp_Ld rfl rfl rfl ?_
  refine wp_P (g := ni_gDup 26) rfl rfl ?_
  refine ws_Get (v := ni_z (A (f) 15)) rfl h1 hs hk rfl rfl (congrArg ni_z (ni_u2n (Or.inr (by decide)))) ?_
  refine wp_Ld rfl rfl rfl ?_
  refine wp_P rfl wp_add ?_
  refine ws_Put rfl h1 hs hk rfl rfl (fun _ => rfl) rfl (fun z => absurd z (by decide)) ?_
  intro M2 h2
  have c2 := ni_clU (j := 15) (x := (A (f) 15) + (t - ((A (f) 4) + (n * (A (f) 5))))) c1 hs hk rfl
  clear h1 c1
  refine wp_Ld rfl rfl rfl ?_
  refine wp_Ld rfl rfl rfl ?_
  refine ws_Get (v := ni_z (A (f) 16)) rfl h2 hs hk rfl rfl (congrArg ni_z ((ni_u2n (Or.inr (by decide))).trans (ni_u2n (Or.inr (by decide))))) ?_
  refine wp_Ld rfl rfl rfl ?_
  refine wp_P rfl (wp_IM (c := max (A (f) 16) (t - ((A (f) 4) + (n * (A (f) 5))))) ⟨Nat.le_of_ble_eq_true rfl, zi_max ⟨by omega, by omega⟩ ⟨by omega, by omega⟩⟩) ?_
  refine ws_Put rfl h2 hs hk rfl rfl (fun _ => rfl) rfl (fun z => absurd z (by decide)) ?_
  intro M3 h3
  have c3 := ni_clU (j := 16) (x := max (A (f) 16) (t - ((A (f) 4) + (n * (A (f) 5))))) c2 hs hk rfl
  clear h2 c2
  refine wp_Ld rfl rfl rfl ?_
  refine wp_P (g := ni_gDup 48) rfl rfl ?_
  refine ws_Get (v := ni_z (A (f) 18)) rfl h3 hs hk rfl rfl (congrArg ni_z ((ni_u2n (Or.inr (by decide))).trans ((ni_u2n (Or.inr (by decide))).trans (ni_u2n (Or.inr (by decide)))))) ?_
  refine wp_Ld rfl rfl rfl ?_
  refine wp_Ld rfl rfl rfl ?_
  refine ws_Get (v := ni_z (A (f) 17)) rfl h3 hs hk rfl rfl (congrArg ni_z ((ni_u2n (Or.inr (by decide))).trans ((ni_u2n (Or.inr (by decide))).trans (ni_u2n (Or.inr (by decide)))))) ?_
  refine wp_Ic true rfl (zc_ge_t ⟨by omega, by omega⟩ ⟨by omega, by omega⟩ (by omega)) ?_
  refine wp_P (g := ni_gPush (.int (0)) 64) rfl (wp_push (z := 0) rfl) ?_
  refine wp_P rfl wp_add ?_
  refine ws_Put rfl h3 hs hk rfl rfl (fun _ => rfl) rfl (fun z => absurd z (by decide)) ?_
  intro M4 h4
  have c4 := ni_clU (j := 18) (x := (A (f) 18) + 0) c3 hs hk rfl
  clear h3 c3
  refine wp_Ld rfl rfl rfl ?_
  refine wp_Ld rfl rfl rfl ?_
  refine ws_Get (v := ni_z (A (f) 17)) rfl h4 hs hk rfl rfl (congrArg ni_z ((ni_u2n (Or.inr (by decide))).trans ((ni_u2n (Or.inr (by decide))).trans ((ni_u2n (Or.inr (by decide))).trans (ni_u2n (Or.inr (by decide))))))) ?_
  refine wp_Ld rfl rfl rfl ?_
  refine wp_P rfl (wp_IM (c := max (A (f) 17) (n)) ⟨Nat.le_of_ble_eq_true rfl, zi_max ⟨by omega, by omega⟩ ⟨by omega, by omega⟩⟩) ?_
  refine ws_Put rfl h4 hs hk rfl rfl (fun _ => rfl) rfl (fun z => absurd z (by decide)) ?_
  intro M5 h5
  have c5 := ni_clU (j := 17) (x := max (A (f) 17) (n)) c4 hs hk rfl
  clear h4 c4
  exact ws_Rv (v := fun _ => none) rfl rfl h5 c5 rfl
theorem mt_deliver1 {f : Nat} {n t : Int} (hn : 0 ≤ n ∧ n ≤ 1000000) (hl : 0 ≤ t - (A f 4 + n * A f 5) ∧ t - (A f 4 + n * A f 5) ≤ 1000000) (h16 : -1 ≤ A f 16 ∧ A f 16 ≤ 1000000) (h17 : -1 ≤ A f 17 ∧ A f 17 ≤ 1000000) (h : n < A f 17) (hs : ni_us f = true) (hk : ni_kd f = 0) : ni_Dc xs St 1 53 (fun ad => [.ref (ad f), ni_z n, ni_z t]) A (fun _ => none) (ni_u2 (ni_u2 (ni_u2 (ni_u2 (ni_u2 A (f) 13 ((A (f) 13) + 1)) (f) 15 ((A (f) 15) + (t - ((A (f) 4) + (n * (A (f) 5)))))) (f) 16 (max (A (f) 16) (t - ((A (f) 4) + (n * (A (f) 5)))))) (f) 18 ((A (f) 18) + 1)) (f) 17 (max (A (f) 17) (n))) := by
  have h374 := (ni_usT hs).1
  refine ni_Dw (fun _ => Nat.le_of_ble_eq_true rfl) (fun _ => rfl) ?_
  intro M0 ad rw cp hR
  have h0 : ni_Sx St M0 ad rw cp M0 rw cp A (ni_live A) := ⟨hR, ni_KpR⟩
  have c0 := ni_clR A
  refine wp_Ld rfl rfl rfl ?_
  refine wp_Ld rfl rfl rfl ?_
  refine ws_Get (v := ni_z (A (f) 4)) rfl h0 hs hk rfl rfl rfl ?_
  refine wp_Ld rfl rfl rfl ?_
  refine wp_Ld rfl rfl rfl ?_
  refine ws_Get (v := ni_z (A (f) 5)) rfl h0 hs hk rfl rfl rfl ?_
  refine wp_P rfl wp_mul ?_
  refine wp_P rfl wp_add ?_
  refine wp_P rfl wp_sub ?_
  refine wp_St rfl rfl rfl ?_
  refine wp_Ld rfl rfl rfl ?_
  refine wp_P (g := ni_gDup 16) rfl rfl ?_
  refine ws_Get (v := ni_z (A (f) 13)) rfl h0 hs hk rfl rfl rfl ?_
  refine wp_P (g := ni_gPush (.int (1)) 20) rfl (wp_push (z := 1) rfl) ?_
  refine wp_P rfl wp_add ?_
  refine ws_Put rfl h0 hs hk rfl rfl (fun _ => rfl) rfl (fun z => absurd z (by decide)) ?_
  intro M1 h1
  have c1 := ni_clU (j := 13) (x := (A (f) 13) + 1) c0 hs hk rfl
  clear h0 c0
  refine wp_Ld rfl rfl rfl ?_
  refine wp_P (g := ni_gDup 26) rfl rfl ?_
  refine ws_Get (v := ni_z (A (f) 15)) rfl h1 hs hk rfl rfl (congrArg ni_z (ni_u2n (Or.inr (by decide)))) ?_
  refine wp_Ld rfl rfl rfl ?_
  refine wp_P rfl wp_add ?_
  refine ws_Put rfl h1 hs hk rfl rfl (fun _ => rfl) rfl (fun z => absurd z (by decide)) ?_
  intro M2 h2
  have c2 := ni_clU (j := 15) (x := (A (f) 15) + (t - ((A (f) 4) + (n * (A (f) 5))))) c1 hs hk rfl
  clear h1 c1
  refine wp_Ld rfl rfl rfl ?_
  refine wp_Ld rfl rfl rfl ?_
  refine ws_Get (v := ni_z (A (f) 16)) rfl h2 hs hk rfl rfl (congrArg ni_z ((ni_u2n (Or.inr (by decide))).trans (ni_u2n (Or.inr (by decide))))) ?_
  refine wp_Ld rfl rfl rfl ?_
  refine wp_P rfl (wp_IM (c := max (A (f) 16) (t - ((A (f) 4) + (n * (A (f) 5))))) ⟨Nat.le_of_ble_eq_true rfl, zi_max ⟨by omega, by omega⟩ ⟨by omega, by omega⟩⟩) ?_
  refine ws_Put rfl h2 hs hk rfl rfl (fun _ => rfl) rfl (fun z => absurd z (by decide)) ?_
  intro M3 h3
  have c3 := ni_clU (j := 16) (x := max (A (f) 16) (t - ((A (f) 4) + (n * (A (f) 5))))) c2 hs hk rfl
  clear h2 c2
  refine wp_Ld rfl rfl rfl ?_
  refine wp_P (g := ni_gDup 48) rfl rfl ?_
  refine ws_Get (v := ni_z (A (f) 18)) rfl h3 hs hk rfl rfl (congrArg ni_z ((ni_u2n (Or.inr (by decide))).trans ((ni_u2n (Or.inr (by decide))).trans (ni_u2n (Or.inr (by decide)))))) ?_
  refine wp_Ld rfl rfl rfl ?_
  refine wp_Ld rfl rfl rfl ?_
  refine ws_Get (v := ni_z (A (f) 17)) rfl h3 hs hk rfl rfl (congrArg ni_z ((ni_u2n (Or.inr (by decide))).trans ((ni_u2n (Or.inr (by decide))).trans (ni_u2n (Or.inr (by decide)))))) ?_
  refine wp_Ic false rfl (zc_ge_f ⟨by omega, by omega⟩ ⟨by omega, by omega⟩ (by omega)) ?_
  refine wp_P (g := ni_gPush (.int (1)) 60) rfl (wp_push (z := 1) rfl) ?_
  refine wp_P (g := ni_gGo 64) rfl rfl ?_
  refine wp_P rfl wp_add ?_
  refine ws_Put rfl h3 hs hk rfl rfl (fun _ => rfl) rfl (fun z => absurd z (by decide)) ?_
  intro M4 h4
  have c4 := ni_clU (j := 18) (x := (A (f) 18) + 1) c3 hs hk rfl
  clear h3 c3
  refine wp_Ld rfl rfl rfl ?_
  refine wp_Ld rfl rfl rfl ?_
  refine ws_Get (v := ni_z (A (f) 17)) rfl h4 hs hk rfl rfl (congrArg ni_z ((ni_u2n (Or.inr (by decide))).trans ((ni_u2n (Or.inr (by decide))).trans ((ni_u2n (Or.inr (by decide))).trans (ni_u2n (Or.inr (by decide))))))) ?_
  refine wp_Ld rfl rfl rfl ?_
  refine wp_P rfl (wp_IM (c := max (A (f) 17) (n)) ⟨Nat.le_of_ble_eq_true rfl, zi_max ⟨by omega, by omega⟩ ⟨by omega, by omega⟩⟩) ?_
  refine ws_Put rfl h4 hs hk rfl rfl (fun _ => rfl) rfl (fun z => absurd z (by decide)) ?_
  intro M5 h5
  have c5 := ni_clU (j := 17) (x := max (A (f) 17) (n)) c4 hs hk rfl
  clear h4 c4
  exact ws_Rv (v := fun _ => none) rfl rfl h5 c5 rfl
theorem mt_take0 {l : Nat} {t : Int} (ht : 0 ≤ t ∧ t ≤ 1000000) (h : A (l + 3) (t % 21).toNat = -1) (hs : ni_us l = true) (hk : ni_kd l = 2) : ni_Dc xs St 2 68 (fun ad => [.ref (ad l), ni_z t]) A (fun _ => some (ni_z (A (l + 3) (t % 21).toNat))) A := by
  have h374 := (ni_usT hs).1
  refine ni_Dw (fun _ => Nat.le_of_ble_eq_true rfl) (fun _ => rfl) ?_
  intro M0 ad rw cp hR
  have h0 : ni_Sx St M0 ad rw cp M0 rw cp A (ni_live A) := ⟨hR, ni_KpR⟩
  have c0 := ni_clR A
  have hm0 : 0 ≤ t % 21 := Int.emod_nonneg _ (by omega)
  have hm1 : t % 21 < 21 := Int.emod_lt_of_pos _ (by omega)
  refine wp_Ld rfl rfl rfl ?_
  refine wp_P (g := ni_gPush (.int (21)) 3) rfl (wp_push (z := 21) rfl) ?_
  refine ws_P rfl (Nat.le_of_ble_eq_true rfl) rfl rfl (Nat.le_of_ble_eq_true rfl) (mt_fm (by omega) (by omega)) ?_
  refine wp_St rfl rfl rfl ?_
  refine wp_Ld rfl rfl rfl ?_
  refine ws_Get (v := .ref (ad (l + 3))) rfl h0 hs hk rfl rfl rfl ?_
  refine wp_Ld rfl rfl rfl ?_
  refine ws_Ald (j := (t % 21).toNat) (v := ni_z (A (l + 3) ((t % 21).toNat))) rfl h0 (ni_o2_3 hs hk).1 (ni_o2_3 hs hk).2.1 (ni_o2_3 hs hk).2.2.1 ⟨by decide, rfl⟩ (by omega) (by omega) (by decide) (ni_LR h0 (ni_o2_3 hs hk).1 (ni_o2_3 hs hk).2.2.2 (by omega)) rfl rfl ?_
  refine wp_St rfl rfl rfl ?_
  refine wp_Ld rfl rfl rfl ?_
  refine wp_P (g := ni_gPush (.int (-1)) 16) rfl (wp_push (z := -1) rfl) ?_
  refine wp_Ic true rfl (zc_eq_t ⟨by omega, by omega⟩ ⟨by omega, by omega⟩ (by omega)) ?_
  refine wp_Ld rfl rfl rfl ?_
  exact ws_R (v := fun _ => some (ni_z (A (l + 3) (t % 21).toNat))) rfl rfl h0 c0 rfl
theorem mt_take1 {l : Nat} {t : Int} (ht : 0 ≤ t ∧ t ≤ 1000000) (h : ¬ A (l + 3) (t % 21).toNat = -1) (hr : ni_R32 (A (l + 3) (t % 21).toNat)) (hs : ni_us l = true) (hk : ni_kd l = 2) : ni_Dc xs St 2 68 (fun ad => [.ref (ad l), ni_z t]) A (fun _ => some (ni_z (A (l + 3) (t % 21).toNat))) (ni_u2 (ni_u2 A (l + 3) ((t % 21).toNat) ((-1))) (l) 4 ((A (l) 4) - 1)) := by
  have h374 := (ni_usT hs).1
  refine ni_Dw (fun _ => Nat.le_of_ble_eq_true rfl) (fun _ => rfl) ?_
  intro M0 ad rw cp hR
  have h0 : ni_Sx St M0 ad rw cp M0 rw cp A (ni_live A) := ⟨hR, ni_KpR⟩
  have c0 := ni_clR A
  have hm0 : 0 ≤ t % 21 := Int.emod_nonneg _ (by omega)
  have hm1 : t % 21 < 21 := Int.emod_lt_of_pos _ (by omega)
  refine wp_Ld rfl rfl rfl ?_
  refine wp_P (g := ni_gPush (.int (21)) 3) rfl (wp_push (z := 21) rfl) ?_
  refine ws_P rfl (Nat.le_of_ble_eq_true rfl) rfl rfl (Nat.le_of_ble_eq_true rfl) (mt_fm (by omega) (by omega)) ?_
  refine wp_St rfl rfl rfl ?_
  refine wp_Ld rfl rfl rfl ?_
  refine ws_Get (v := .ref (ad (l + 3))) rfl h0 hs hk rfl rfl rfl ?_
  refine wp_Ld rfl rfl rfl ?_
  refine ws_Ald (j := (t % 21).toNat) (v := ni_z (A (l + 3) ((t % 21).toNat))) rfl h0 (ni_o2_3 hs hk).1 (ni_o2_3 hs hk).2.1 (ni_o2_3 hs hk).2.2.1 ⟨by decide, rfl⟩ (by omega) (by omega) (by decide) (ni_LR h0 (ni_o2_3 hs hk).1 (ni_o2_3 hs hk).2.2.2 (by omega)) rfl rfl ?_
  refine wp_St rfl rfl rfl ?_
  refine wp_Ld rfl rfl rfl ?_
  refine wp_P (g := ni_gPush (.int (-1)) 16) rfl (wp_push (z := -1) rfl) ?_
  refine wp_Ic false rfl (zc_eq_f ⟨by omega, by omega⟩ ⟨by omega, by omega⟩ (by omega)) ?_
  refine wp_Ld rfl rfl rfl ?_
  refine ws_Get (v := .ref (ad (l + 3))) rfl h0 hs hk rfl rfl rfl ?_
  refine wp_Ld rfl rfl rfl ?_
  refine wp_P (g := ni_gPush (.int (-1)) 25) rfl (wp_push (z := -1) rfl) ?_
  refine ws_Ast (j := (t % 21).toNat) (x := (-1)) rfl h0 (ni_o2_3 hs hk).1 (ni_o2_3 hs hk).2.1 (ni_o2_3 hs hk).2.2.1 ⟨by decide, rfl⟩ (by omega) (by omega) (by decide) (Or.inl rfl) (congrArg ni_z ni_u2e.symm) ⟨rfl, rfl⟩ ?_
  intro M1 h1
  have c1 := ni_clU (j := (t % 21).toNat) (x := (-1)) c0 (ni_o2_3 hs hk).1 (ni_o2_3 hs hk).2.1 rfl
  clear h0 c0
  refine wp_Ld rfl rfl rfl ?_
  refine wp_P (g := ni_gDup 28) rfl rfl ?_
  refine ws_Get (v := ni_z (A (l) 4)) rfl h1 hs hk rfl rfl (congrArg ni_z (ni_u2n (Or.inl (by omega)))) ?_
  refine wp_P (g := ni_gPush (.int (1)) 32) rfl (wp_push (z := 1) rfl) ?_
  refine wp_P rfl wp_sub ?_
  refine ws_Put rfl h1 hs hk rfl rfl (fun _ => rfl) rfl (fun _ z => absurd z (by decide)) ?_
  intro M2 h2
  have c2 := ni_clU (j := 4) (x := (A (l) 4) - 1) c1 hs hk rfl
  clear h1 c1
  refine wp_Ld rfl rfl rfl ?_
  exact ws_R (v := fun _ => some (ni_z (A (l + 3) (t % 21).toNat))) rfl rfl h2 c2 rfl
theorem mt_putP {l : Nat} {x : Int} {t : Int} (ht : 0 ≤ t ∧ t ≤ 1000000) (hs : ni_us l = true) (hk : ni_kd l = 2) : ni_Dc xs St 2 66 (fun ad => [.ref (ad l), ni_z x, ni_z t]) A (fun _ => none) (ni_u2 (ni_u2 A (l + 3) ((t % 21).toNat) (x)) (l) 4 ((A (l) 4) + 1)) := by
  have h374 := (ni_usT hs).1
  refine ni_Dw (fun _ => Nat.le_of_ble_eq_true rfl) (fun _ => rfl) ?_
  intro M0 ad rw cp hR
  have h0 : ni_Sx St M0 ad rw cp M0 rw cp A (ni_live A) := ⟨hR, ni_KpR⟩
  have c0 := ni_clR A
  have hm0 : 0 ≤ t % 21 := Int.emod_nonneg _ (by omega)
  have hm1 : t % 21 < 21 := Int.emod_lt_of_pos _ (by omega)
  refine wp_Ld rfl rfl rfl ?_
  refine ws_Get (v := .ref (ad (l + 3))) rfl h0 hs hk rfl rfl rfl ?_
  refine wp_Ld rfl rfl rfl ?_
  refine wp_P (g := ni_gPush (.int (21)) 7) rfl (wp_push (z := 21) rfl) ?_
  refine ws_P rfl (Nat.le_of_ble_eq_true rfl) rfl rfl (Nat.le_of_ble_eq_true rfl) (mt_fm (by omega) (by omega)) ?_
  refine wp_Ld rfl rfl rfl ?_
  refine ws_Ast (j := (t % 21).toNat) (x := x) rfl h0 (ni_o2_3 hs hk).1 (ni_o2_3 hs hk).2.1 (ni_o2_3 hs hk).2.2.1 ⟨by decide, rfl⟩ (by omega) (by omega) (by decide) (Or.inl rfl) (congrArg ni_z ni_u2e.symm) ⟨rfl, rfl⟩ ?_
  intro M1 h1
  have c1 := ni_clU (j := (t % 21).toNat) (x := x) c0 (ni_o2_3 hs hk).1 (ni_o2_3 hs hk).2.1 rfl
  clear h0 c0
  refine wp_Ld rfl rfl rfl ?_
  refine wp_P (g := ni_gDup 14) rfl rfl ?_
  refine ws_Get (v := ni_z (A (l) 4)) rfl h1 hs hk rfl rfl (congrArg ni_z (ni_u2n (Or.inl (by omega)))) ?_
  refine wp_P (g := ni_gPush (.int (1)) 18) rfl (wp_push (z := 1) rfl) ?_
  refine wp_P rfl wp_add ?_
  refine ws_Put rfl h1 hs hk rfl rfl (fun _ => rfl) rfl (fun _ z => absurd z (by decide)) ?_
  intro M2 h2
  have c2 := ni_clU (j := 4) (x := (A (l) 4) + 1) c1 hs hk rfl
  clear h1 c1
  exact ws_Rv (v := fun _ => none) rfl rfl h2 c2 rfl
end MFL
