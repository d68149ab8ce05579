/-! TURNS AND LOSSES OF A PORT -/
section MPT
variable {xs : List Int32} {St : Nat → Option ni_C} {A : Nat → Nat → Int}
/-- the first n of a row are 0 -/
def ni_zr (A : Nat → Nat → Int) (r n : Nat) : Nat → Nat → Int := fun s j => if s = r ∧ j < n then 0 else A s j
theorem ni_zr0 {r : Nat} : ni_zr A r 0 = A := by
  funext s j
  unfold ni_zr
  rw [if_neg (by omega)]
theorem ni_zrN {r n s j : Nat} (h : s ≠ r ∨ n ≤ j) : ni_zr A r n s j = A s j := by
  unfold ni_zr
  rw [if_neg (by omega)]
theorem ni_zrS {r i J : Nat} (hJ : J = i) : ni_u2 (ni_zr A r i) r J 0 = ni_zr A r (i + 1) := by
  subst hJ
  funext s j
  unfold ni_u2 ni_zr
  by_cases e : s = r ∧ j = J
  · rw [if_pos e, if_pos ⟨e.1, by omega⟩]
  · rw [if_neg e]
    by_cases g : s = r ∧ j < J
    · rw [if_pos g, if_pos ⟨g.1, by omega⟩]
    · rw [if_neg g, if_neg ?_]
      rintro ⟨g1, g2⟩
      have : ¬ j = J := fun z => e ⟨g1, z⟩
      exact g ⟨g1, by omega⟩
/-- the turns of a port begin anew -/
def ni_cleared (A : Nat → Nat → Int) (p : Nat) : Nat → Nat → Int := ni_u2 (ni_u2 (ni_zr A (p + 6) 4) p 7 0) p 8 0
theorem mt_clearL {p : Nat} (hs : ni_us p = true) (hk : ni_kd p = 5) : ∀ k i : Nat, i + k = 4 → ni_Dr xs St 0 107 2 (fun ad => [.ref (ad p), ni_z (i : Int)]) (ni_zr A (p + 6) i) (fun _ => none) (ni_cleared A p) := by
  have h374 := (ni_usT hs).1
  intro k
  induction k with
  | zero =>
    intro i hi
    have hin : i = 4 := by omega
    subst hin
    unfold ni_cleared
    intro M0 ad rw cp hR
    have h0 : ni_Sx St M0 ad rw cp M0 rw cp (ni_zr A (p + 6) 4) (ni_live (ni_zr A (p + 6) 4)) := ⟨hR, ni_KpR⟩
    have c0 := ni_clR (ni_zr A (p + 6) 4)
    refine wp_Ld rfl rfl rfl ?_
    refine wp_P (g := ni_gPush (.int (4)) 4) rfl (wp_push (z := 4) rfl) ?_
    refine wp_Ic true rfl (zc_ge_t ⟨by omega, by omega⟩ ⟨by omega, by omega⟩ (by omega)) ?_
    refine wp_Ld rfl rfl rfl ?_
    refine wp_P (g := ni_gPush (.int (0)) 22) rfl (wp_push (z := 0) rfl) ?_
    refine ws_Put rfl h0 hs hk rfl rfl (fun _ => rfl) rfl (fun z => absurd z (by decide)) ?_
    intro M1 h1
    have c1 := ni_clU (j := 7) (x := 0) c0 hs hk rfl
    clear h0 c0
    refine wp_Ld rfl rfl rfl ?_
    refine wp_P (g := ni_gPush (.int (0)) 27) rfl (wp_push (z := 0) rfl) ?_
    refine ws_Put rfl h1 hs hk rfl rfl (fun _ => rfl) rfl (fun z => absurd z (by decide)) ?_
    intro M2 h2
    have c2 := ni_clU (j := 8) (x := 0) c1 hs hk rfl
    clear h1 c1
    exact ws_Rv (v := fun _ => none) rfl rfl h2 c2 rfl
  | succ k ih =>
    intro i hi
    intro M0 ad rw cp hR
    have h0 : ni_Sx St M0 ad rw cp M0 rw cp (ni_zr A (p + 6) i) (ni_live (ni_zr A (p + 6) i)) := ⟨hR, ni_KpR⟩
    have c0 := ni_clR (ni_zr A (p + 6) i)
    refine wp_Ld rfl rfl rfl ?_
    refine wp_P (g := ni_gPush (.int (4)) 4) rfl (wp_push (z := 4) rfl) ?_
    refine wp_Ic false rfl (zc_ge_f ⟨by omega, by omega⟩ ⟨by omega, by omega⟩ (by omega)) ?_
    refine wp_Ld rfl rfl rfl ?_
    refine ws_Get (v := .ref (ad (p + 6))) rfl h0 hs hk rfl rfl rfl ?_
    refine wp_Ld rfl rfl rfl ?_
    refine wp_P (g := ni_gPush (.int (0)) 13) rfl (wp_push (z := 0) rfl) ?_
    refine ws_Ast (j := i) (x := 0) rfl h0 (ni_o5_6 hs hk).1 (ni_o5_6 hs hk).2.1 (ni_o5_6 hs hk).2.2.1 ⟨by decide, rfl⟩ rfl (by omega) (by decide) (Or.inl rfl) (congrArg ni_z ni_u2e.symm) ⟨rfl, rfl⟩ ?_
    intro M1 h1
    have c1 := ni_clU (j := i) (x := 0) c0 (ni_o5_6 hs hk).1 (ni_o5_6 hs hk).2.1 rfl
    clear h0 c0
    refine wp_Inc (x' := (i : Int) + 1) rfl rfl (zi_inc (z := 1) rfl) rfl ?_
    refine wp_P (g := ni_gGo 2) rfl rfl ?_
    rw [ni_zrS (by omega)] at h1 c1
    exact ws_Dg h1 c1 (ih (i + 1) (by omega)) rfl
theorem mt_clear {p : Nat}  (hs : ni_us p = true) (hk : ni_kd p = 5) : ni_Dc xs St 1 107 (fun ad => [.ref (ad p)]) A (fun _ => none) (ni_cleared A p) := by
  have h374 := (ni_usT hs).1
  refine ni_Dw (fun _ => Nat.le_of_ble_eq_true rfl) (fun _ => rfl) ?_
  intro M0 ad rw cp hR
  have h0 : ni_Sx St M0 ad rw cp M0 rw cp A (ni_live A) := ⟨hR, ni_KpR⟩
  have c0 := ni_clR A
  refine wp_P (g := ni_gPush (.int (0)) 1) rfl (wp_push (z := 0) rfl) ?_
  refine wp_St rfl rfl rfl ?_
  have g := mt_clearL (xs := xs) (St := St) (A := A) hs hk 4 0 (by omega)
  rw [ni_zr0] at g
  exact ws_Dg h0 c0 g rfl
theorem mt_config {p : Nat} {a b c : Int} (hc : c = 0 ∨ c = 1) (hs : ni_us p = true) (hk : ni_kd p = 5) : ni_Dc xs St 2 108 (fun ad => [.ref (ad p), ni_z a, ni_z b, ni_z c]) A (fun _ => none) (ni_cleared (ni_u2 (ni_u2 (ni_u2 (ni_u2 A p 1 a) p 2 b) p 3 c) p 4 0) p) := by
  have h374 := (ni_usT hs).1
  refine ni_Dw (fun _ => Nat.le_of_ble_eq_true rfl) (fun _ => rfl) ?_
  intro M0 ad rw cp hR
  have h0 : ni_Sx St M0 ad rw cp M0 rw cp A (ni_live A) := ⟨hR, ni_KpR⟩
  have c0 := ni_clR A
  refine wp_Ld rfl rfl rfl ?_
  refine wp_Ld rfl rfl rfl ?_
  refine ws_Put rfl h0 hs hk rfl rfl (fun _ => rfl) rfl (fun z => absurd z (by decide)) ?_
  intro M1 h1
  have c1 := ni_clU (j := 1) (x := a) c0 hs hk rfl
  clear h0 c0
  refine wp_Ld rfl rfl rfl ?_
  refine wp_Ld rfl rfl rfl ?_
  refine ws_Put rfl h1 hs hk rfl rfl (fun _ => rfl) rfl (fun z => absurd z (by decide)) ?_
  intro M2 h2
  have c2 := ni_clU (j := 2) (x := b) c1 hs hk rfl
  clear h1 c1
  refine wp_Ld rfl rfl rfl ?_
  refine wp_Ld rfl rfl rfl ?_
  refine ws_Put rfl h2 hs hk rfl rfl (fun _ => rfl) (ni_fitB (by omega)) (fun z => absurd z (by decide)) ?_
  intro M3 h3
  have c3 := ni_clU (j := 3) (x := c) c2 hs hk rfl
  clear h2 c2
  refine wp_Ld rfl rfl rfl ?_
  refine wp_P (g := ni_gPush (.int (0)) 17) rfl (wp_push (z := 0) rfl) ?_
  refine ws_Put rfl h3 hs hk rfl rfl (fun _ => rfl) rfl (fun z => absurd z (by decide)) ?_
  intro M4 h4
  have c4 := ni_clU (j := 4) (x := 0) c3 hs hk rfl
  clear h3 c3
  refine wp_Ld rfl rfl rfl ?_
  refine ws_V rfl rfl rfl h4 c4 hs hk rfl (Nat.le_of_ble_eq_true rfl) (mt_clear hs hk) rfl ?_
  intro M5 rw5 cp5 h5
  have c5 := ni_clR ((ni_cleared (ni_u2 (ni_u2 (ni_u2 (ni_u2 A p 1 a) p 2 b) p 3 c) p 4 0) p))
  clear h4 c4
  exact ws_Rv (v := fun _ => none) rfl rfl h5 c5 rfl
theorem ni_flS : ∀ F : Nat, F < 12 → ni_us (12 + 3 * F) = true ∧ ni_kd (12 + 3 * F) = 0 := by decide +kernel
/-- a packet is lost with its link -/
def ni_l1 (A : Nat → Nat → Int) (x : Int) : Nat → Nat → Int := if x = -1 then A else ni_u2 A (12 + 3 * (x % 16).toNat + 2) 6 (A (12 + 3 * (x % 16).toNat + 2) 6 + 1)
theorem mt_lose1N {x : Int} (h : x = -1) : ni_Dc xs St 2 113 (fun ad => [.ref (ad 3), ni_z x]) A (fun _ => none) A := by
  refine ni_Dw (fun _ => Nat.le_of_ble_eq_true rfl) (fun _ => rfl) ?_
  intro M0 ad rw cp hR
  have h0 : ni_Sx St M0 ad rw cp M0 rw cp A (ni_live A) := ⟨hR, ni_KpR⟩
  have c0 := ni_clR A
  refine wp_Ld rfl rfl rfl ?_
  refine wp_P (g := ni_gPush (.int (-1)) 2) rfl (wp_push (z := -1) rfl) ?_
  refine wp_Ic true rfl (zc_eq_t ⟨by omega, by omega⟩ ⟨by omega, by omega⟩ (by omega)) ?_
  exact ws_Rv (v := fun _ => none) rfl rfl h0 c0 rfl
theorem mt_lose1F {x : Int} {F : Nat} (hx : 0 ≤ x ∧ x ≤ 2147483647) (hF : x % 16 = F) (hF2 : F < 12) : ni_Dc xs St 2 113 (fun ad => [.ref (ad 3), ni_z x]) A (fun _ => none) (ni_u2 A (12 + 3 * F + 2) 6 ((A (12 + 3 * F + 2) 6) + 1)) := by
  refine ni_Dw (fun _ => Nat.le_of_ble_eq_true rfl) (fun _ => rfl) ?_
  intro M0 ad rw cp hR
  have h0 : ni_Sx St M0 ad rw cp M0 rw cp A (ni_live A) := ⟨hR, ni_KpR⟩
  have c0 := ni_clR A
  refine wp_Ld rfl rfl rfl ?_
  refine wp_P (g := ni_gPush (.int (-1)) 2) rfl (wp_push (z := -1) rfl) ?_
  refine wp_Ic false rfl (zc_eq_f ⟨by omega, by omega⟩ ⟨by omega, by omega⟩ (by omega)) ?_
  refine wp_Ld rfl rfl rfl ?_
  refine wp_Ld rfl rfl rfl ?_
  refine ws_P rfl (Nat.le_of_ble_eq_true rfl) rfl rfl (Nat.le_of_ble_eq_true rfl) (mt_flowOf hx) ?_
  refine ws_Qld (j := F) (v := .ref (ad (12 + 3 * F))) rfl h0 (show ni_us 3 = true by decide +kernel) (show ni_kd 3 = 103 by decide +kernel) (show ni_ln 3 = 12 by decide +kernel) ⟨by decide, rfl⟩ hF (by omega) (by decide) (ni_LR h0 (show ni_us 3 = true by decide +kernel) (by decide +kernel) (by omega)) rfl rfl ?_
  refine ws_Get (v := .ref (ad (12 + 3 * F + 2))) rfl h0 (ni_flS F hF2).1 (ni_flS F hF2).2 rfl rfl rfl ?_
  refine wp_P (g := ni_gPush (.int (6)) 16) rfl (wp_push (z := 6) rfl) ?_
  refine wp_P (g := ni_gDup2 17) rfl rfl ?_
  refine ws_Ald (j := 6) (v := ni_z (A (12 + 3 * F + 2) 6)) rfl h0 (ni_o0_2 (ni_flS F hF2).1 (ni_flS F hF2).2).1 (ni_o0_2 (ni_flS F hF2).1 (ni_flS F hF2).2).2.1 (ni_o0_2 (ni_flS F hF2).1 (ni_flS F hF2).2).2.2.1 ⟨by decide, rfl⟩ rfl (by omega) (by decide) (ni_LR h0 (ni_o0_2 (ni_flS F hF2).1 (ni_flS F hF2).2).1 (ni_o0_2 (ni_flS F hF2).1 (ni_flS F hF2).2).2.2.2 (by omega)) rfl rfl ?_
  refine wp_P (g := ni_gPush (.int (1)) 19) rfl (wp_push (z := 1) rfl) ?_
  refine wp_P rfl wp_add ?_
  refine ws_Ast (j := 6) (x := (A (12 + 3 * F + 2) 6) + 1) rfl h0 (ni_o0_2 (ni_flS F hF2).1 (ni_flS F hF2).2).1 (ni_o0_2 (ni_flS F hF2).1 (ni_flS F hF2).2).2.1 (ni_o0_2 (ni_flS F hF2).1 (ni_flS F hF2).2).2.2.1 ⟨by decide, rfl⟩ rfl (by omega) (by decide) (Or.inl rfl) (congrArg ni_z ni_u2e.symm) ⟨rfl, rfl⟩ ?_
  intro M1 h1
  have c1 := ni_clU (j := 6) (x := (A (12 + 3 * F + 2) 6) + 1) c0 (ni_o0_2 (ni_flS F hF2).1 (ni_flS F hF2).2).1 (ni_o0_2 (ni_flS F hF2).1 (ni_flS F hF2).2).2.1 rfl
  clear h0 c0
  exact ws_Rv (v := fun _ => none) rfl rfl h1 c1 rfl
theorem mt_lose1 {x : Int} (h : x = -1 ∨ (0 ≤ x ∧ x ≤ 2147483647 ∧ x % 16 < 12)) : ni_Dc xs St 2 113 (fun ad => [.ref (ad 3), ni_z x]) A (fun _ => none) (ni_l1 A x) := by
  unfold ni_l1
  rcases h with h | h
  · rw [if_pos h]
    exact mt_lose1N h
  · rw [if_neg (by omega)]
    have h0 : 0 ≤ x % 16 := Int.emod_nonneg _ (by omega)
    exact mt_lose1F ⟨h.1, h.2.1⟩ (by omega) (by omega)
end MPT
