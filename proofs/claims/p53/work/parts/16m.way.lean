/-! LETTERS ON THEIR WAY -/
section MWY
variable {xs : List Int32} {St : Nat → Option ni_C} {A : Nat → Nat → Int}
/-- how many letters are on their way along the first n links -/
def ni_lw (A : Nat → Nat → Int) : Nat → Int
  | 0 => 0
  | n + 1 => ni_lw A n + (A (48 + 17 * n + 1 + 1) 2 + A (48 + 17 * n + 9 + 1) 2)
theorem mt_wayL {n : Nat} (hn : A 0 2 = n) (hn1 : n ≤ 14) : ∀ k i : Nat, i + k = n → ni_Dr xs St 0 81 4 (fun ad => [.ref (ad 0), ni_z (ni_lw A i), ni_z (i : Int)]) A (fun _ => some (ni_z (ni_lw A n))) A := by
  intro k
  induction k with
  | zero =>
    intro i hi
    have hin : i = n := by omega
    subst hin
    intro M0 ad rw cp hR
    have h0 : ni_Sx St M0 ad rw cp M0 rw cp A (ni_live A) := ⟨hR, ni_KpR⟩
    have c0 := ni_clR A
    refine wp_Ld rfl rfl rfl ?_
    refine wp_Ld rfl rfl rfl ?_
    refine ws_Get (v := ni_z (A (0) 2)) rfl h0 (show ni_us 0 = true by decide +kernel) (show ni_kd 0 = 4 by decide +kernel) rfl rfl rfl ?_
    refine wp_Ic true rfl (zc_ge_t ⟨by omega, by omega⟩ ⟨by omega, by omega⟩ (by omega)) ?_
    refine wp_Ld rfl rfl rfl ?_
    exact ws_R (v := fun _ => some (ni_z (ni_lw A i))) rfl rfl h0 c0 rfl
  | succ k ih =>
    intro i hi
    have hi14 : i < 14 := by omega
    intro M0 ad rw cp hR
    have h0 : ni_Sx St M0 ad rw cp M0 rw cp A (ni_live A) := ⟨hR, ni_KpR⟩
    have c0 := ni_clR A
    refine wp_Ld rfl rfl rfl ?_
    refine wp_Ld rfl rfl rfl ?_
    refine ws_Get (v := ni_z (A (0) 2)) rfl h0 (show ni_us 0 = true by decide +kernel) (show ni_kd 0 = 4 by decide +kernel) rfl rfl rfl ?_
    refine wp_Ic false rfl (zc_ge_f ⟨by omega, by omega⟩ ⟨by omega, by omega⟩ (by omega)) ?_
    refine wp_Ld rfl rfl rfl ?_
    refine wp_Ld rfl rfl rfl ?_
    refine ws_Get (v := .ref (ad 2)) rfl h0 (show ni_us 0 = true by decide +kernel) (show ni_kd 0 = 4 by decide +kernel) rfl rfl rfl ?_
    refine wp_Ld rfl rfl rfl ?_
    refine ws_Qld (j := i) (v := .ref (ad (48 + 17 * i))) rfl h0 (show ni_us 2 = true by decide +kernel) (show ni_kd 2 = 102 by decide +kernel) (show ni_ln 2 = 14 by decide +kernel) ⟨by decide, rfl⟩ rfl (by omega) (by decide) (ni_LR h0 (show ni_us 2 = true by decide +kernel) (by decide +kernel) (by omega)) rfl rfl ?_
    refine ws_Get (v := .ref (ad (48 + 17 * i + 1))) rfl h0 (ni_liS i hi14).1 (ni_liS i hi14).2 rfl rfl rfl ?_
    refine ws_Get (v := .ref (ad (48 + 17 * i + 1 + 1))) rfl h0 (ni_o3_1 (ni_liS i hi14).1 (ni_liS i hi14).2).1 (ni_o3_1 (ni_liS i hi14).1 (ni_liS i hi14).2).2.1 rfl rfl rfl ?_
    refine ws_Get (v := ni_z (A (48 + 17 * i + 1 + 1) 2)) rfl h0 (ni_o5_1 (ni_o3_1 (ni_liS i hi14).1 (ni_liS i hi14).2).1 (ni_o3_1 (ni_liS i hi14).1 (ni_liS i hi14).2).2.1).1 (ni_o5_1 (ni_o3_1 (ni_liS i hi14).1 (ni_liS i hi14).2).1 (ni_o3_1 (ni_liS i hi14).1 (ni_liS i hi14).2).2.1).2.1 rfl rfl rfl ?_
    refine wp_Ld rfl rfl rfl ?_
    refine ws_Get (v := .ref (ad 2)) rfl h0 (show ni_us 0 = true by decide +kernel) (show ni_kd 0 = 4 by decide +kernel) rfl rfl rfl ?_
    refine wp_Ld rfl rfl rfl ?_
    refine ws_Qld (j := i) (v := .ref (ad (48 + 17 * i))) rfl h0 (show ni_us 2 = true by decide +kernel) (show ni_kd 2 = 102 by decide +kernel) (show ni_ln 2 = 14 by decide +kernel) ⟨by decide, rfl⟩ rfl (by omega) (by decide) (ni_LR h0 (show ni_us 2 = true by decide +kernel) (by decide +kernel) (by omega)) rfl rfl ?_
    refine ws_Get (v := .ref (ad (48 + 17 * i + 9))) rfl h0 (ni_liS i hi14).1 (ni_liS i hi14).2 rfl rfl rfl ?_
    refine ws_Get (v := .ref (ad (48 + 17 * i + 9 + 1))) rfl h0 (ni_o3_9 (ni_liS i hi14).1 (ni_liS i hi14).2).1 (ni_o3_9 (ni_liS i hi14).1 (ni_liS i hi14).2).2.1 rfl rfl rfl ?_
    refine ws_Get (v := ni_z (A (48 + 17 * i + 9 + 1) 2)) rfl h0 (ni_o5_1 (ni_o3_9 (ni_liS i hi14).1 (ni_liS i hi14).2).1 (ni_o3_9 (ni_liS i hi14).1 (ni_liS i hi14).2).2.1).1 (ni_o5_1 (ni_o3_9 (ni_liS i hi14).1 (ni_liS i hi14).2).1 (ni_o3_9 (ni_liS i hi14).1 (ni_liS i hi14).2).2.1).2.1 rfl rfl rfl ?_
    refine wp_P rfl wp_add ?_
    refine wp_P rfl wp_add ?_
    refine wp_St (ls' := [.ref (ad (0)), ni_z (((ni_lw A i)) + ((A (48 + 17 * i + 1 + 1) 2) + (A (48 + 17 * i + 9 + 1) 2))), ni_z ((i : Int))]) rfl rfl rfl ?_
    refine wp_Inc (ls' := [.ref (ad (0)), ni_z (((ni_lw A i)) + ((A (48 + 17 * i + 1 + 1) 2) + (A (48 + 17 * i + 9 + 1) 2))), ni_z ((i : Int) + 1)]) (x' := (i : Int) + 1) rfl rfl (zi_inc (z := 1) rfl) rfl ?_
    refine wp_P (g := ni_gGo 4) rfl rfl ?_
    exact ws_Dg h0 c0 (ih (i + 1) (by omega)) rfl
theorem mt_way (hn : 0 ≤ A 0 2 ∧ A 0 2 ≤ 14) : ni_Dc xs St 1 81 (fun ad => [.ref (ad 0)]) A (fun _ => some (ni_z (ni_lw A (A 0 2).toNat))) A := by
  refine ni_Dw (fun _ => Nat.le_of_ble_eq_true rfl) (fun _ => rfl) ?_
  intro M0 ad rw cp hR
  have h0 : ni_Sx St M0 ad rw cp M0 rw cp A (ni_live A) := ⟨hR, ni_KpR⟩
  have c0 := ni_clR A
  refine wp_P (g := ni_gPush (.int (0)) 1) rfl (wp_push (z := 0) rfl) ?_
  refine wp_St (ls' := [.ref (ad (0)), ni_z (0), ni_J]) rfl rfl rfl ?_
  refine wp_P (g := ni_gPush (.int (0)) 3) rfl (wp_push (z := 0) rfl) ?_
  refine wp_St (ls' := [.ref (ad (0)), ni_z (0), ni_z (0)]) rfl rfl rfl ?_
  exact ws_Dg h0 c0 (mt_wayL (n := (A 0 2).toNat) (by omega) (by omega) (A 0 2).toNat 0 (by omega)) rfl
end MWY
