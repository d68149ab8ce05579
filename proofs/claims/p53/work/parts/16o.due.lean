/-! LETTERS THAT ARE DUE -/
section MDU
variable {xs : List Int32} {St : Nat → Option ni_C} {A : Nat → Nat → Int}
theorem ni_lrO {s : Nat} (h : ni_ln s = 0) : ni_lr s = true := by
  unfold ni_lr
  rw [h]
  rfl
theorem ni_cpJ {M0 : ni_H} {ad rw0 cp0 : Nat → Nat} {M : ni_H} {rw cp : Nat → Nat} {L : Nat → Nat} {l j : Nat} (h : ni_Sx St M0 ad rw0 cp0 M rw cp A L) (hs : ni_us l = true) (hk : ni_kd l = 2) (hj : (j : Int) < A l 2) : j < cp (l + 1) ∧ j < cp (l + 2) ∧ j < 1000000 := by
  have hl := ni_lnsC hs hk
  have h1 := h.1.2.2.2.1 l hl
  have h2 := ni_cpB h.1.2.2.1 hl
  omega
theorem mt_dueL {l n : Nat} {t : Int} (ht : 0 ≤ t ∧ t ≤ 1000000) (hs : ni_us l = true) (hk : ni_kd l = 2) (hn : A l 2 = n) (hn1 : n ≤ 2048) (hq : ∀ i : Nat, (i : Int) < A l 2 → 0 ≤ A (l + 2) i ∧ A (l + 2) i ≤ 1000000) : ∀ k i : Nat, i + k = n → ∃ v : Int, ni_Dr xs St 0 63 2 (fun ad => [.ref (ad l), ni_z t, ni_z (i : Int)]) A (fun _ => some (ni_z v)) A ∧ (i ≤ v ∧ v ≤ n) ∧ ∀ j : Nat, i ≤ j → (j : Int) < v → A (l + 2) j ≤ t := by
  have h374 := (ni_usT hs).1
  intro k
  induction k with
  | zero =>
    intro i hi
    have hin : i = n := by omega
    subst hin
    refine ⟨i, ?_, by omega, fun j h1 h2 => by omega⟩
    · intro M0 ad rw cp hR
      have h0 : ni_Sx St M0 ad rw cp M0 rw cp A (ni_live A) := ⟨hR, ni_KpR⟩
      have c0 := ni_clR A
      refine wp_Ld rfl rfl rfl ?_
      refine wp_Ld rfl rfl rfl ?_
      refine ws_Get (v := ni_z (A (l) 2)) rfl h0 hs hk rfl rfl rfl ?_
      refine wp_Ic true rfl (zc_ge_t ⟨by omega, by omega⟩ ⟨by omega, by omega⟩ (by omega)) ?_
      refine wp_Ld rfl rfl rfl ?_
      exact ws_R (v := fun _ => some (ni_z (i : Int))) rfl rfl h0 c0 rfl
  | succ k ih =>
    intro i hi
    have hqi := hq i (by omega)
    by_cases h : A (l + 2) i ≤ t
    · obtain ⟨v, g, h1, h2⟩ := ih (i + 1) (by omega)
      refine ⟨v, ?_, by omega, fun j h3 h4 => ?_⟩
      · intro M0 ad rw cp hR
        have h0 : ni_Sx St M0 ad rw cp M0 rw cp A (ni_live A) := ⟨hR, ni_KpR⟩
        have c0 := ni_clR A
        refine wp_Ld rfl rfl rfl ?_
        refine wp_Ld rfl rfl rfl ?_
        refine ws_Get (v := ni_z (A (l) 2)) rfl h0 hs hk rfl rfl rfl ?_
        refine wp_Ic false rfl (zc_ge_f ⟨by omega, by omega⟩ ⟨by omega, by omega⟩ (by omega)) ?_
        refine wp_Ld rfl rfl rfl ?_
        refine ws_Get (v := .ref (rw (l + 2))) rfl h0 hs hk rfl rfl rfl ?_
        refine wp_Ld rfl rfl rfl ?_
        refine ws_AldR (j := i) (v := ni_z (A (l + 2) (i))) rfl h0 (ni_o2_2 hs hk).1 (ni_o2_2 hs hk).2.1 (ni_lrO (ni_o2_2 hs hk).2.2.1) ⟨by decide, rfl⟩ rfl (ni_cpJ h0 hs hk (by omega)).2.1 (ni_cpJ h0 hs hk (by omega)).2.2 (ni_LQ (ni_o2_2 hs hk).2.2.2 (by omega) (by omega)) rfl rfl ?_
        refine wp_Ld rfl rfl rfl ?_
        refine wp_Ic false rfl (zc_gt_f ⟨by omega, by omega⟩ ⟨by omega, by omega⟩ (by omega)) ?_
        refine wp_Inc (ls' := [.ref (ad (l)), ni_z (t), ni_z ((i : Int) + 1)]) (x' := (i : Int) + 1) rfl rfl (zi_inc (z := 1) rfl) rfl ?_
        refine wp_P (g := ni_gGo 2) rfl rfl ?_
        exact ws_Dg h0 c0 g rfl
      · by_cases e : j = i
        · rw [e]
          exact h
        · exact h2 j (by omega) h4
    · refine ⟨i, ?_, by omega, fun j h1 h2 => by omega⟩
      · intro M0 ad rw cp hR
        have h0 : ni_Sx St M0 ad rw cp M0 rw cp A (ni_live A) := ⟨hR, ni_KpR⟩
        have c0 := ni_clR A
        refine wp_Ld rfl rfl rfl ?_
        refine wp_Ld rfl rfl rfl ?_
        refine ws_Get (v := ni_z (A (l) 2)) rfl h0 hs hk rfl rfl rfl ?_
        refine wp_Ic false rfl (zc_ge_f ⟨by omega, by omega⟩ ⟨by omega, by omega⟩ (by omega)) ?_
        refine wp_Ld rfl rfl rfl ?_
        refine ws_Get (v := .ref (rw (l + 2))) rfl h0 hs hk rfl rfl rfl ?_
        refine wp_Ld rfl rfl rfl ?_
        refine ws_AldR (j := i) (v := ni_z (A (l + 2) (i))) rfl h0 (ni_o2_2 hs hk).1 (ni_o2_2 hs hk).2.1 (ni_lrO (ni_o2_2 hs hk).2.2.1) ⟨by decide, rfl⟩ rfl (ni_cpJ h0 hs hk (by omega)).2.1 (ni_cpJ h0 hs hk (by omega)).2.2 (ni_LQ (ni_o2_2 hs hk).2.2.2 (by omega) (by omega)) rfl rfl ?_
        refine wp_Ld rfl rfl rfl ?_
        refine wp_Ic true rfl (zc_gt_t ⟨by omega, by omega⟩ ⟨by omega, by omega⟩ (by omega)) ?_
        refine wp_Ld rfl rfl rfl ?_
        exact ws_R (v := fun _ => some (ni_z (i : Int))) rfl rfl h0 c0 rfl
end MDU
