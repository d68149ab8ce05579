/-! LETTERS -/
section MLT
variable {xs : List Int32} {St : Nat → Option ni_C} {A : Nat → Nat → Int}
theorem mt_hasLink {b k : Nat} {o n s : Int} {ca na : Nat} (hb : St b = some (1, [ni_z o, ni_z n, ni_z s, .ref ca, .ref na])) (hk : k < 14) (hs : 0 ≤ s ∧ s < 16384) : ni_Dc xs St 1 60 (fun _ => [.ref b, ni_z (k : Int)]) A (fun _ => some (ni_z (s / 2 ^ k % 2))) A := by
  have hp : (0 : Int) ≤ s / 2 ^ k := Int.ediv_nonneg hs.1 (by exact_mod_cast Nat.zero_le (2 ^ k))
  have m0 : 0 ≤ s / 2 ^ k % 2 := Int.emod_nonneg _ (by omega)
  have m1 : s / 2 ^ k % 2 < 2 := Int.emod_lt_of_pos _ (by omega)
  refine ni_Dw (fun _ => Nat.le_of_ble_eq_true rfl) (fun _ => rfl) ?_
  intro M0 ad rw cp hR
  have h0 : ni_Sx St M0 ad rw cp M0 rw cp A (ni_live A) := ⟨hR, ni_KpR⟩
  have c0 := ni_clR A
  have hM := (hR.2.2.2.2.1 b _ hb).1
  refine wp_Ld rfl rfl rfl ?_
  refine wp_Get rfl hM rfl ?_
  refine wp_Ld rfl rfl rfl ?_
  refine wp_P rfl (wp_I (c := s / 2 ^ k) (zb_shr ⟨by omega, by omega⟩ (by omega))) ?_
  refine wp_P (g := ni_gPush (.int (1)) 7) rfl (wp_push (z := 1) rfl) ?_
  refine wp_P rfl (wp_I (c := s / 2 ^ k % 2) (zb_m1 hp)) ?_
  by_cases e : s / 2 ^ k % 2 = 0
  · refine wp_If true rfl (zf_eq_t ⟨by omega, by omega⟩ e) ?_
    refine wp_P (g := ni_gPush (.int (0)) 16) rfl (wp_push (z := 0) rfl) ?_
    rw [e]
    exact ws_R (v := fun _ => some (ni_z 0)) rfl rfl h0 c0 rfl
  · have e1 : s / 2 ^ k % 2 = 1 := by omega
    refine wp_If false rfl (zf_eq_f ⟨by omega, by omega⟩ e) ?_
    refine wp_P (g := ni_gPush (.int (1)) 12) rfl (wp_push (z := 1) rfl) ?_
    refine wp_P (g := ni_gGo 16) rfl rfl ?_
    rw [e1]
    exact ws_R (v := fun _ => some (ni_z 1)) rfl rfl h0 c0 rfl
theorem mt_keep {r b o : Nat} {n s : Int} {ca na : Nat} (hs : ni_us r = true) (hk : ni_kd r = 7) (hb : St b = some (1, [ni_z (o : Int), ni_z n, ni_z s, .ref ca, .ref na])) (ho : o < 8) : ni_Dc xs St 1 137 (fun ad => [.ref (ad r), .ref b]) A (fun _ => none) (ni_u2 (ni_u2 A (r + 4) o (b : Int)) r 5 1) := by
  have h374 := (ni_usT hs).1
  have hr := ni_o7_4 hs hk
  refine ni_Dw (fun _ => Nat.le_of_ble_eq_true rfl) (fun _ => rfl) ?_
  intro M0 ad rw cp hR
  have h0 : ni_Sx St M0 ad rw cp M0 rw cp A (ni_live A) := ⟨hR, ni_KpR⟩
  have c0 := ni_clR A
  have hM := (hR.2.2.2.2.1 b _ hb).1
  obtain ⟨q1, q2⟩ := ni_cpL hR.2.2.1 hr.1 hr.2.2.1 (by omega)
  have hpl : ni_pl ad rw (r + 4) = ad (r + 4) := by
    unfold ni_pl
    rw [q2, cond_false]
  refine wp_Ld rfl rfl rfl ?_
  refine ws_Get (v := .ref (ad (r + 4))) rfl h0 hs hk rfl rfl rfl ?_
  refine wp_Ld rfl rfl rfl ?_
  refine wp_Get rfl hM rfl ?_
  refine wp_Ld rfl rfl rfl ?_
  refine ws_Qst (j := o) (b := b) rfl h0 hr.1 hr.2.1 hpl rfl (by omega) (by omega) hb rfl (Or.inl rfl) ?_
  intro M1 h1
  have c1 := ni_clU (j := o) (x := (b : Int)) c0 hr.1 hr.2.1 rfl
  refine wp_Ld rfl rfl rfl ?_
  refine wp_P (g := ni_gPush (.int (1)) 12) rfl (wp_push (z := 1) rfl) ?_
  refine ws_Put rfl h1 hs hk rfl rfl (fun _ => rfl) rfl (fun z => absurd z (by decide)) ?_
  intro M2 h2
  have c2 := ni_clU (j := 5) (x := 1) c1 hs hk rfl
  exact ws_Rv (v := fun _ => none) rfl rfl h2 c2 rfl
end MLT
