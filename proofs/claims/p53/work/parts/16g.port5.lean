/-! A PORT SENDS, A PORT LOSES -/
section MPV
variable {xs : List Int32} {St : Nat → Option ni_C} {A : Nat → Nat → Int}
/-- what is left of a port as it sends the packet that is being sent -/
def ni_sends (A : Nat → Nat → Int) (p : Nat) (r t : Int) : Nat → Nat → Int := if A p 12 = -1 then A else if A p 13 - min r (A p 13) = 0 then ni_u2 (ni_u2 (ni_u2 (ni_u2 A p 13 (A p 13 - min r (A p 13))) (p + 1 + 3) (t % 21).toNat (A p 12)) (p + 1) 4 (A (p + 1) 4 + 1)) p 12 (-1) else (ni_u2 A p 13 (A p 13 - min r (A p 13)))
theorem mt_sendT {p : Nat} {r t : Int} (hs : ni_us p = true) (hk : ni_kd p = 5) (hr : 0 ≤ r ∧ r ≤ 1000000) (ht : 0 ≤ t ∧ t ≤ 1000000) (h12 : -1 ≤ A p 12 ∧ A p 12 ≤ 2147483647) (h13 : 0 ≤ A p 13 ∧ A p 13 ≤ 1000000) : ni_Dr xs St 5 117 19 (fun ad => [.ref (ad p), ni_z r, ni_z t]) A (fun _ => none) (ni_sends A p r t) := by
  have h374 := (ni_usT hs).1
  unfold ni_sends
  by_cases h1 : A p 12 = -1
  · rw [if_pos h1]
    · intro M0 ad rw cp hR
      have h0 : ni_Sx St M0 ad rw cp M0 rw cp A (ni_live A) := ⟨hR, ni_KpR⟩
      have c0 := ni_clR A
      refine wp_Ld rfl rfl rfl ?_
      refine ws_Get (v := ni_z (A (p) 12)) rfl h0 hs hk rfl rfl rfl ?_
      refine wp_P (g := ni_gPush (.int (-1)) 24) rfl (wp_push (z := -1) rfl) ?_
      refine wp_Ic false rfl (zc_ne_f ⟨by omega, by omega⟩ ⟨by omega, by omega⟩ (by omega)) ?_
      exact ws_Rv (v := fun _ => none) rfl rfl h0 c0 rfl
  · rw [if_neg h1]
    by_cases h2 : A p 13 - min r (A p 13) = 0
    · rw [if_pos h2]
      have hput := mt_putP (xs := xs) (St := St) (A := (ni_u2 A p 13 (A p 13 - min r (A p 13)))) (l := p + 1) (x := A p 12) ht (ni_o5_1 hs hk).1 (ni_o5_1 hs hk).2.1
      have e4 : (ni_u2 A p 13 (A p 13 - min r (A p 13))) (p + 1) 4 = A (p + 1) 4 := ni_u2n (Or.inr (by decide))
      rw [e4] at hput
      have hput := ni_Dup hput (d' := 5) (by decide)
      intro M0 ad rw cp hR
      have h0 : ni_Sx St M0 ad rw cp M0 rw cp A (ni_live A) := ⟨hR, ni_KpR⟩
      have c0 := ni_clR A
      refine wp_Ld rfl rfl rfl ?_
      refine ws_Get (v := ni_z (A (p) 12)) rfl h0 hs hk rfl rfl rfl ?_
      refine wp_P (g := ni_gPush (.int (-1)) 24) rfl (wp_push (z := -1) rfl) ?_
      refine wp_Ic true rfl (zc_ne_t ⟨by omega, by omega⟩ ⟨by omega, by omega⟩ (by omega)) ?_
      refine wp_Ld rfl rfl rfl ?_
      refine wp_P (g := ni_gDup 30) rfl rfl ?_
      refine ws_Get (v := ni_z (A (p) 13)) rfl h0 hs hk rfl rfl rfl ?_
      refine wp_Ld rfl rfl rfl ?_
      refine wp_Ld rfl rfl rfl ?_
      refine ws_Get (v := ni_z (A (p) 13)) rfl h0 hs hk rfl rfl rfl ?_
      refine wp_P rfl (wp_IM (c := min (r) (A (p) 13)) ⟨Nat.le_of_ble_eq_true rfl, zi_min ⟨by omega, by omega⟩ ⟨by omega, by omega⟩⟩) ?_
      refine wp_P rfl wp_sub ?_
      refine ws_Put rfl h0 hs hk rfl rfl (fun _ => rfl) rfl (fun z => absurd z (by decide)) ?_
      intro M1 h1
      have c1 := ni_clU (j := 13) (x := (A (p) 13) - (min (r) (A (p) 13))) c0 hs hk rfl
      clear h0 c0
      refine wp_Ld rfl rfl rfl ?_
      refine ws_Get (v := ni_z ((A (p) 13) - (min (r) (A (p) 13)))) rfl h1 hs hk rfl rfl (congrArg ni_z (ni_u2e)) ?_
      refine wp_If false rfl (zf_ne_f ⟨by omega, by omega⟩ (by omega)) ?_
      refine wp_Ld rfl rfl rfl ?_
      refine ws_Get (v := .ref (ad (p + 1))) rfl h1 hs hk rfl rfl rfl ?_
      refine wp_Ld rfl rfl rfl ?_
      refine ws_Get (v := ni_z (A (p) 12)) rfl h1 hs hk rfl rfl (congrArg ni_z (ni_u2n (Or.inr (by decide)))) ?_
      refine wp_Ld rfl rfl rfl ?_
      refine ws_V rfl rfl rfl h1 c1 (ni_o5_1 hs hk).1 (ni_o5_1 hs hk).2.1 rfl (Nat.le_of_ble_eq_true rfl) (hput) rfl ?_
      intro M2 rw2 cp2 h2
      have c2 := ni_clR ((ni_u2 (ni_u2 (ni_u2 A p 13 (A p 13 - min r (A p 13))) (p + 1 + 3) (t % 21).toNat (A p 12)) (p + 1) 4 (A (p + 1) 4 + 1)))
      clear h1 c1
      refine wp_Ld rfl rfl rfl ?_
      refine wp_P (g := ni_gPush (.int (-1)) 66) rfl (wp_push (z := -1) rfl) ?_
      refine ws_Put rfl h2 hs hk rfl rfl (fun _ => rfl) rfl (fun z => absurd z (by decide)) ?_
      intro M3 h3
      have c3 := ni_clU (j := 12) (x := (-1)) c2 hs hk rfl
      clear h2 c2
      exact ws_Rv (v := fun _ => none) rfl rfl h3 c3 rfl
    · rw [if_neg h2]
      intro M0 ad rw cp hR
      have h0 : ni_Sx St M0 ad rw cp M0 rw cp A (ni_live A) := ⟨hR, ni_KpR⟩
      have c0 := ni_clR A
      refine wp_Ld rfl rfl rfl ?_
      refine ws_Get (v := ni_z (A (p) 12)) rfl h0 hs hk rfl rfl rfl ?_
      refine wp_P (g := ni_gPush (.int (-1)) 24) rfl (wp_push (z := -1) rfl) ?_
      refine wp_Ic true rfl (zc_ne_t ⟨by omega, by omega⟩ ⟨by omega, by omega⟩ (by omega)) ?_
      refine wp_Ld rfl rfl rfl ?_
      refine wp_P (g := ni_gDup 30) rfl rfl ?_
      refine ws_Get (v := ni_z (A (p) 13)) rfl h0 hs hk rfl rfl rfl ?_
      refine wp_Ld rfl rfl rfl ?_
      refine wp_Ld rfl rfl rfl ?_
      refine ws_Get (v := ni_z (A (p) 13)) rfl h0 hs hk rfl rfl rfl ?_
      refine wp_P rfl (wp_IM (c := min (r) (A (p) 13)) ⟨Nat.le_of_ble_eq_true rfl, zi_min ⟨by omega, by omega⟩ ⟨by omega, by omega⟩⟩) ?_
      refine wp_P rfl wp_sub ?_
      refine ws_Put rfl h0 hs hk rfl rfl (fun _ => rfl) rfl (fun z => absurd z (by decide)) ?_
      intro M1 h1
      have c1 := ni_clU (j := 13) (x := (A (p) 13) - (min (r) (A (p) 13))) c0 hs hk rfl
      clear h0 c0
      refine wp_Ld rfl rfl rfl ?_
      refine ws_Get (v := ni_z ((A (p) 13) - (min (r) (A (p) 13)))) rfl h1 hs hk rfl rfl (congrArg ni_z (ni_u2e)) ?_
      refine wp_If true rfl (zf_ne_t ⟨by omega, by omega⟩ (by omega)) ?_
      exact ws_Rv (v := fun _ => none) rfl rfl h1 c1 rfl
theorem mt_send1 {p : Nat} {r t : Int} (hs : ni_us p = true) (hk : ni_kd p = 5) (hr : 0 ≤ r ∧ r ≤ 1000000) (ht : 0 ≤ t ∧ t ≤ 1000000) (h12 : 0 ≤ A p 12 ∧ A p 12 ≤ 2147483647) (h13 : 0 ≤ A p 13 ∧ A p 13 ≤ 1000000) : ni_Dc xs St 6 117 (fun ad => [.ref (ad p), ni_z r, ni_z t]) A (fun _ => none) (ni_sends A p r t) := by
  have h374 := (ni_usT hs).1
  have g := mt_sendT (xs := xs) (St := St) (A := A) hs hk hr ht (by omega) h13
  refine ni_Dw (fun _ => Nat.le_of_ble_eq_true rfl) (fun _ => rfl) ?_
  intro M0 ad rw cp hR
  have h0 : ni_Sx St M0 ad rw cp M0 rw cp A (ni_live A) := ⟨hR, ni_KpR⟩
  have c0 := ni_clR A
  refine wp_Ld rfl rfl rfl ?_
  refine ws_Get (v := ni_z (A (p) 12)) rfl h0 hs hk rfl rfl rfl ?_
  refine wp_P (g := ni_gPush (.int (-1)) 5) rfl (wp_push (z := -1) rfl) ?_
  refine wp_Ic true rfl (zc_ne_t ⟨by omega, by omega⟩ ⟨by omega, by omega⟩ (by omega)) ?_
  exact ws_Dg h0 c0 g rfl
theorem mt_send2 {p : Nat} {r t : Int} (hs : ni_us p = true) (hk : ni_kd p = 5) (hr : 0 ≤ r ∧ r ≤ 1000000) (ht : 0 ≤ t ∧ t ≤ 1000000) (h12 : A p 12 = -1) (h10 : A p 10 = 0) (h13 : 0 ≤ A p 13 ∧ A p 13 ≤ 1000000) : ni_Dc xs St 6 117 (fun ad => [.ref (ad p), ni_z r, ni_z t]) A (fun _ => none) (ni_sends A p r t) := by
  have h374 := (ni_usT hs).1
  have g := mt_sendT (xs := xs) (St := St) (A := A) hs hk hr ht (by omega) h13
  refine ni_Dw (fun _ => Nat.le_of_ble_eq_true rfl) (fun _ => rfl) ?_
  intro M0 ad rw cp hR
  have h0 : ni_Sx St M0 ad rw cp M0 rw cp A (ni_live A) := ⟨hR, ni_KpR⟩
  have c0 := ni_clR A
  refine wp_Ld rfl rfl rfl ?_
  refine ws_Get (v := ni_z (A (p) 12)) rfl h0 hs hk rfl rfl rfl ?_
  refine wp_P (g := ni_gPush (.int (-1)) 5) rfl (wp_push (z := -1) rfl) ?_
  refine wp_Ic false rfl (zc_ne_f ⟨by omega, by omega⟩ ⟨by omega, by omega⟩ (by omega)) ?_
  refine wp_Ld rfl rfl rfl ?_
  refine ws_Get (v := ni_z (A (p) 10)) rfl h0 hs hk rfl rfl rfl ?_
  refine wp_If true rfl (zf_le_t ⟨by omega, by omega⟩ (by omega)) ?_
  exact ws_Dg h0 c0 g rfl
theorem mt_send3 {A3 : Nat → Nat → Int} {p : Nat} {r t : Int} (hs : ni_us p = true) (hk : ni_kd p = 5) (hr : 0 ≤ r ∧ r ≤ 1000000) (ht : 0 ≤ t ∧ t ≤ 1000000) (h12 : A p 12 = -1) (h10 : 0 < A p 10 ∧ A p 10 ≤ 250) (g : ni_Dc xs St 5 118 (fun ad => [.ref (ad p)]) A (fun _ => none) A3) (h12' : -1 ≤ A3 p 12 ∧ A3 p 12 ≤ 2147483647) (h13 : 0 ≤ A3 p 13 ∧ A3 p 13 ≤ 1000000) : ni_Dc xs St 6 117 (fun ad => [.ref (ad p), ni_z r, ni_z t]) A (fun _ => none) (ni_sends A3 p r t) := by
  have h374 := (ni_usT hs).1
  have g2 := mt_sendT (xs := xs) (St := St) (A := A3) hs hk hr ht h12' h13
  refine ni_Dw (fun _ => Nat.le_of_ble_eq_true rfl) (fun _ => rfl) ?_
  intro M0 ad rw cp hR
  have h0 : ni_Sx St M0 ad rw cp M0 rw cp A (ni_live A) := ⟨hR, ni_KpR⟩
  have c0 := ni_clR A
  refine wp_Ld rfl rfl rfl ?_
  refine ws_Get (v := ni_z (A (p) 12)) rfl h0 hs hk rfl rfl rfl ?_
  refine wp_P (g := ni_gPush (.int (-1)) 5) rfl (wp_push (z := -1) rfl) ?_
  refine wp_Ic false rfl (zc_ne_f ⟨by omega, by omega⟩ ⟨by omega, by omega⟩ (by omega)) ?_
  refine wp_Ld rfl rfl rfl ?_
  refine ws_Get (v := ni_z (A (p) 10)) rfl h0 hs hk rfl rfl rfl ?_
  refine wp_If false rfl (zf_le_f ⟨by omega, by omega⟩ (by omega)) ?_
  refine wp_Ld rfl rfl rfl ?_
  refine ws_V rfl rfl rfl h0 c0 hs hk rfl (Nat.le_of_ble_eq_true rfl) (g) rfl ?_
  intro M1 rw1 cp1 h1
  have c1 := ni_clR (A3)
  clear h0 c0
  exact ws_Dg h1 c1 g2 rfl
end MPV
