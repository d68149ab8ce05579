/-! A PORT SENDS -/
section MPU
variable {xs : List Int32} {St : Nat → Option ni_C} {A : Nat → Nat → Int}
theorem wp_Sw {d y pc q : Nat} {ls st : List Value} {M : ni_H} {Q : Option Value → ni_H → Prop} {f : Int32 → Nat} {x : Int32} (hp : ni_prog xs y pc = ni_sP (ni_gSw f)) (hf : f x = q) (k : wp_G xs d y q ls st M Q) : wp_G xs d y pc ls (.int x :: st) M Q := by
  refine wp_P hp (q := q) ?_ k
  show some (f x, st) = _
  rw [hf]
theorem mt_byT {p : Nat} (hs : ni_us p = true) (hk : ni_kd p = 5) (hP : ni_PT A p) (hn : 0 ≤ A p 10 ∧ A p 10 ≤ 250) (hq : ∀ i : Nat, (i : Int) < A p 10 → 0 ≤ A (p + 7) i ∧ A (p + 7) i ≤ 2147483647) : ∃ (v : Int) (A2 : Nat → Nat → Int), ni_Dc xs St 3 116 (fun ad => [.ref (ad p)]) A (fun _ => some (ni_z v)) A2 ∧ (v = -1 ∨ (0 ≤ v ∧ v < A p 10)) ∧ ni_fT A A2 p ∧ ni_PT A2 p := by
  obtain ⟨v, A2, g, h1, h2, h3⟩ := mt_turnL (xs := xs) (St := St) hs hk 100 0 (by omega) A ni_J ni_J hP hn hq
  refine ⟨v, A2, ?_, h1, h2, h3⟩
  · refine ni_Dw (fun _ => Nat.le_of_ble_eq_true rfl) (fun _ => rfl) ?_
    intro M0 ad rw cp hR
    have h0 : ni_Sx St M0 ad rw cp M0 rw cp A (ni_live A) := ⟨hR, ni_KpR⟩
    have c0 := ni_clR A
    refine wp_P (g := ni_gPush (.int (0)) 1) rfl (wp_push (z := 0) rfl) ?_
    refine wp_St rfl rfl rfl ?_
    exact ws_Dg h0 c0 g rfl
theorem mt_next {p : Nat} (hs : ni_us p = true) (hk : ni_kd p = 5) (hP : ni_PT A p) (hn : 0 < A p 10 ∧ A p 10 ≤ 250) (hq : ∀ i : Nat, (i : Int) < A p 10 → 0 ≤ A (p + 7) i ∧ A (p + 7) i ≤ 2147483647) (hd : 0 ≤ A p 1 ∧ A p 1 ≤ 2) : ∃ (v : Int) (A2 : Nat → Nat → Int), ni_Dc xs St 4 114 (fun ad => [.ref (ad p)]) A (fun _ => some (ni_z v)) A2 ∧ (v = -1 ∨ (0 ≤ v ∧ v < A p 10)) ∧ ni_fT A A2 p ∧ ni_PT A2 p := by
  have h3 : A p 1 = 0 ∨ A p 1 = 1 ∨ A p 1 = 2 := by omega
  rcases h3 with h1 | h1 | h1
  · refine ⟨0, A, ?_, Or.inr ⟨Int.le_refl _, hn.1⟩, ni_fTr, hP⟩
    · refine ni_Dw (fun _ => Nat.le_of_ble_eq_true rfl) (fun _ => rfl) ?_
      intro M0 ad rw cp hR
      have h0 : ni_Sx St M0 ad rw cp M0 rw cp A (ni_live A) := ⟨hR, ni_KpR⟩
      have c0 := ni_clR A
      refine wp_Ld rfl rfl rfl ?_
      refine ws_Get (v := ni_z (A (p) 1)) rfl h0 hs hk rfl rfl rfl ?_
      refine wp_Sw (q := 42) rfl (by rw [h1]; rfl) ?_
      refine wp_P (g := ni_gPush (.int (0)) 43) rfl (wp_push (z := 0) rfl) ?_
      exact ws_R (v := fun _ => some (ni_z 0)) rfl rfl h0 c0 rfl
  · obtain ⟨v, g, hv⟩ := mt_byC (xs := xs) (St := St) (p := p) (by omega) hq hs hk
    refine ⟨v, A, ?_, hv, ni_fTr, hP⟩
    · refine ni_Dw (fun _ => Nat.le_of_ble_eq_true rfl) (fun _ => rfl) ?_
      intro M0 ad rw cp hR
      have h0 : ni_Sx St M0 ad rw cp M0 rw cp A (ni_live A) := ⟨hR, ni_KpR⟩
      have c0 := ni_clR A
      refine wp_Ld rfl rfl rfl ?_
      refine ws_Get (v := ni_z (A (p) 1)) rfl h0 hs hk rfl rfl rfl ?_
      refine wp_Sw (q := 32) rfl (by rw [h1]; rfl) ?_
      refine wp_Ld rfl rfl rfl ?_
      refine ws_V rfl rfl rfl h0 c0 hs hk rfl (Nat.le_of_ble_eq_true rfl) (g) rfl ?_
      intro M1 rw1 cp1 h1
      have c1 := ni_clR (A)
      clear h0 c0
      exact ws_R (v := fun _ => some (ni_z v)) rfl rfl h1 c1 rfl
  · obtain ⟨v, A2, g, hv, hf, hP2⟩ := mt_byT (xs := xs) (St := St) hs hk hP (by omega) hq
    refine ⟨v, A2, ?_, hv, hf, hP2⟩
    · refine ni_Dw (fun _ => Nat.le_of_ble_eq_true rfl) (fun _ => rfl) ?_
      intro M0 ad rw cp hR
      have h0 : ni_Sx St M0 ad rw cp M0 rw cp A (ni_live A) := ⟨hR, ni_KpR⟩
      have c0 := ni_clR A
      refine wp_Ld rfl rfl rfl ?_
      refine ws_Get (v := ni_z (A (p) 1)) rfl h0 hs hk rfl rfl rfl ?_
      refine wp_Sw (q := 37) rfl (by rw [h1]; rfl) ?_
      refine wp_Ld rfl rfl rfl ?_
      refine ws_V rfl rfl rfl h0 c0 hs hk rfl (Nat.le_of_ble_eq_true rfl) (g) rfl ?_
      intro M1 rw1 cp1 h1
      have c1 := ni_clR (A2)
      clear h0 c0
      exact ws_R (v := fun _ => some (ni_z v)) rfl rfl h1 c1 rfl
theorem mt_takeL {p n v : Nat} (hs : ni_us p = true) (hk : ni_kd p = 5) (hn : A p 10 = n) (hn1 : n ≤ 250) : ∀ k i : Nat, i + k = n → v + 1 ≤ i → ni_Dr xs St 4 118 56 (fun ad => [.ref (ad p), ni_z (v : Int), ni_z (i : Int)]) (ni_sf A (p + 7) v i) (fun _ => none) (ni_u2 (ni_sf A (p + 7) v n) p 10 (A p 10 - 1)) := by
  have h374 := (ni_usT hs).1
  intro k
  induction k with
  | zero =>
    intro i hi h1
    have hin : i = n := by omega
    subst hin
    have e10 : (ni_sf A (p + 7) v i) p 10 = A p 10 := ni_sfN (Or.inl (by omega))
    intro M0 ad rw cp hR
    have h0 : ni_Sx St M0 ad rw cp M0 rw cp (ni_sf A (p + 7) v i) (ni_live (ni_sf A (p + 7) v i)) := ⟨hR, ni_KpR⟩
    have c0 := ni_clR (ni_sf A (p + 7) v i)
    refine wp_Ld rfl rfl rfl ?_
    refine wp_Ld rfl rfl rfl ?_
    refine ws_Get (v := ni_z ((ni_sf A (p + 7) v i) (p) 10)) rfl h0 hs hk rfl rfl rfl ?_
    refine wp_Ic true rfl (zc_ge_t ⟨by omega, by omega⟩ ⟨by omega, by omega⟩ (by omega)) ?_
    refine wp_Ld rfl rfl rfl ?_
    refine wp_P (g := ni_gDup 86) rfl rfl ?_
    refine ws_Get (v := ni_z ((ni_sf A (p + 7) v i) (p) 10)) rfl h0 hs hk rfl rfl rfl ?_
    refine wp_P (g := ni_gPush (.int (1)) 90) rfl (wp_push (z := 1) rfl) ?_
    refine wp_P rfl wp_sub ?_
    refine ws_Put rfl h0 hs hk rfl rfl (fun _ => rfl) rfl (fun z => absurd z (by decide)) ?_
    intro M1 h1
    have c1 := ni_clC (j := 10) (x := ((ni_sf A (p + 7) v i) (p) 10) - 1) c0 hs (by omega) (fun s' hs' e' => by rw [ni_liveC e' (by omega)]; omega)
    clear h0 c0
    rw [e10] at h1 c1
    exact ws_Rv (v := fun _ => none) rfl rfl h1 c1 rfl
  | succ k ih =>
    intro i hi h1
    have e10 : (ni_sf A (p + 7) v i) p 10 = A p 10 := ni_sfN (Or.inl (by omega))
    intro M0 ad rw cp hR
    have h0 : ni_Sx St M0 ad rw cp M0 rw cp (ni_sf A (p + 7) v i) (ni_live (ni_sf A (p + 7) v i)) := ⟨hR, ni_KpR⟩
    have c0 := ni_clR (ni_sf A (p + 7) v i)
    refine wp_Ld rfl rfl rfl ?_
    refine wp_Ld rfl rfl rfl ?_
    refine ws_Get (v := ni_z ((ni_sf A (p + 7) v i) (p) 10)) rfl h0 hs hk rfl rfl rfl ?_
    refine wp_Ic false rfl (zc_ge_f ⟨by omega, by omega⟩ ⟨by omega, by omega⟩ (by omega)) ?_
    refine wp_Ld rfl rfl rfl ?_
    refine ws_Get (v := .ref (ad (p + 7))) rfl h0 hs hk rfl rfl rfl ?_
    refine wp_Ld rfl rfl rfl ?_
    refine wp_P (g := ni_gPush (.int (1)) 70) rfl (wp_push (z := 1) rfl) ?_
    refine wp_P rfl wp_sub ?_
    refine wp_Ld rfl rfl rfl ?_
    refine ws_Get (v := .ref (ad (p + 7))) rfl h0 hs hk rfl rfl rfl ?_
    refine wp_Ld rfl rfl rfl ?_
    refine ws_Ald (j := i) (v := ni_z ((ni_sf A (p + 7) v i) (p + 7) (i))) rfl h0 (ni_o5_7 hs hk).1 (ni_o5_7 hs hk).2.1 (ni_o5_7 hs hk).2.2.1 ⟨by decide, rfl⟩ rfl (by omega) (by decide) (ni_LQ (ni_o5_7 hs hk).2.2.2 (by omega) (by omega)) rfl rfl ?_
    refine ws_Ast (j := (((i : Int)) - 1).toNat) (x := (ni_sf A (p + 7) v i) (p + 7) (i)) rfl h0 (ni_o5_7 hs hk).1 (ni_o5_7 hs hk).2.1 (ni_o5_7 hs hk).2.2.1 ⟨by decide, rfl⟩ (by omega) (by omega) (by decide) (Or.inl rfl) (congrArg ni_z ni_u2e.symm) ⟨rfl, rfl⟩ ?_
    intro M1 h1
    have c1 := ni_clU (j := (((i : Int)) - 1).toNat) (x := (ni_sf A (p + 7) v i) (p + 7) (i)) c0 (ni_o5_7 hs hk).1 (ni_o5_7 hs hk).2.1 rfl
    clear h0 c0
    refine wp_Inc (x' := (i : Int) + 1) rfl rfl (zi_inc (z := 1) rfl) rfl ?_
    refine wp_P (g := ni_gGo 56) rfl rfl ?_
    rw [ni_sfS (by omega) (by omega)] at h1 c1
    exact ws_Dg h1 c1 (ih (i + 1) (by omega) (by omega)) rfl
/-- what is left of a port as the packet at the place v begins to be sent -/
def ni_took (A : Nat → Nat → Int) (p v : Nat) : Nat → Nat → Int := ni_u2 (ni_sf (ni_u2 (ni_u2 (ni_u2 A p 12 (A (p + 7) v)) p 13 (A (p + 7) v / 4096 % 512)) p 11 (A p 11 - A (p + 7) v / 4096 % 512)) (p + 7) v (A p 10).toNat) p 10 (A p 10 - 1)
theorem mt_takeNext {p : Nat} (hs : ni_us p = true) (hk : ni_kd p = 5) (hP : ni_PT A p) (hn : 0 < A p 10 ∧ A p 10 ≤ 250) (hq : ∀ i : Nat, (i : Int) < A p 10 → 0 ≤ A (p + 7) i ∧ A (p + 7) i ≤ 2147483647) (hd : 0 ≤ A p 1 ∧ A p 1 ≤ 2) : ∃ A2 A3 : Nat → Nat → Int, ni_Dc xs St 5 118 (fun ad => [.ref (ad p)]) A (fun _ => none) A3 ∧ ni_fT A A2 p ∧ ni_PT A2 p ∧ (A3 = A2 ∨ ∃ v : Nat, (v : Int) < A p 10 ∧ A3 = ni_took A2 p v) := by
  have h374 := (ni_usT hs).1
  obtain ⟨v, A2, g, hv, hf, hP2⟩ := mt_next (xs := xs) (St := St) hs hk hP hn hq hd
  have qf := ni_fTq hf
  rcases hv with hv | hv
  · refine ⟨A2, A2, ?_, hf, hP2, Or.inl rfl⟩
    refine ni_Dw (fun _ => Nat.le_of_ble_eq_true rfl) (fun _ => rfl) ?_
    intro M0 ad rw cp hR
    have h0 : ni_Sx St M0 ad rw cp M0 rw cp A (ni_live A) := ⟨hR, ni_KpR⟩
    have c0 := ni_clR A
    refine wp_Ld rfl rfl rfl ?_
    refine ws_V rfl rfl rfl h0 c0 hs hk rfl (Nat.le_of_ble_eq_true rfl) (g) rfl ?_
    intro M1 rw1 cp1 h1
    have c1 := ni_clR (A2)
    clear h0 c0
    refine wp_St rfl rfl rfl ?_
    refine wp_Ld rfl rfl rfl ?_
    refine wp_If true rfl (zf_lt_t ⟨by omega, by omega⟩ (by omega)) ?_
    exact ws_Rv (v := fun _ => none) rfl rfl h1 c1 rfl
  · obtain ⟨n, hv2⟩ := Int.eq_ofNat_of_zero_le hv.1
    refine ⟨A2, ni_took A2 p n, ?_, hf, hP2, Or.inr ⟨n, by omega, rfl⟩⟩
    · have hz : 0 ≤ A2 (p + 7) n ∧ A2 (p + 7) n ≤ 2147483647 := by
        rw [qf.2.1]
        exact hq n (by omega)
      have q10 := qf.1
      refine ni_Dw (fun _ => Nat.le_of_ble_eq_true rfl) (fun _ => rfl) ?_
      intro M0 ad rw cp hR
      have h0 : ni_Sx St M0 ad rw cp M0 rw cp A (ni_live A) := ⟨hR, ni_KpR⟩
      have c0 := ni_clR A
      refine wp_Ld rfl rfl rfl ?_
      refine ws_V rfl rfl rfl h0 c0 hs hk rfl (Nat.le_of_ble_eq_true rfl) (g) rfl ?_
      intro M1 rw1 cp1 h1
      have c1 := ni_clR (A2)
      clear h0 c0
      refine wp_St rfl rfl rfl ?_
      refine wp_Ld rfl rfl rfl ?_
      refine wp_If false rfl (zf_lt_f ⟨by omega, by omega⟩ (by omega)) ?_
      refine wp_Ld rfl rfl rfl ?_
      refine wp_Ld rfl rfl rfl ?_
      refine ws_Get (v := ni_z (A2 (p) 10)) rfl h1 hs hk rfl rfl rfl ?_
      refine wp_Ic true rfl (zc_lt_t ⟨by omega, by omega⟩ ⟨by omega, by omega⟩ (by omega)) ?_
      refine wp_Ld rfl rfl rfl ?_
      refine wp_Ld rfl rfl rfl ?_
      refine ws_Get (v := .ref (ad (p + 7))) rfl h1 hs hk rfl rfl rfl ?_
      refine wp_Ld rfl rfl rfl ?_
      refine ws_Ald (j := n) (v := ni_z (A2 (p + 7) (n))) rfl h1 (ni_o5_7 hs hk).1 (ni_o5_7 hs hk).2.1 (ni_o5_7 hs hk).2.2.1 ⟨by decide, rfl⟩ hv2 (by omega) (by decide) (ni_LQ (ni_o5_7 hs hk).2.2.2 (by omega) (by omega)) rfl rfl ?_
      refine ws_Put rfl h1 hs hk rfl rfl (fun _ => rfl) rfl (fun z => absurd z (by decide)) ?_
      intro M2 h2
      have c2 := ni_clU (j := 12) (x := A2 (p + 7) (n)) c1 hs hk rfl
      clear h1 c1
      refine wp_Ld rfl rfl rfl ?_
      refine wp_Ld rfl rfl rfl ?_
      refine ws_Get (v := ni_z (A2 (p + 7) (n))) rfl h2 hs hk rfl rfl (congrArg ni_z (ni_u2e)) ?_
      refine ws_P rfl (Nat.le_of_ble_eq_true rfl) rfl rfl (Nat.le_of_ble_eq_true rfl) (ni_PuUp (mt_sizeOf hz) (by decide)) ?_
      refine ws_Put rfl h2 hs hk rfl rfl (fun _ => rfl) rfl (fun z => absurd z (by decide)) ?_
      intro M3 h3
      have c3 := ni_clU (j := 13) (x := A2 (p + 7) n / 4096 % 512) c2 hs hk rfl
      clear h2 c2
      refine wp_Ld rfl rfl rfl ?_
      refine wp_P (g := ni_gDup 41) rfl rfl ?_
      refine ws_Get (v := ni_z (A2 (p) 11)) rfl h3 hs hk rfl rfl (congrArg ni_z ((ni_u2n (Or.inr (by decide))).trans (ni_u2n (Or.inr (by decide))))) ?_
      refine wp_Ld rfl rfl rfl ?_
      refine ws_Get (v := ni_z (A2 (p + 7) n / 4096 % 512)) rfl h3 hs hk rfl rfl (congrArg ni_z (ni_u2e)) ?_
      refine wp_P rfl wp_sub ?_
      refine ws_Put rfl h3 hs hk rfl rfl (fun _ => rfl) rfl (fun z => absurd z (by decide)) ?_
      intro M4 h4
      have c4 := ni_clU (j := 11) (x := (A2 (p) 11) - (A2 (p + 7) n / 4096 % 512)) c3 hs hk rfl
      clear h3 c3
      refine wp_Ld rfl rfl rfl ?_
      refine wp_P (g := ni_gPush (.int (1)) 54) rfl (wp_push (z := 1) rfl) ?_
      refine wp_P rfl wp_add ?_
      refine wp_St rfl rfl rfl ?_
      have e1 : (ni_u2 (ni_u2 (ni_u2 A2 p 12 (A2 (p + 7) n)) p 13 (A2 (p + 7) n / 4096 % 512)) p 11 (A2 p 11 - A2 (p + 7) n / 4096 % 512)) p 10 = A2 p 10 := (ni_u2n (Or.inr (by decide))).trans ((ni_u2n (Or.inr (by decide))).trans (ni_u2n (Or.inr (by decide))))
      have hl := mt_takeL (xs := xs) (St := St) (A := (ni_u2 (ni_u2 (ni_u2 A2 p 12 (A2 (p + 7) n)) p 13 (A2 (p + 7) n / 4096 % 512)) p 11 (A2 p 11 - A2 (p + 7) n / 4096 % 512))) (p := p) (n := (A2 p 10).toNat) (v := n) hs hk (by rw [e1]; omega) (by omega) ((A2 p 10).toNat - (n + 1)) (n + 1) (by omega) (Nat.le_refl _)
      rw [ni_sf0 (Nat.le_refl _), e1] at hl
      refine ws_Dg h4 c4 hl ?_
      rw [hv2]
      rfl
end MPU
