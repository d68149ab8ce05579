/-! TRIES: NODES AND LEVELS -/
section NTS
variable {Z : (Nat → Nat) → Prop} {xs : List Int32} {St : Nat → Option ni_C} {A : Nat → Nat → Int}
/-- nodes and levels of what lies below a node -/
theorem mt_trie {t : Nat} (hs : ni_us t = true) (hk : ni_kd t = 8) (hT : ni_TS A t) : ∀ k : Nat, ∀ (f o : Nat) (l lv : Int), lv + k = 17 → k ≤ 17 → (f ≤ o ∧ (o : Int) ≤ A t 3) → (0 ≤ l ∧ l ≤ 16) → ∃ n d : Int, ni_M xs St (k + 3) 151 [ni_aP (t + 1), ni_aI (f : Int), ni_aI (o : Int), ni_aI l, ni_aI lv] A (fun v A' => v = some (ni_aI (n)) ∧ A' = A) ∧ ni_M xs St (k + 3) 149 [ni_aP (t + 1), ni_aI (f : Int), ni_aI (o : Int), ni_aI l, ni_aI lv] A (fun v A' => v = some (ni_aI (d)) ∧ A' = A) ∧ (0 ≤ d ∧ d ≤ n ∧ (0 < k → 1 ≤ n)) ∧ n ≤ 2 * (o - f) + 1 ∧ (f < o → ∀ c : Nat, l = min (c : Int) (A (t + 1) f % 32) → c ≤ 16 → (c < 16 → ((A (t + 1) f / 32).toNat ^^^ (A (t + 1) (o - 1) / 32).toNat) / 2 ^ (15 - c) = 1) → n ≤ 2 * (o - f) - 1) := by
  have h374 := (ni_usT hs).1
  have hn := hT.1.1
  intro k
  induction k with
  | zero =>
    intro f o l lv hlv hk17 hfo hl
    refine ⟨0, 0, ?_, ?_, by omega, by omega, fun h c hlc hc16 hcx => by omega⟩
    · refine ni_Min (ls := [ni_aP (t + 1), ni_aI ((f : Int)), ni_aI ((o : Int)), ni_aI (l), ni_aI (lv), .inl ni_J, .inl ni_J, .inl ni_J]) (fun _ => Nat.le_of_ble_eq_true rfl) (fun _ _ => rfl) ?_
      refine E_Ld (q := 2) rfl rfl (fun _ _ => rfl) ?_
      refine E_push (q := 4) (c := 16) (z := 16) rfl rfl ?_
      refine E_Ic false rfl (zc_le_f ⟨by omega, by omega⟩ ⟨by omega, by omega⟩ (by omega)) ?_
      refine E_push (q := 8) (c := 0) (z := 0) rfl rfl ?_
      refine E_R rfl (fun _ _ => rfl) (fun _ _ => rfl) ?_
      exact ⟨rfl, rfl⟩
    · refine ni_Min (ls := [ni_aP (t + 1), ni_aI ((f : Int)), ni_aI ((o : Int)), ni_aI (l), ni_aI (lv), .inl ni_J, .inl ni_J, .inl ni_J]) (fun _ => Nat.le_of_ble_eq_true rfl) (fun _ _ => rfl) ?_
      refine E_Ld (q := 2) rfl rfl (fun _ _ => rfl) ?_
      refine E_push (q := 4) (c := 16) (z := 16) rfl rfl ?_
      refine E_Ic false rfl (zc_le_f ⟨by omega, by omega⟩ ⟨by omega, by omega⟩ (by omega)) ?_
      refine E_push (q := 8) (c := 0) (z := 0) rfl rfl ?_
      refine E_R rfl (fun _ _ => rfl) (fun _ _ => rfl) ?_
      exact ⟨rfl, rfl⟩
  | succ k ih =>
    intro f o l lv hlv hk17 hfo hl
    obtain ⟨vb, Bb, ⟨s, hvb, hBb, hsb⟩, hD1⟩ := mt_behind (xs := xs) (St := St) hs hk hT hfo.1 hfo.2 (l := l) (by omega)
    subst hvb
    rw [hBb] at hD1
    obtain ⟨vf, Bf, ⟨m, hvf, hBf, hsm, hmo, hlo, hhi⟩, hD2⟩ := mt_fwb (xs := xs) (St := St) hs hk hT (f := s) (o := o) (pl := l) (by omega) hfo.2
    subst hvf
    rw [hBf] at hD2
    have hns : f < o → ∀ c : Nat, l = min (c : Int) (A (t + 1) f % 32) → c ≤ 16 → (c < 16 → ((A (t + 1) f / 32).toNat ^^^ (A (t + 1) (o - 1) / 32).toNat) / 2 ^ (15 - c) = 1) → (s = f + 1 ∨ (s = f ∧ s < m ∧ m < o)) := fun h c hlc hc16 hcx => by
      rcases hsb with ⟨q1, q2⟩ | ⟨q1, q2, q3⟩
      · have hpf := nq_pre hT (show (f : Int) < A t 3 by omega)
        have hpl := nq_pre hT (show ((o - 1 : Nat) : Int) < A t 3 by omega)
        have q3 := q2 h
        have hc15 : c < 16 := by omega
        have hlc' : l = c := by omega
        have hle := nq_sorted hT f (o - 1) (by omega) (by omega)
        obtain ⟨fa, hfa⟩ := Int.eq_ofNat_of_zero_le (show 0 ≤ A (t + 1) f / 32 by omega)
        obtain ⟨la, hla⟩ := Int.eq_ofNat_of_zero_le (show 0 ≤ A (t + 1) (o - 1) / 32 by omega)
        have hx := hcx hc15
        rw [hfa, hla, Int.toNat_natCast, Int.toNat_natCast] at hx
        obtain ⟨z1, z2⟩ := nq_bit (show fa ≤ la by omega) hx
        have z1' : A (t + 1) f / 32 / 2 ^ (15 - c) % 2 = 0 := by
          rw [hfa]
          have e3 : ((2 ^ (15 - c) : Nat) : Int) = 2 ^ (15 - c) := by norm_cast
          rw [← e3]
          exact_mod_cast z1
        have z2' : A (t + 1) (o - 1) / 32 / 2 ^ (15 - c) % 2 = 1 := by
          rw [hla]
          have e3 : ((2 ^ (15 - c) : Nat) : Int) = 2 ^ (15 - c) := by norm_cast
          rw [← e3]
          exact_mod_cast z2
        refine Or.inr ⟨q1, ?_, ?_⟩
        · by_cases e : s < m
          · exact e
          · exfalso
            have := hhi (by omega) (15 - c) (by omega) (by omega)
            rw [show m = f by omega] at this
            omega
        · by_cases e : m < o
          · exact e
          · exfalso
            have := hlo (o - 1) (by omega) (by omega) (15 - c) (by omega) (by omega)
            omega
      · exact Or.inl q1
    by_cases ha : s < m
    · by_cases hb : m < o
      · obtain ⟨v1, B1, ⟨c1, hv1, hB1, hc1, hx1⟩, hD3⟩ := mt_nodeLen (xs := xs) (St := St) hs hk hT (f := s) (o := m) (by omega) (by omega)
        subst hv1
        rw [hB1] at hD3
        have hp1 := nq_pre hT (show (s : Int) < A t 3 by omega)
        obtain ⟨l1, hl1⟩ : ∃ l', l' = min (c1 : Int) (A (t + 1) s % 32) := ⟨_, rfl⟩
        rw [← hl1] at hD3
        obtain ⟨n1, d1, ⟨vn1, Bn1, ⟨hvn1, hBn1⟩, hN1⟩, ⟨ve1, Be1, ⟨hve1, hBe1⟩, hE1⟩, hq1, hb1, hr1⟩ := ih s m l1 (lv + 1) (by omega) (by omega) (by omega) (by omega)
        subst hvn1 hve1
        rw [hBn1] at hN1
        rw [hBe1] at hE1
        have hr1 := hr1 (by omega) c1 hl1 hc1 hx1
        obtain ⟨v2, B2, ⟨c2, hv2, hB2, hc2, hx2⟩, hD4⟩ := mt_nodeLen (xs := xs) (St := St) hs hk hT (f := m) (o := o) (by omega) (by omega)
        subst hv2
        rw [hB2] at hD4
        have hp2 := nq_pre hT (show (m : Int) < A t 3 by omega)
        obtain ⟨l2, hl2⟩ : ∃ l', l' = min (c2 : Int) (A (t + 1) m % 32) := ⟨_, rfl⟩
        rw [← hl2] at hD4
        obtain ⟨n2, d2, ⟨vn2, Bn2, ⟨hvn2, hBn2⟩, hN2⟩, ⟨ve2, Be2, ⟨hve2, hBe2⟩, hE2⟩, hq2, hb2, hr2⟩ := ih m o l2 (lv + 1) (by omega) (by omega) (by omega) (by omega)
        subst hvn2 hve2
        rw [hBn2] at hN2
        rw [hBe2] at hE2
        have hr2 := hr2 (by omega) c2 hl2 hc2 hx2
        refine ⟨(1 + n1) + n2, 1 + (max d1 d2), ?_, ?_, by omega, by omega, fun h c hlc hc16 hcx => ?_⟩
        · refine ni_Min (ls := [ni_aP (t + 1), ni_aI ((f : Int)), ni_aI ((o : Int)), ni_aI (l), ni_aI (lv), .inl ni_J, .inl ni_J, .inl ni_J]) (fun _ => Nat.le_of_ble_eq_true rfl) (fun _ _ => rfl) ?_
          refine E_Ld (q := 2) rfl rfl (fun _ _ => rfl) ?_
          refine E_push (q := 4) (c := 16) (z := 16) rfl rfl ?_
          refine E_Ic true rfl (zc_le_t ⟨by omega, by omega⟩ ⟨by omega, by omega⟩ (by omega)) ?_
          refine E_Ld (q := 10) rfl rfl (fun _ _ => rfl) ?_
          refine E_Ld (q := 11) rfl rfl (fun _ _ => rfl) ?_
          refine E_Ld (q := 12) rfl rfl (fun _ _ => rfl) ?_
          refine E_Ld (q := 13) rfl rfl (fun _ _ => rfl) ?_
          refine E_S (q := 16) (w := some (ni_aI ((s : Int)))) rfl (Nat.le_of_ble_eq_true rfl) rfl rfl (Nat.le_of_ble_eq_true rfl) (fun _ _ _ => rfl) (ni_Dup hD1 (by omega)) (fun _ _ => rfl) (fun _ _ => rfl) ?_
          refine E_St (q := 18) (ls' := [ni_aP (t + 1), ni_aI ((f : Int)), ni_aI ((o : Int)), ni_aI (l), ni_aI (lv), ni_aI ((s : Int)), .inl ni_J, .inl ni_J]) rfl (fun _ _ => rfl) (fun _ _ => rfl) ?_
          refine E_Ld (q := 19) rfl rfl (fun _ _ => rfl) ?_
          refine E_Ld (q := 21) rfl rfl (fun _ _ => rfl) ?_
          refine E_Ld (q := 22) rfl rfl (fun _ _ => rfl) ?_
          refine E_Ld (q := 23) rfl rfl (fun _ _ => rfl) ?_
          refine E_S (q := 26) (w := some (ni_aI ((m : Int)))) rfl (Nat.le_of_ble_eq_true rfl) rfl rfl (Nat.le_of_ble_eq_true rfl) (fun _ _ _ => rfl) (ni_Dup hD2 (by omega)) (fun _ _ => rfl) (fun _ _ => rfl) ?_
          refine E_St (q := 28) (ls' := [ni_aP (t + 1), ni_aI ((f : Int)), ni_aI ((o : Int)), ni_aI (l), ni_aI (lv), ni_aI ((s : Int)), ni_aI ((m : Int)), .inl ni_J]) rfl (fun _ _ => rfl) (fun _ _ => rfl) ?_
          refine E_push (q := 29) (c := 1) (z := 1) rfl rfl ?_
          refine E_St (q := 31) (ls' := [ni_aP (t + 1), ni_aI ((f : Int)), ni_aI ((o : Int)), ni_aI (l), ni_aI (lv), ni_aI ((s : Int)), ni_aI ((m : Int)), ni_aI (1)]) rfl (fun _ _ => rfl) (fun _ _ => rfl) ?_
          refine E_Ld (q := 33) rfl rfl (fun _ _ => rfl) ?_
          refine E_Ld (q := 35) rfl rfl (fun _ _ => rfl) ?_
          refine E_Ic false rfl (zc_ge_f ⟨by omega, by omega⟩ ⟨by omega, by omega⟩ (by omega)) ?_
          refine E_Ld (q := 40) rfl rfl (fun _ _ => rfl) ?_
          refine E_Ld (q := 41) rfl rfl (fun _ _ => rfl) ?_
          refine E_Ld (q := 43) rfl rfl (fun _ _ => rfl) ?_
          refine E_Ld (q := 45) rfl rfl (fun _ _ => rfl) ?_
          refine E_Ld (q := 46) rfl rfl (fun _ _ => rfl) ?_
          refine E_Ld (q := 48) rfl rfl (fun _ _ => rfl) ?_
          refine E_Ld (q := 50) rfl rfl (fun _ _ => rfl) ?_
          refine E_S (q := 53) (w := some (ni_aI (l1))) rfl (Nat.le_of_ble_eq_true rfl) rfl rfl (Nat.le_of_ble_eq_true rfl) (fun _ _ _ => rfl) (ni_Dup hD3 (by omega)) (fun _ _ => rfl) (fun _ _ => rfl) ?_
          refine E_Ld (q := 55) rfl rfl (fun _ _ => rfl) ?_
          refine E_push (q := 56) (c := 1) (z := 1) rfl rfl ?_
          refine E_add (q := 57) rfl ?_
          refine E_S (q := 60) (w := some (ni_aI (n1))) rfl (Nat.le_of_ble_eq_true rfl) rfl rfl (Nat.le_of_ble_eq_true rfl) (fun _ _ _ => rfl) (hN1) (fun _ _ => rfl) (fun _ _ => rfl) ?_
          refine E_add (q := 61) rfl ?_
          refine E_St (q := 63) (ls' := [ni_aP (t + 1), ni_aI ((f : Int)), ni_aI ((o : Int)), ni_aI (l), ni_aI (lv), ni_aI ((s : Int)), ni_aI ((m : Int)), ni_aI (1 + n1)]) rfl (fun _ _ => rfl) (fun _ _ => rfl) ?_
          refine E_Ld (q := 65) rfl rfl (fun _ _ => rfl) ?_
          refine E_Ld (q := 66) rfl rfl (fun _ _ => rfl) ?_
          refine E_Ic false rfl (zc_ge_f ⟨by omega, by omega⟩ ⟨by omega, by omega⟩ (by omega)) ?_
          refine E_Ld (q := 71) rfl rfl (fun _ _ => rfl) ?_
          refine E_Ld (q := 72) rfl rfl (fun _ _ => rfl) ?_
          refine E_Ld (q := 74) rfl rfl (fun _ _ => rfl) ?_
          refine E_Ld (q := 75) rfl rfl (fun _ _ => rfl) ?_
          refine E_Ld (q := 76) rfl rfl (fun _ _ => rfl) ?_
          refine E_Ld (q := 78) rfl rfl (fun _ _ => rfl) ?_
          refine E_Ld (q := 79) rfl rfl (fun _ _ => rfl) ?_
          refine E_S (q := 82) (w := some (ni_aI (l2))) rfl (Nat.le_of_ble_eq_true rfl) rfl rfl (Nat.le_of_ble_eq_true rfl) (fun _ _ _ => rfl) (ni_Dup hD4 (by omega)) (fun _ _ => rfl) (fun _ _ => rfl) ?_
          refine E_Ld (q := 84) rfl rfl (fun _ _ => rfl) ?_
          refine E_push (q := 85) (c := 1) (z := 1) rfl rfl ?_
          refine E_add (q := 86) rfl ?_
          refine E_S (q := 89) (w := some (ni_aI (n2))) rfl (Nat.le_of_ble_eq_true rfl) rfl rfl (Nat.le_of_ble_eq_true rfl) (fun _ _ _ => rfl) (hN2) (fun _ _ => rfl) (fun _ _ => rfl) ?_
          refine E_add (q := 90) rfl ?_
          refine E_St (q := 92) (ls' := [ni_aP (t + 1), ni_aI ((f : Int)), ni_aI ((o : Int)), ni_aI (l), ni_aI (lv), ni_aI ((s : Int)), ni_aI ((m : Int)), ni_aI ((1 + n1) + n2)]) rfl (fun _ _ => rfl) (fun _ _ => rfl) ?_
          refine E_Ld (q := 94) rfl rfl (fun _ _ => rfl) ?_
          refine E_R rfl (fun _ _ => rfl) (fun _ _ => rfl) ?_
          exact ⟨rfl, rfl⟩
        · refine ni_Min (ls := [ni_aP (t + 1), ni_aI ((f : Int)), ni_aI ((o : Int)), ni_aI (l), ni_aI (lv), .inl ni_J, .inl ni_J, .inl ni_J]) (fun _ => Nat.le_of_ble_eq_true rfl) (fun _ _ => rfl) ?_
          refine E_Ld (q := 2) rfl rfl (fun _ _ => rfl) ?_
          refine E_push (q := 4) (c := 16) (z := 16) rfl rfl ?_
          refine E_Ic true rfl (zc_le_t ⟨by omega, by omega⟩ ⟨by omega, by omega⟩ (by omega)) ?_
          refine E_Ld (q := 10) rfl rfl (fun _ _ => rfl) ?_
          refine E_Ld (q := 11) rfl rfl (fun _ _ => rfl) ?_
          refine E_Ld (q := 12) rfl rfl (fun _ _ => rfl) ?_
          refine E_Ld (q := 13) rfl rfl (fun _ _ => rfl) ?_
          refine E_S (q := 16) (w := some (ni_aI ((s : Int)))) rfl (Nat.le_of_ble_eq_true rfl) rfl rfl (Nat.le_of_ble_eq_true rfl) (fun _ _ _ => rfl) (ni_Dup hD1 (by omega)) (fun _ _ => rfl) (fun _ _ => rfl) ?_
          refine E_St (q := 18) (ls' := [ni_aP (t + 1), ni_aI ((f : Int)), ni_aI ((o : Int)), ni_aI (l), ni_aI (lv), ni_aI ((s : Int)), .inl ni_J, .inl ni_J]) rfl (fun _ _ => rfl) (fun _ _ => rfl) ?_
          refine E_Ld (q := 19) rfl rfl (fun _ _ => rfl) ?_
          refine E_Ld (q := 21) rfl rfl (fun _ _ => rfl) ?_
          refine E_Ld (q := 22) rfl rfl (fun _ _ => rfl) ?_
          refine E_Ld (q := 23) rfl rfl (fun _ _ => rfl) ?_
          refine E_S (q := 26) (w := some (ni_aI ((m : Int)))) rfl (Nat.le_of_ble_eq_true rfl) rfl rfl (Nat.le_of_ble_eq_true rfl) (fun _ _ _ => rfl) (ni_Dup hD2 (by omega)) (fun _ _ => rfl) (fun _ _ => rfl) ?_
          refine E_St (q := 28) (ls' := [ni_aP (t + 1), ni_aI ((f : Int)), ni_aI ((o : Int)), ni_aI (l), ni_aI (lv), ni_aI ((s : Int)), ni_aI ((m : Int)), .inl ni_J]) rfl (fun _ _ => rfl) (fun _ _ => rfl) ?_
          refine E_push (q := 29) (c := 0) (z := 0) rfl rfl ?_
          refine E_St (q := 31) (ls' := [ni_aP (t + 1), ni_aI ((f : Int)), ni_aI ((o : Int)), ni_aI (l), ni_aI (lv), ni_aI ((s : Int)), ni_aI ((m : Int)), ni_aI (0)]) rfl (fun _ _ => rfl) (fun _ _ => rfl) ?_
          refine E_Ld (q := 33) rfl rfl (fun _ _ => rfl) ?_
          refine E_Ld (q := 35) rfl rfl (fun _ _ => rfl) ?_
          refine E_Ic false rfl (zc_ge_f ⟨by omega, by omega⟩ ⟨by omega, by omega⟩ (by omega)) ?_
          refine E_Ld (q := 39) rfl rfl (fun _ _ => rfl) ?_
          refine E_Ld (q := 41) rfl rfl (fun _ _ => rfl) ?_
          refine E_Ld (q := 43) rfl rfl (fun _ _ => rfl) ?_
          refine E_Ld (q := 44) rfl rfl (fun _ _ => rfl) ?_
          refine E_Ld (q := 46) rfl rfl (fun _ _ => rfl) ?_
          refine E_Ld (q := 48) rfl rfl (fun _ _ => rfl) ?_
          refine E_S (q := 51) (w := some (ni_aI (l1))) rfl (Nat.le_of_ble_eq_true rfl) rfl rfl (Nat.le_of_ble_eq_true rfl) (fun _ _ _ => rfl) (ni_Dup hD3 (by omega)) (fun _ _ => rfl) (fun _ _ => rfl) ?_
          refine E_Ld (q := 53) rfl rfl (fun _ _ => rfl) ?_
          refine E_push (q := 54) (c := 1) (z := 1) rfl rfl ?_
          refine E_add (q := 55) rfl ?_
          refine E_S (q := 58) (w := some (ni_aI (d1))) rfl (Nat.le_of_ble_eq_true rfl) rfl rfl (Nat.le_of_ble_eq_true rfl) (fun _ _ _ => rfl) (hE1) (fun _ _ => rfl) (fun _ _ => rfl) ?_
          refine E_St (q := 60) (ls' := [ni_aP (t + 1), ni_aI ((f : Int)), ni_aI ((o : Int)), ni_aI (l), ni_aI (lv), ni_aI ((s : Int)), ni_aI ((m : Int)), ni_aI (d1)]) rfl (fun _ _ => rfl) (fun _ _ => rfl) ?_
          refine E_Ld (q := 62) rfl rfl (fun _ _ => rfl) ?_
          refine E_Ld (q := 63) rfl rfl (fun _ _ => rfl) ?_
          refine E_Ic false rfl (zc_ge_f ⟨by omega, by omega⟩ ⟨by omega, by omega⟩ (by omega)) ?_
          refine E_Ld (q := 68) rfl rfl (fun _ _ => rfl) ?_
          refine E_Ld (q := 69) rfl rfl (fun _ _ => rfl) ?_
          refine E_Ld (q := 71) rfl rfl (fun _ _ => rfl) ?_
          refine E_Ld (q := 72) rfl rfl (fun _ _ => rfl) ?_
          refine E_Ld (q := 73) rfl rfl (fun _ _ => rfl) ?_
          refine E_Ld (q := 75) rfl rfl (fun _ _ => rfl) ?_
          refine E_Ld (q := 76) rfl rfl (fun _ _ => rfl) ?_
          refine E_S (q := 79) (w := some (ni_aI (l2))) rfl (Nat.le_of_ble_eq_true rfl) rfl rfl (Nat.le_of_ble_eq_true rfl) (fun _ _ _ => rfl) (ni_Dup hD4 (by omega)) (fun _ _ => rfl) (fun _ _ => rfl) ?_
          refine E_Ld (q := 81) rfl rfl (fun _ _ => rfl) ?_
          refine E_push (q := 82) (c := 1) (z := 1) rfl rfl ?_
          refine E_add (q := 83) rfl ?_
          refine E_S (q := 86) (w := some (ni_aI (d2))) rfl (Nat.le_of_ble_eq_true rfl) rfl rfl (Nat.le_of_ble_eq_true rfl) (fun _ _ _ => rfl) (hE2) (fun _ _ => rfl) (fun _ _ => rfl) ?_
          refine E_IM (q := 89) (c := max d1 d2) rfl (Nat.le_of_ble_eq_true rfl) (zi_max ⟨by omega, by omega⟩ ⟨by omega, by omega⟩) ?_
          refine E_St (q := 91) (ls' := [ni_aP (t + 1), ni_aI ((f : Int)), ni_aI ((o : Int)), ni_aI (l), ni_aI (lv), ni_aI ((s : Int)), ni_aI ((m : Int)), ni_aI (max d1 d2)]) rfl (fun _ _ => rfl) (fun _ _ => rfl) ?_
          refine E_push (q := 92) (c := 1) (z := 1) rfl rfl ?_
          refine E_Ld (q := 94) rfl rfl (fun _ _ => rfl) ?_
          refine E_add (q := 95) rfl ?_
          refine E_R rfl (fun _ _ => rfl) (fun _ _ => rfl) ?_
          exact ⟨rfl, rfl⟩
        · have := hns h c hlc hc16 hcx
          omega
      · obtain ⟨v1, B1, ⟨c1, hv1, hB1, hc1, hx1⟩, hD3⟩ := mt_nodeLen (xs := xs) (St := St) hs hk hT (f := s) (o := m) (by omega) (by omega)
        subst hv1
        rw [hB1] at hD3
        have hp1 := nq_pre hT (show (s : Int) < A t 3 by omega)
        obtain ⟨l1, hl1⟩ : ∃ l', l' = min (c1 : Int) (A (t + 1) s % 32) := ⟨_, rfl⟩
        rw [← hl1] at hD3
        obtain ⟨n1, d1, ⟨vn1, Bn1, ⟨hvn1, hBn1⟩, hN1⟩, ⟨ve1, Be1, ⟨hve1, hBe1⟩, hE1⟩, hq1, hb1, hr1⟩ := ih s m l1 (lv + 1) (by omega) (by omega) (by omega) (by omega)
        subst hvn1 hve1
        rw [hBn1] at hN1
        rw [hBe1] at hE1
        have hr1 := hr1 (by omega) c1 hl1 hc1 hx1
        refine ⟨1 + n1, 1 + d1, ?_, ?_, by omega, by omega, fun h c hlc hc16 hcx => ?_⟩
        · refine ni_Min (ls := [ni_aP (t + 1), ni_aI ((f : Int)), ni_aI ((o : Int)), ni_aI (l), ni_aI (lv), .inl ni_J, .inl ni_J, .inl ni_J]) (fun _ => Nat.le_of_ble_eq_true rfl) (fun _ _ => rfl) ?_
          refine E_Ld (q := 2) rfl rfl (fun _ _ => rfl) ?_
          refine E_push (q := 4) (c := 16) (z := 16) rfl rfl ?_
          refine E_Ic true rfl (zc_le_t ⟨by omega, by omega⟩ ⟨by omega, by omega⟩ (by omega)) ?_
          refine E_Ld (q := 10) rfl rfl (fun _ _ => rfl) ?_
          refine E_Ld (q := 11) rfl rfl (fun _ _ => rfl) ?_
          refine E_Ld (q := 12) rfl rfl (fun _ _ => rfl) ?_
          refine E_Ld (q := 13) rfl rfl (fun _ _ => rfl) ?_
          refine E_S (q := 16) (w := some (ni_aI ((s : Int)))) rfl (Nat.le_of_ble_eq_true rfl) rfl rfl (Nat.le_of_ble_eq_true rfl) (fun _ _ _ => rfl) (ni_Dup hD1 (by omega)) (fun _ _ => rfl) (fun _ _ => rfl) ?_
          refine E_St (q := 18) (ls' := [ni_aP (t + 1), ni_aI ((f : Int)), ni_aI ((o : Int)), ni_aI (l), ni_aI (lv), ni_aI ((s : Int)), .inl ni_J, .inl ni_J]) rfl (fun _ _ => rfl) (fun _ _ => rfl) ?_
          refine E_Ld (q := 19) rfl rfl (fun _ _ => rfl) ?_
          refine E_Ld (q := 21) rfl rfl (fun _ _ => rfl) ?_
          refine E_Ld (q := 22) rfl rfl (fun _ _ => rfl) ?_
          refine E_Ld (q := 23) rfl rfl (fun _ _ => rfl) ?_
          refine E_S (q := 26) (w := some (ni_aI ((m : Int)))) rfl (Nat.le_of_ble_eq_true rfl) rfl rfl (Nat.le_of_ble_eq_true rfl) (fun _ _ _ => rfl) (ni_Dup hD2 (by omega)) (fun _ _ => rfl) (fun _ _ => rfl) ?_
          refine E_St (q := 28) (ls' := [ni_aP (t + 1), ni_aI ((f : Int)), ni_aI ((o : Int)), ni_aI (l), ni_aI (lv), ni_aI ((s : Int)), ni_aI ((m : Int)), .inl ni_J]) rfl (fun _ _ => rfl) (fun _ _ => rfl) ?_
          refine E_push (q := 29) (c := 1) (z := 1) rfl rfl ?_
          refine E_St (q := 31) (ls' := [ni_aP (t + 1), ni_aI ((f : Int)), ni_aI ((o : Int)), ni_aI (l), ni_aI (lv), ni_aI ((s : Int)), ni_aI ((m : Int)), ni_aI (1)]) rfl (fun _ _ => rfl) (fun _ _ => rfl) ?_
          refine E_Ld (q := 33) rfl rfl (fun _ _ => rfl) ?_
          refine E_Ld (q := 35) rfl rfl (fun _ _ => rfl) ?_
          refine E_Ic false rfl (zc_ge_f ⟨by omega, by omega⟩ ⟨by omega, by omega⟩ (by omega)) ?_
          refine E_Ld (q := 40) rfl rfl (fun _ _ => rfl) ?_
          refine E_Ld (q := 41) rfl rfl (fun _ _ => rfl) ?_
          refine E_Ld (q := 43) rfl rfl (fun _ _ => rfl) ?_
          refine E_Ld (q := 45) rfl rfl (fun _ _ => rfl) ?_
          refine E_Ld (q := 46) rfl rfl (fun _ _ => rfl) ?_
          refine E_Ld (q := 48) rfl rfl (fun _ _ => rfl) ?_
          refine E_Ld (q := 50) rfl rfl (fun _ _ => rfl) ?_
          refine E_S (q := 53) (w := some (ni_aI (l1))) rfl (Nat.le_of_ble_eq_true rfl) rfl rfl (Nat.le_of_ble_eq_true rfl) (fun _ _ _ => rfl) (ni_Dup hD3 (by omega)) (fun _ _ => rfl) (fun _ _ => rfl) ?_
          refine E_Ld (q := 55) rfl rfl (fun _ _ => rfl) ?_
          refine E_push (q := 56) (c := 1) (z := 1) rfl rfl ?_
          refine E_add (q := 57) rfl ?_
          refine E_S (q := 60) (w := some (ni_aI (n1))) rfl (Nat.le_of_ble_eq_true rfl) rfl rfl (Nat.le_of_ble_eq_true rfl) (fun _ _ _ => rfl) (hN1) (fun _ _ => rfl) (fun _ _ => rfl) ?_
          refine E_add (q := 61) rfl ?_
          refine E_St (q := 63) (ls' := [ni_aP (t + 1), ni_aI ((f : Int)), ni_aI ((o : Int)), ni_aI (l), ni_aI (lv), ni_aI ((s : Int)), ni_aI ((m : Int)), ni_aI (1 + n1)]) rfl (fun _ _ => rfl) (fun _ _ => rfl) ?_
          refine E_Ld (q := 65) rfl rfl (fun _ _ => rfl) ?_
          refine E_Ld (q := 66) rfl rfl (fun _ _ => rfl) ?_
          refine E_Ic true rfl (zc_ge_t ⟨by omega, by omega⟩ ⟨by omega, by omega⟩ (by omega)) ?_
          refine E_Ld (q := 94) rfl rfl (fun _ _ => rfl) ?_
          refine E_R rfl (fun _ _ => rfl) (fun _ _ => rfl) ?_
          exact ⟨rfl, rfl⟩
        · refine ni_Min (ls := [ni_aP (t + 1), ni_aI ((f : Int)), ni_aI ((o : Int)), ni_aI (l), ni_aI (lv), .inl ni_J, .inl ni_J, .inl ni_J]) (fun _ => Nat.le_of_ble_eq_true rfl) (fun _ _ => rfl) ?_
          refine E_Ld (q := 2) rfl rfl (fun _ _ => rfl) ?_
          refine E_push (q := 4) (c := 16) (z := 16) rfl rfl ?_
          refine E_Ic true rfl (zc_le_t ⟨by omega, by omega⟩ ⟨by omega, by omega⟩ (by omega)) ?_
          refine E_Ld (q := 10) rfl rfl (fun _ _ => rfl) ?_
          refine E_Ld (q := 11) rfl rfl (fun _ _ => rfl) ?_
          refine E_Ld (q := 12) rfl rfl (fun _ _ => rfl) ?_
          refine E_Ld (q := 13) rfl rfl (fun _ _ => rfl) ?_
          refine E_S (q := 16) (w := some (ni_aI ((s : Int)))) rfl (Nat.le_of_ble_eq_true rfl) rfl rfl (Nat.le_of_ble_eq_true rfl) (fun _ _ _ => rfl) (ni_Dup hD1 (by omega)) (fun _ _ => rfl) (fun _ _ => rfl) ?_
          refine E_St (q := 18) (ls' := [ni_aP (t + 1), ni_aI ((f : Int)), ni_aI ((o : Int)), ni_aI (l), ni_aI (lv), ni_aI ((s : Int)), .inl ni_J, .inl ni_J]) rfl (fun _ _ => rfl) (fun _ _ => rfl) ?_
          refine E_Ld (q := 19) rfl rfl (fun _ _ => rfl) ?_
          refine E_Ld (q := 21) rfl rfl (fun _ _ => rfl) ?_
          refine E_Ld (q := 22) rfl rfl (fun _ _ => rfl) ?_
          refine E_Ld (q := 23) rfl rfl (fun _ _ => rfl) ?_
          refine E_S (q := 26) (w := some (ni_aI ((m : Int)))) rfl (Nat.le_of_ble_eq_true rfl) rfl rfl (Nat.le_of_ble_eq_true rfl) (fun _ _ _ => rfl) (ni_Dup hD2 (by omega)) (fun _ _ => rfl) (fun _ _ => rfl) ?_
          refine E_St (q := 28) (ls' := [ni_aP (t + 1), ni_aI ((f : Int)), ni_aI ((o : Int)), ni_aI (l), ni_aI (lv), ni_aI ((s : Int)), ni_aI ((m : Int)), .inl ni_J]) rfl (fun _ _ => rfl) (fun _ _ => rfl) ?_
          refine E_push (q := 29) (c := 0) (z := 0) rfl rfl ?_
          refine E_St (q := 31) (ls' := [ni_aP (t + 1), ni_aI ((f : Int)), ni_aI ((o : Int)), ni_aI (l), ni_aI (lv), ni_aI ((s : Int)), ni_aI ((m : Int)), ni_aI (0)]) rfl (fun _ _ => rfl) (fun _ _ => rfl) ?_
          refine E_Ld (q := 33) rfl rfl (fun _ _ => rfl) ?_
          refine E_Ld (q := 35) rfl rfl (fun _ _ => rfl) ?_
          refine E_Ic false rfl (zc_ge_f ⟨by omega, by omega⟩ ⟨by omega, by omega⟩ (by omega)) ?_
          refine E_Ld (q := 39) rfl rfl (fun _ _ => rfl) ?_
          refine E_Ld (q := 41) rfl rfl (fun _ _ => rfl) ?_
          refine E_Ld (q := 43) rfl rfl (fun _ _ => rfl) ?_
          refine E_Ld (q := 44) rfl rfl (fun _ _ => rfl) ?_
          refine E_Ld (q := 46) rfl rfl (fun _ _ => rfl) ?_
          refine E_Ld (q := 48) rfl rfl (fun _ _ => rfl) ?_
          refine E_S (q := 51) (w := some (ni_aI (l1))) rfl (Nat.le_of_ble_eq_true rfl) rfl rfl (Nat.le_of_ble_eq_true rfl) (fun _ _ _ => rfl) (ni_Dup hD3 (by omega)) (fun _ _ => rfl) (fun _ _ => rfl) ?_
          refine E_Ld (q := 53) rfl rfl (fun _ _ => rfl) ?_
          refine E_push (q := 54) (c := 1) (z := 1) rfl rfl ?_
          refine E_add (q := 55) rfl ?_
          refine E_S (q := 58) (w := some (ni_aI (d1))) rfl (Nat.le_of_ble_eq_true rfl) rfl rfl (Nat.le_of_ble_eq_true rfl) (fun _ _ _ => rfl) (hE1) (fun _ _ => rfl) (fun _ _ => rfl) ?_
          refine E_St (q := 60) (ls' := [ni_aP (t + 1), ni_aI ((f : Int)), ni_aI ((o : Int)), ni_aI (l), ni_aI (lv), ni_aI ((s : Int)), ni_aI ((m : Int)), ni_aI (d1)]) rfl (fun _ _ => rfl) (fun _ _ => rfl) ?_
          refine E_Ld (q := 62) rfl rfl (fun _ _ => rfl) ?_
          refine E_Ld (q := 63) rfl rfl (fun _ _ => rfl) ?_
          refine E_Ic true rfl (zc_ge_t ⟨by omega, by omega⟩ ⟨by omega, by omega⟩ (by omega)) ?_
          refine E_push (q := 92) (c := 1) (z := 1) rfl rfl ?_
          refine E_Ld (q := 94) rfl rfl (fun _ _ => rfl) ?_
          refine E_add (q := 95) rfl ?_
          refine E_R rfl (fun _ _ => rfl) (fun _ _ => rfl) ?_
          exact ⟨rfl, rfl⟩
        · have := hns h c hlc hc16 hcx
          omega
    · by_cases hb : m < o
      · obtain ⟨v2, B2, ⟨c2, hv2, hB2, hc2, hx2⟩, hD4⟩ := mt_nodeLen (xs := xs) (St := St) hs hk hT (f := m) (o := o) (by omega) (by omega)
        subst hv2
        rw [hB2] at hD4
        have hp2 := nq_pre hT (show (m : Int) < A t 3 by omega)
        obtain ⟨l2, hl2⟩ : ∃ l', l' = min (c2 : Int) (A (t + 1) m % 32) := ⟨_, rfl⟩
        rw [← hl2] at hD4
        obtain ⟨n2, d2, ⟨vn2, Bn2, ⟨hvn2, hBn2⟩, hN2⟩, ⟨ve2, Be2, ⟨hve2, hBe2⟩, hE2⟩, hq2, hb2, hr2⟩ := ih m o l2 (lv + 1) (by omega) (by omega) (by omega) (by omega)
        subst hvn2 hve2
        rw [hBn2] at hN2
        rw [hBe2] at hE2
        have hr2 := hr2 (by omega) c2 hl2 hc2 hx2
        refine ⟨1 + n2, 1 + (max 0 d2), ?_, ?_, by omega, by omega, fun h c hlc hc16 hcx => ?_⟩
        · refine ni_Min (ls := [ni_aP (t + 1), ni_aI ((f : Int)), ni_aI ((o : Int)), ni_aI (l), ni_aI (lv), .inl ni_J, .inl ni_J, .inl ni_J]) (fun _ => Nat.le_of_ble_eq_true rfl) (fun _ _ => rfl) ?_
          refine E_Ld (q := 2) rfl rfl (fun _ _ => rfl) ?_
          refine E_push (q := 4) (c := 16) (z := 16) rfl rfl ?_
          refine E_Ic true rfl (zc_le_t ⟨by omega, by omega⟩ ⟨by omega, by omega⟩ (by omega)) ?_
          refine E_Ld (q := 10) rfl rfl (fun _ _ => rfl) ?_
          refine E_Ld (q := 11) rfl rfl (fun _ _ => rfl) ?_
          refine E_Ld (q := 12) rfl rfl (fun _ _ => rfl) ?_
          refine E_Ld (q := 13) rfl rfl (fun _ _ => rfl) ?_
          refine E_S (q := 16) (w := some (ni_aI ((s : Int)))) rfl (Nat.le_of_ble_eq_true rfl) rfl rfl (Nat.le_of_ble_eq_true rfl) (fun _ _ _ => rfl) (ni_Dup hD1 (by omega)) (fun _ _ => rfl) (fun _ _ => rfl) ?_
          refine E_St (q := 18) (ls' := [ni_aP (t + 1), ni_aI ((f : Int)), ni_aI ((o : Int)), ni_aI (l), ni_aI (lv), ni_aI ((s : Int)), .inl ni_J, .inl ni_J]) rfl (fun _ _ => rfl) (fun _ _ => rfl) ?_
          refine E_Ld (q := 19) rfl rfl (fun _ _ => rfl) ?_
          refine E_Ld (q := 21) rfl rfl (fun _ _ => rfl) ?_
          refine E_Ld (q := 22) rfl rfl (fun _ _ => rfl) ?_
          refine E_Ld (q := 23) rfl rfl (fun _ _ => rfl) ?_
          refine E_S (q := 26) (w := some (ni_aI ((m : Int)))) rfl (Nat.le_of_ble_eq_true rfl) rfl rfl (Nat.le_of_ble_eq_true rfl) (fun _ _ _ => rfl) (ni_Dup hD2 (by omega)) (fun _ _ => rfl) (fun _ _ => rfl) ?_
          refine E_St (q := 28) (ls' := [ni_aP (t + 1), ni_aI ((f : Int)), ni_aI ((o : Int)), ni_aI (l), ni_aI (lv), ni_aI ((s : Int)), ni_aI ((m : Int)), .inl ni_J]) rfl (fun _ _ => rfl) (fun _ _ => rfl) ?_
          refine E_push (q := 29) (c := 1) (z := 1) rfl rfl ?_
          refine E_St (q := 31) (ls' := [ni_aP (t + 1), ni_aI ((f : Int)), ni_aI ((o : Int)), ni_aI (l), ni_aI (lv), ni_aI ((s : Int)), ni_aI ((m : Int)), ni_aI (1)]) rfl (fun _ _ => rfl) (fun _ _ => rfl) ?_
          refine E_Ld (q := 33) rfl rfl (fun _ _ => rfl) ?_
          refine E_Ld (q := 35) rfl rfl (fun _ _ => rfl) ?_
          refine E_Ic true rfl (zc_ge_t ⟨by omega, by omega⟩ ⟨by omega, by omega⟩ (by omega)) ?_
          refine E_Ld (q := 65) rfl rfl (fun _ _ => rfl) ?_
          refine E_Ld (q := 66) rfl rfl (fun _ _ => rfl) ?_
          refine E_Ic false rfl (zc_ge_f ⟨by omega, by omega⟩ ⟨by omega, by omega⟩ (by omega)) ?_
          refine E_Ld (q := 71) rfl rfl (fun _ _ => rfl) ?_
          refine E_Ld (q := 72) rfl rfl (fun _ _ => rfl) ?_
          refine E_Ld (q := 74) rfl rfl (fun _ _ => rfl) ?_
          refine E_Ld (q := 75) rfl rfl (fun _ _ => rfl) ?_
          refine E_Ld (q := 76) rfl rfl (fun _ _ => rfl) ?_
          refine E_Ld (q := 78) rfl rfl (fun _ _ => rfl) ?_
          refine E_Ld (q := 79) rfl rfl (fun _ _ => rfl) ?_
          refine E_S (q := 82) (w := some (ni_aI (l2))) rfl (Nat.le_of_ble_eq_true rfl) rfl rfl (Nat.le_of_ble_eq_true rfl) (fun _ _ _ => rfl) (ni_Dup hD4 (by omega)) (fun _ _ => rfl) (fun _ _ => rfl) ?_
          refine E_Ld (q := 84) rfl rfl (fun _ _ => rfl) ?_
          refine E_push (q := 85) (c := 1) (z := 1) rfl rfl ?_
          refine E_add (q := 86) rfl ?_
          refine E_S (q := 89) (w := some (ni_aI (n2))) rfl (Nat.le_of_ble_eq_true rfl) rfl rfl (Nat.le_of_ble_eq_true rfl) (fun _ _ _ => rfl) (hN2) (fun _ _ => rfl) (fun _ _ => rfl) ?_
          refine E_add (q := 90) rfl ?_
          refine E_St (q := 92) (ls' := [ni_aP (t + 1), ni_aI ((f : Int)), ni_aI ((o : Int)), ni_aI (l), ni_aI (lv), ni_aI ((s : Int)), ni_aI ((m : Int)), ni_aI (1 + n2)]) rfl (fun _ _ => rfl) (fun _ _ => rfl) ?_
          refine E_Ld (q := 94) rfl rfl (fun _ _ => rfl) ?_
          refine E_R rfl (fun _ _ => rfl) (fun _ _ => rfl) ?_
          exact ⟨rfl, rfl⟩
        · refine ni_Min (ls := [ni_aP (t + 1), ni_aI ((f : Int)), ni_aI ((o : Int)), ni_aI (l), ni_aI (lv), .inl ni_J, .inl ni_J, .inl ni_J]) (fun _ => Nat.le_of_ble_eq_true rfl) (fun _ _ => rfl) ?_
          refine E_Ld (q := 2) rfl rfl (fun _ _ => rfl) ?_
          refine E_push (q := 4) (c := 16) (z := 16) rfl rfl ?_
          refine E_Ic true rfl (zc_le_t ⟨by omega, by omega⟩ ⟨by omega, by omega⟩ (by omega)) ?_
          refine E_Ld (q := 10) rfl rfl (fun _ _ => rfl) ?_
          refine E_Ld (q := 11) rfl rfl (fun _ _ => rfl) ?_
          refine E_Ld (q := 12) rfl rfl (fun _ _ => rfl) ?_
          refine E_Ld (q := 13) rfl rfl (fun _ _ => rfl) ?_
          refine E_S (q := 16) (w := some (ni_aI ((s : Int)))) rfl (Nat.le_of_ble_eq_true rfl) rfl rfl (Nat.le_of_ble_eq_true rfl) (fun _ _ _ => rfl) (ni_Dup hD1 (by omega)) (fun _ _ => rfl) (fun _ _ => rfl) ?_
          refine E_St (q := 18) (ls' := [ni_aP (t + 1), ni_aI ((f : Int)), ni_aI ((o : Int)), ni_aI (l), ni_aI (lv), ni_aI ((s : Int)), .inl ni_J, .inl ni_J]) rfl (fun _ _ => rfl) (fun _ _ => rfl) ?_
          refine E_Ld (q := 19) rfl rfl (fun _ _ => rfl) ?_
          refine E_Ld (q := 21) rfl rfl (fun _ _ => rfl) ?_
          refine E_Ld (q := 22) rfl rfl (fun _ _ => rfl) ?_
          refine E_Ld (q := 23) rfl rfl (fun _ _ => rfl) ?_
          refine E_S (q := 26) (w := some (ni_aI ((m : Int)))) rfl (Nat.le_of_ble_eq_true rfl) rfl rfl (Nat.le_of_ble_eq_true rfl) (fun _ _ _ => rfl) (ni_Dup hD2 (by omega)) (fun _ _ => rfl) (fun _ _ => rfl) ?_
          refine E_St (q := 28) (ls' := [ni_aP (t + 1), ni_aI ((f : Int)), ni_aI ((o : Int)), ni_aI (l), ni_aI (lv), ni_aI ((s : Int)), ni_aI ((m : Int)), .inl ni_J]) rfl (fun _ _ => rfl) (fun _ _ => rfl) ?_
          refine E_push (q := 29) (c := 0) (z := 0) rfl rfl ?_
          refine E_St (q := 31) (ls' := [ni_aP (t + 1), ni_aI ((f : Int)), ni_aI ((o : Int)), ni_aI (l), ni_aI (lv), ni_aI ((s : Int)), ni_aI ((m : Int)), ni_aI (0)]) rfl (fun _ _ => rfl) (fun _ _ => rfl) ?_
          refine E_Ld (q := 33) rfl rfl (fun _ _ => rfl) ?_
          refine E_Ld (q := 35) rfl rfl (fun _ _ => rfl) ?_
          refine E_Ic true rfl (zc_ge_t ⟨by omega, by omega⟩ ⟨by omega, by omega⟩ (by omega)) ?_
          refine E_Ld (q := 62) rfl rfl (fun _ _ => rfl) ?_
          refine E_Ld (q := 63) rfl rfl (fun _ _ => rfl) ?_
          refine E_Ic false rfl (zc_ge_f ⟨by omega, by omega⟩ ⟨by omega, by omega⟩ (by omega)) ?_
          refine E_Ld (q := 68) rfl rfl (fun _ _ => rfl) ?_
          refine E_Ld (q := 69) rfl rfl (fun _ _ => rfl) ?_
          refine E_Ld (q := 71) rfl rfl (fun _ _ => rfl) ?_
          refine E_Ld (q := 72) rfl rfl (fun _ _ => rfl) ?_
          refine E_Ld (q := 73) rfl rfl (fun _ _ => rfl) ?_
          refine E_Ld (q := 75) rfl rfl (fun _ _ => rfl) ?_
          refine E_Ld (q := 76) rfl rfl (fun _ _ => rfl) ?_
          refine E_S (q := 79) (w := some (ni_aI (l2))) rfl (Nat.le_of_ble_eq_true rfl) rfl rfl (Nat.le_of_ble_eq_true rfl) (fun _ _ _ => rfl) (ni_Dup hD4 (by omega)) (fun _ _ => rfl) (fun _ _ => rfl) ?_
          refine E_Ld (q := 81) rfl rfl (fun _ _ => rfl) ?_
          refine E_push (q := 82) (c := 1) (z := 1) rfl rfl ?_
          refine E_add (q := 83) rfl ?_
          refine E_S (q := 86) (w := some (ni_aI (d2))) rfl (Nat.le_of_ble_eq_true rfl) rfl rfl (Nat.le_of_ble_eq_true rfl) (fun _ _ _ => rfl) (hE2) (fun _ _ => rfl) (fun _ _ => rfl) ?_
          refine E_IM (q := 89) (c := max 0 d2) rfl (Nat.le_of_ble_eq_true rfl) (zi_max ⟨by omega, by omega⟩ ⟨by omega, by omega⟩) ?_
          refine E_St (q := 91) (ls' := [ni_aP (t + 1), ni_aI ((f : Int)), ni_aI ((o : Int)), ni_aI (l), ni_aI (lv), ni_aI ((s : Int)), ni_aI ((m : Int)), ni_aI (max 0 d2)]) rfl (fun _ _ => rfl) (fun _ _ => rfl) ?_
          refine E_push (q := 92) (c := 1) (z := 1) rfl rfl ?_
          refine E_Ld (q := 94) rfl rfl (fun _ _ => rfl) ?_
          refine E_add (q := 95) rfl ?_
          refine E_R rfl (fun _ _ => rfl) (fun _ _ => rfl) ?_
          exact ⟨rfl, rfl⟩
        · have := hns h c hlc hc16 hcx
          omega
      · refine ⟨1, 1 + 0, ?_, ?_, by omega, by omega, fun h c hlc hc16 hcx => ?_⟩
        · refine ni_Min (ls := [ni_aP (t + 1), ni_aI ((f : Int)), ni_aI ((o : Int)), ni_aI (l), ni_aI (lv), .inl ni_J, .inl ni_J, .inl ni_J]) (fun _ => Nat.le_of_ble_eq_true rfl) (fun _ _ => rfl) ?_
          refine E_Ld (q := 2) rfl rfl (fun _ _ => rfl) ?_
          refine E_push (q := 4) (c := 16) (z := 16) rfl rfl ?_
          refine E_Ic true rfl (zc_le_t ⟨by omega, by omega⟩ ⟨by omega, by omega⟩ (by omega)) ?_
          refine E_Ld (q := 10) rfl rfl (fun _ _ => rfl) ?_
          refine E_Ld (q := 11) rfl rfl (fun _ _ => rfl) ?_
          refine E_Ld (q := 12) rfl rfl (fun _ _ => rfl) ?_
          refine E_Ld (q := 13) rfl rfl (fun _ _ => rfl) ?_
          refine E_S (q := 16) (w := some (ni_aI ((s : Int)))) rfl (Nat.le_of_ble_eq_true rfl) rfl rfl (Nat.le_of_ble_eq_true rfl) (fun _ _ _ => rfl) (ni_Dup hD1 (by omega)) (fun _ _ => rfl) (fun _ _ => rfl) ?_
          refine E_St (q := 18) (ls' := [ni_aP (t + 1), ni_aI ((f : Int)), ni_aI ((o : Int)), ni_aI (l), ni_aI (lv), ni_aI ((s : Int)), .inl ni_J, .inl ni_J]) rfl (fun _ _ => rfl) (fun _ _ => rfl) ?_
          refine E_Ld (q := 19) rfl rfl (fun _ _ => rfl) ?_
          refine E_Ld (q := 21) rfl rfl (fun _ _ => rfl) ?_
          refine E_Ld (q := 22) rfl rfl (fun _ _ => rfl) ?_
          refine E_Ld (q := 23) rfl rfl (fun _ _ => rfl) ?_
          refine E_S (q := 26) (w := some (ni_aI ((m : Int)))) rfl (Nat.le_of_ble_eq_true rfl) rfl rfl (Nat.le_of_ble_eq_true rfl) (fun _ _ _ => rfl) (ni_Dup hD2 (by omega)) (fun _ _ => rfl) (fun _ _ => rfl) ?_
          refine E_St (q := 28) (ls' := [ni_aP (t + 1), ni_aI ((f : Int)), ni_aI ((o : Int)), ni_aI (l), ni_aI (lv), ni_aI ((s : Int)), ni_aI ((m : Int)), .inl ni_J]) rfl (fun _ _ => rfl) (fun _ _ => rfl) ?_
          refine E_push (q := 29) (c := 1) (z := 1) rfl rfl ?_
          refine E_St (q := 31) (ls' := [ni_aP (t + 1), ni_aI ((f : Int)), ni_aI ((o : Int)), ni_aI (l), ni_aI (lv), ni_aI ((s : Int)), ni_aI ((m : Int)), ni_aI (1)]) rfl (fun _ _ => rfl) (fun _ _ => rfl) ?_
          refine E_Ld (q := 33) rfl rfl (fun _ _ => rfl) ?_
          refine E_Ld (q := 35) rfl rfl (fun _ _ => rfl) ?_
          refine E_Ic true rfl (zc_ge_t ⟨by omega, by omega⟩ ⟨by omega, by omega⟩ (by omega)) ?_
          refine E_Ld (q := 65) rfl rfl (fun _ _ => rfl) ?_
          refine E_Ld (q := 66) rfl rfl (fun _ _ => rfl) ?_
          refine E_Ic true rfl (zc_ge_t ⟨by omega, by omega⟩ ⟨by omega, by omega⟩ (by omega)) ?_
          refine E_Ld (q := 94) rfl rfl (fun _ _ => rfl) ?_
          refine E_R rfl (fun _ _ => rfl) (fun _ _ => rfl) ?_
          exact ⟨rfl, rfl⟩
        · refine ni_Min (ls := [ni_aP (t + 1), ni_aI ((f : Int)), ni_aI ((o : Int)), ni_aI (l), ni_aI (lv), .inl ni_J, .inl ni_J, .inl ni_J]) (fun _ => Nat.le_of_ble_eq_true rfl) (fun _ _ => rfl) ?_
          refine E_Ld (q := 2) rfl rfl (fun _ _ => rfl) ?_
          refine E_push (q := 4) (c := 16) (z := 16) rfl rfl ?_
          refine E_Ic true rfl (zc_le_t ⟨by omega, by omega⟩ ⟨by omega, by omega⟩ (by omega)) ?_
          refine E_Ld (q := 10) rfl rfl (fun _ _ => rfl) ?_
          refine E_Ld (q := 11) rfl rfl (fun _ _ => rfl) ?_
          refine E_Ld (q := 12) rfl rfl (fun _ _ => rfl) ?_
          refine E_Ld (q := 13) rfl rfl (fun _ _ => rfl) ?_
          refine E_S (q := 16) (w := some (ni_aI ((s : Int)))) rfl (Nat.le_of_ble_eq_true rfl) rfl rfl (Nat.le_of_ble_eq_true rfl) (fun _ _ _ => rfl) (ni_Dup hD1 (by omega)) (fun _ _ => rfl) (fun _ _ => rfl) ?_
          refine E_St (q := 18) (ls' := [ni_aP (t + 1), ni_aI ((f : Int)), ni_aI ((o : Int)), ni_aI (l), ni_aI (lv), ni_aI ((s : Int)), .inl ni_J, .inl ni_J]) rfl (fun _ _ => rfl) (fun _ _ => rfl) ?_
          refine E_Ld (q := 19) rfl rfl (fun _ _ => rfl) ?_
          refine E_Ld (q := 21) rfl rfl (fun _ _ => rfl) ?_
          refine E_Ld (q := 22) rfl rfl (fun _ _ => rfl) ?_
          refine E_Ld (q := 23) rfl rfl (fun _ _ => rfl) ?_
          refine E_S (q := 26) (w := some (ni_aI ((m : Int)))) rfl (Nat.le_of_ble_eq_true rfl) rfl rfl (Nat.le_of_ble_eq_true rfl) (fun _ _ _ => rfl) (ni_Dup hD2 (by omega)) (fun _ _ => rfl) (fun _ _ => rfl) ?_
          refine E_St (q := 28) (ls' := [ni_aP (t + 1), ni_aI ((f : Int)), ni_aI ((o : Int)), ni_aI (l), ni_aI (lv), ni_aI ((s : Int)), ni_aI ((m : Int)), .inl ni_J]) rfl (fun _ _ => rfl) (fun _ _ => rfl) ?_
          refine E_push (q := 29) (c := 0) (z := 0) rfl rfl ?_
          refine E_St (q := 31) (ls' := [ni_aP (t + 1), ni_aI ((f : Int)), ni_aI ((o : Int)), ni_aI (l), ni_aI (lv), ni_aI ((s : Int)), ni_aI ((m : Int)), ni_aI (0)]) rfl (fun _ _ => rfl) (fun _ _ => rfl) ?_
          refine E_Ld (q := 33) rfl rfl (fun _ _ => rfl) ?_
          refine E_Ld (q := 35) rfl rfl (fun _ _ => rfl) ?_
          refine E_Ic true rfl (zc_ge_t ⟨by omega, by omega⟩ ⟨by omega, by omega⟩ (by omega)) ?_
          refine E_Ld (q := 62) rfl rfl (fun _ _ => rfl) ?_
          refine E_Ld (q := 63) rfl rfl (fun _ _ => rfl) ?_
          refine E_Ic true rfl (zc_ge_t ⟨by omega, by omega⟩ ⟨by omega, by omega⟩ (by omega)) ?_
          refine E_push (q := 92) (c := 1) (z := 1) rfl rfl ?_
          refine E_Ld (q := 94) rfl rfl (fun _ _ => rfl) ?_
          refine E_add (q := 95) rfl ?_
          refine E_R rfl (fun _ _ => rfl) (fun _ _ => rfl) ?_
          exact ⟨rfl, rfl⟩
        · have := hns h c hlc hc16 hcx
          omega
theorem mt_countT {t : Nat} (hs : ni_us t = true) (hk : ni_kd t = 8) (hT : ni_TS A t) : ∃ n d : Int, ni_M xs St 21 145 [ni_aP t] A (fun v A' => v = some (ni_aI n) ∧ A' = A) ∧ ni_M xs St 21 144 [ni_aP t] A (fun v A' => v = some (ni_aI d) ∧ A' = A) ∧ 0 ≤ d ∧ d ≤ n ∧ 1 ≤ n ∧ n ≤ 2 * A t 3 + 1 := by
  have h374 := (ni_usT hs).1
  have hn := hT.1.1
  obtain ⟨c, hc⟩ := Int.eq_ofNat_of_zero_le hn.1
  obtain ⟨n, d, ⟨v1, B1, ⟨hv1, hB1⟩, hN⟩, ⟨v2, B2, ⟨hv2, hB2⟩, hE⟩, hq, hb, _⟩ := mt_trie (xs := xs) (St := St) hs hk hT 17 0 c 0 0 (by omega) (by omega) ⟨Nat.zero_le _, by omega⟩ (by omega)
  subst hv1 hv2
  rw [hB1] at hN
  rw [hB2] at hE
  refine ⟨n, d, ?_, ?_, hq.1, hq.2.1, by omega, by omega⟩
  · refine ni_Min (ls := [ni_aP (t)]) (fun _ => Nat.le_of_ble_eq_true rfl) (fun _ _ => rfl) ?_
    refine E_Ld (q := 1) rfl rfl (fun _ _ => rfl) ?_
    refine E_Get (q := 4) (v := ni_aP (t + 1)) rfl hs hk rfl rfl (fun _ _ => rfl) ?_
    refine E_push (q := 5) (c := 0) (z := 0) rfl rfl ?_
    refine E_Ld (q := 6) rfl rfl (fun _ _ => rfl) ?_
    refine E_GetI (q := 9) (e := A (t) 3) rfl hs hk rfl rfl (fun _ _ => rfl) ?_
    rw [hc]
    refine E_push (q := 10) (c := 0) (z := 0) rfl rfl ?_
    refine E_push (q := 11) (c := 0) (z := 0) rfl rfl ?_
    refine E_S (q := 14) (w := some (ni_aI (n))) rfl (Nat.le_of_ble_eq_true rfl) rfl rfl (Nat.le_of_ble_eq_true rfl) (fun _ _ _ => rfl) (hN) (fun _ _ => rfl) (fun _ _ => rfl) ?_
    refine E_R rfl (fun _ _ => rfl) (fun _ _ => rfl) ?_
    exact ⟨rfl, rfl⟩
  · refine ni_Min (ls := [ni_aP (t)]) (fun _ => Nat.le_of_ble_eq_true rfl) (fun _ _ => rfl) ?_
    refine E_Ld (q := 1) rfl rfl (fun _ _ => rfl) ?_
    refine E_Get (q := 4) (v := ni_aP (t + 1)) rfl hs hk rfl rfl (fun _ _ => rfl) ?_
    refine E_push (q := 5) (c := 0) (z := 0) rfl rfl ?_
    refine E_Ld (q := 6) rfl rfl (fun _ _ => rfl) ?_
    refine E_GetI (q := 9) (e := A (t) 3) rfl hs hk rfl rfl (fun _ _ => rfl) ?_
    rw [hc]
    refine E_push (q := 10) (c := 0) (z := 0) rfl rfl ?_
    refine E_push (q := 11) (c := 0) (z := 0) rfl rfl ?_
    refine E_S (q := 14) (w := some (ni_aI (d))) rfl (Nat.le_of_ble_eq_true rfl) rfl rfl (Nat.le_of_ble_eq_true rfl) (fun _ _ _ => rfl) (hE) (fun _ _ => rfl) (fun _ _ => rfl) ?_
    refine E_R rfl (fun _ _ => rfl) (fun _ _ => rfl) ?_
    exact ⟨rfl, rfl⟩
end NTS
