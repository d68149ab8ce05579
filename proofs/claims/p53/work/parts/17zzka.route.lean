/-! THE ROUTE, BOUNDED BELOW TOO -/
section NFW
variable {Z : (Nat → Nat) → Prop} {m n0 n1 : Nat} {xs : List Int32} {St : Nat → Option ni_C} {A : Nat → Nat → Int}
theorem mt_foL2 {f n r0 : Nat} {F : Nat → Int} (hf : f < 12) (hn : A 0 1 = n) (hn8 : n ≤ 8) (hLB : ni_LB A) (hLE : nq_LE2 A) (hF : ∀ r : Nat, r < n → ni_Dc xs St 4 83 (fun ad => [.ref (ad 0), ni_z (r : Int), ni_z (f : Int)]) A (fun _ => some (ni_z (F r))) A) (hFr : ∀ r : Nat, r < n → F r = -2 ∨ (-1 ≤ F r ∧ F r < 14)) : ∀ k i : Nat, i + k = 8 → ∀ w4 : Value, (∀ j, j < i → 0 ≤ F (nq_pth A F r0 j)) → (∀ j, j ≤ i → nq_pth A F r0 j < n) → ni_E xs St Z 4 80 12 [ni_aP (0), ni_aI ((f : Int)), ni_aI ((nq_pth A F r0 i : Int)), ni_aI ((i : Int)), .inl w4] [] A (ni_live A) (fun v A' => ∃ x : Int, v = some (ni_aI x) ∧ A' = A ∧ x ≤ A 0 1 ∧ -2 ≤ x) := by
  intro k
  induction k with
  | zero =>
    intro i hi w4 hpos hpn
    refine E_Ld (q := 13) rfl rfl (fun _ _ => rfl) ?_
    refine E_push (q := 15) (c := 8) (z := 8) rfl rfl ?_
    refine E_Ic true rfl (zc_ge_t ⟨by omega, by omega⟩ ⟨by omega, by omega⟩ (by omega)) ?_
    refine E_push (q := 63) (c := -2) (z := -2) rfl rfl ?_
    refine E_R rfl (fun _ _ => rfl) (fun _ _ => rfl) ?_
    exact ⟨-2, rfl, rfl, by omega⟩
  | succ k ih =>
    intro i hi w4 hpos hpn
    have hpi := hpn i (Nat.le_refl _)
    have hFi := hFr _ hpi
    refine E_Ld (q := 13) rfl rfl (fun _ _ => rfl) ?_
    refine E_push (q := 15) (c := 8) (z := 8) rfl rfl ?_
    refine E_Ic false rfl (zc_ge_f ⟨by omega, by omega⟩ ⟨by omega, by omega⟩ (by omega)) ?_
    refine E_Ld (q := 19) rfl rfl (fun _ _ => rfl) ?_
    refine E_Ld (q := 20) rfl rfl (fun _ _ => rfl) ?_
    refine E_Ld (q := 21) rfl rfl (fun _ _ => rfl) ?_
    refine E_V (q := 24) (w := some (ni_aI (F (nq_pth A F r0 i)))) rfl rfl rfl (show ni_us 0 = true by decide +kernel) (show ni_kd 0 = 4 by decide +kernel) rfl (Nat.le_of_ble_eq_true rfl) (fun _ _ _ => rfl) (hF _ hpi) (fun _ _ => rfl) (fun _ _ => rfl) ?_
    refine E_St (q := 26) (ls' := [ni_aP (0), ni_aI ((f : Int)), ni_aI ((nq_pth A F r0 i : Int)), ni_aI ((i : Int)), ni_aI (F (nq_pth A F r0 i))]) rfl (fun _ _ => rfl) (fun _ _ => rfl) ?_
    refine E_Ld (q := 28) rfl rfl (fun _ _ => rfl) ?_
    refine E_push (q := 30) (c := -2) (z := -2) rfl rfl ?_
    by_cases g30 : ¬ (F (nq_pth A F r0 i)) = ((-2))
    · refine E_Ic true rfl (zc_ne_t ⟨by omega, by omega⟩ ⟨by omega, by omega⟩ g30) ?_
      refine E_Ld (q := 37) rfl rfl (fun _ _ => rfl) ?_
      refine E_push (q := 38) (c := -1) (z := -1) rfl rfl ?_
      by_cases g38 : ¬ (F (nq_pth A F r0 i)) = ((-1))
      · refine E_Ic true rfl (zc_ne_t ⟨by omega, by omega⟩ ⟨by omega, by omega⟩ g38) ?_
        have hL14 : (F (nq_pth A F r0 i)).toNat < 14 := by omega
        have hB := hLB _ hL14
        have hE := hLE _ hL14
        refine E_Ld (q := 44) rfl rfl (fun _ _ => rfl) ?_
        refine E_Get (q := 47) (v := ni_aP 2) rfl (show ni_us 0 = true by decide +kernel) (show ni_kd 0 = 4 by decide +kernel) rfl rfl (fun _ _ => rfl) ?_
        refine E_Ld (q := 49) rfl rfl (fun _ _ => rfl) ?_
        refine E_Qld (q := 50) (j := (F (nq_pth A F r0 i)).toNat) (v := ni_aP (48 + 17 * (F (nq_pth A F r0 i)).toNat)) rfl (show ni_us 2 = true by decide +kernel) (show ni_kd 2 = 102 by decide +kernel) (show ni_ln 2 = 14 by decide +kernel) ⟨by decide, rfl⟩ (by omega) (by omega) (by decide) (ni_L9 (show ni_us 2 = true by decide +kernel) (by decide +kernel) (by omega)) (fun _ _ => rfl) (fun _ _ => rfl) ?_
        refine E_Ld (q := 51) rfl rfl (fun _ _ => rfl) ?_
        have hot : ni_Dc xs St 1 72 (fun ad => [.ref (ad (48 + 17 * (F (nq_pth A F r0 i)).toNat)), ni_z (nq_pth A F r0 i : Int)]) A (fun _ => some (ni_z (nq_pth A F r0 (i + 1) : Int))) A := by
          by_cases e : (nq_pth A F r0 i : Int) = A (48 + 17 * (F (nq_pth A F r0 i)).toNat) 0
          · have e2 : (nq_pth A F r0 (i + 1) : Int) = A (48 + 17 * (F (nq_pth A F r0 i)).toNat) 1 := by
              show ((nq_nx A F (nq_pth A F r0 i) : Nat) : Int) = _
              unfold nq_nx
              rw [if_pos e]
              omega
            rw [e2]
            exact mt_other1 (by omega) (by omega) (by omega) e (ni_liS _ hL14).1 (ni_liS _ hL14).2
          · have e2 : (nq_pth A F r0 (i + 1) : Int) = A (48 + 17 * (F (nq_pth A F r0 i)).toNat) 0 := by
              show ((nq_nx A F (nq_pth A F r0 i) : Nat) : Int) = _
              unfold nq_nx
              rw [if_neg e]
              omega
            rw [e2]
            exact mt_other0 (by omega) (by omega) (by omega) e (ni_liS _ hL14).1 (ni_liS _ hL14).2
        refine E_V (q := 54) (w := some (ni_aI ((nq_pth A F r0 (i + 1) : Int)))) rfl rfl rfl (ni_liS _ hL14).1 (ni_liS _ hL14).2 rfl (Nat.le_of_ble_eq_true rfl) (fun _ _ _ => rfl) (ni_Dup hot (by decide)) (fun _ _ => rfl) (fun _ _ => rfl) ?_
        refine E_St (q := 55) (ls' := [ni_aP (0), ni_aI ((f : Int)), ni_aI ((nq_pth A F r0 (i + 1) : Int)), ni_aI ((i : Int)), ni_aI (F (nq_pth A F r0 i))]) rfl (fun _ _ => rfl) (fun _ _ => rfl) ?_
        refine E_Inc (q := 58) (ls' := [ni_aP (0), ni_aI ((f : Int)), ni_aI ((nq_pth A F r0 (i + 1) : Int)), ni_aI ((i : Int) + 1), ni_aI (F (nq_pth A F r0 i))]) (z := 1) rfl rfl rfl (fun _ _ => rfl) ?_
        refine E_Go (q := 12) rfl ?_
        refine ih (i + 1) (by omega) _ (fun j hj => ?_) (fun j hj => ?_)
        · by_cases e : j = i
          · rw [e]
            omega
          · exact hpos j (by omega)
        · by_cases e : j = i + 1
          · rw [e]
            show nq_nx A F (nq_pth A F r0 i) < n
            unfold nq_nx
            split <;> omega
          · exact hpn j (by omega)
      · refine E_Ic false rfl (zc_ne_f ⟨by omega, by omega⟩ ⟨by omega, by omega⟩ g38) ?_
        refine E_push (q := 42) (c := -1) (z := -1) rfl rfl ?_
        refine E_R rfl (fun _ _ => rfl) (fun _ _ => rfl) ?_
        exact ⟨-1, rfl, rfl, by omega⟩
    · refine E_Ic false rfl (zc_ne_f ⟨by omega, by omega⟩ ⟨by omega, by omega⟩ g30) ?_
      refine E_Ld (q := 34) rfl rfl (fun _ _ => rfl) ?_
      refine E_R rfl (fun _ _ => rfl) (fun _ _ => rfl) ?_
      have hsh := nq_short (n := n) hpn hpos (by omega)
      exact ⟨i, rfl, rfl, by omega⟩
/-- follow: over no more links than there are routers -/
theorem mt_follow2 {f : Nat} (hf : f < 12) (hfc : (f : Int) < A 0 3) (hC : nq_C A) (hLE : nq_LE2 A) : ni_M xs St 5 80 [ni_aP 0, ni_aI (f : Int)] A (fun v A' => ∃ x : Int, v = some (ni_aI x) ∧ A' = A ∧ x ≤ A 0 1 ∧ -2 ≤ x) := by
  obtain ⟨n, hn⟩ := Int.eq_ofNat_of_zero_le hC.2.2.1.1
  have hrc := hC.2.2.1
  have hFC := hC.2.1 f hf hfc
  obtain ⟨r0, hr⟩ := Int.eq_ofNat_of_zero_le hFC.1.1
  have ht : ∀ r : Nat, ∃ v : Int, r < n → ni_Dc xs St 4 83 (fun ad => [.ref (ad 0), ni_z (r : Int), ni_z (f : Int)]) A (fun _ => some (ni_z v)) A ∧ (v = -2 ∨ (-1 ≤ v ∧ v < 14)) := fun r => by
    by_cases h : r < n
    · obtain ⟨v, h1, h2⟩ := mt_toward (xs := xs) (St := St) (r := r) (f := f) (by omega) hf (hC.2.2.2 r (by omega) (by omega))
      exact ⟨v, fun _ => ⟨h1, h2⟩⟩
    · exact ⟨0, fun z => absurd z h⟩
  obtain ⟨F, hFF⟩ := Classical.axiomOfChoice ht
  have hF := fun r h => (hFF r h).1
  have hFr := fun r h => (hFF r h).2
  have hn8 : n ≤ 8 := by omega
  have hLB := hC.1
  refine ni_Min (ls := [ni_aP (0), ni_aI ((f : Int)), .inl ni_J, .inl ni_J, .inl ni_J]) (fun _ => Nat.le_of_ble_eq_true rfl) (fun _ _ => rfl) ?_
  refine E_Ld (q := 1) rfl rfl (fun _ _ => rfl) ?_
  refine E_Get (q := 4) (v := ni_aP 3) rfl (show ni_us 0 = true by decide +kernel) (show ni_kd 0 = 4 by decide +kernel) rfl rfl (fun _ _ => rfl) ?_
  refine E_Ld (q := 5) rfl rfl (fun _ _ => rfl) ?_
  refine E_Qld (q := 6) (j := f) (v := ni_aP (12 + 3 * f)) rfl (show ni_us 3 = true by decide +kernel) (show ni_kd 3 = 103 by decide +kernel) (show ni_ln 3 = 12 by decide +kernel) ⟨by decide, rfl⟩ rfl (by omega) (by decide) (ni_L9 (show ni_us 3 = true by decide +kernel) (by decide +kernel) (by omega)) (fun _ _ => rfl) (fun _ _ => rfl) ?_
  refine E_GetI (q := 9) (e := A (12 + 3 * f) 0) rfl (ni_flS f hf).1 (ni_flS f hf).2 rfl rfl (fun _ _ => rfl) ?_
  rw [hr]
  refine E_St (q := 10) (ls' := [ni_aP (0), ni_aI ((f : Int)), ni_aI ((r0 : Int)), .inl ni_J, .inl ni_J]) rfl (fun _ _ => rfl) (fun _ _ => rfl) ?_
  refine E_push (q := 11) (c := 0) (z := 0) rfl rfl ?_
  refine E_St (q := 12) (ls' := [ni_aP (0), ni_aI ((f : Int)), ni_aI ((r0 : Int)), ni_aI (0), .inl ni_J]) rfl (fun _ _ => rfl) (fun _ _ => rfl) ?_
  exact mt_foL2 hf hn hn8 hLB hLE hF hFr 8 0 rfl _ (fun j hj => absurd hj (Nat.not_lt_zero j)) (fun j hj => by rw [show j = 0 by omega]; show r0 < n; omega)
theorem fc_route2 (hm : St m = some (9, [.ref n0, .ref n1])) (hZ : ∀ ad, Z ad → ad 0 = n0) {f : Nat} (hf : f < 12) (hfc : (f : Int) < A 0 3) (h3 : A 0 3 ≤ 12) (hC : nq_C A) (hLE : nq_LE2 A) : nf_F xs St Z 25 35 [ni_aL (m), ni_aI ((f : Int))] A (fun v A' => ∃ x : Int, v = some (ni_aI x) ∧ A' = A ∧ x ≤ A 0 1 ∧ -2 ≤ x) := by
  refine nf_Fin (ls := [ni_aL (m), ni_aI ((f : Int))]) (fun _ => Nat.le_of_ble_eq_true rfl) (fun _ _ => rfl) ?_
  refine E_Ld (q := 1) rfl rfl (fun _ _ => rfl) ?_
  refine E_Ld (q := 2) rfl rfl (fun _ _ => rfl) ?_
  obtain ⟨vc1, Ac1, ⟨hvc1, hAc1⟩, hFc1⟩ := nf_Fup (d' := 24) (fc_flow (xs := xs) (A := A) (i := (f : Int)) hm hZ ⟨by omega, hfc⟩ h3) (by decide)
  subst hvc1
  rw [hAc1] at hFc1
  refine E_VT (q := 5) (v := none) rfl rfl rfl hm (Nat.le_of_ble_eq_true rfl) (fun _ _ _ => rfl) (hFc1) (fun _ _ => rfl) (fun _ _ => rfl) ?_
  refine E_Ld (q := 6) rfl rfl (fun _ _ => rfl) ?_
  refine E_GetT (q := 9) rfl hm hZ ?_
  refine E_Ld (q := 10) rfl rfl (fun _ _ => rfl) ?_
  obtain ⟨vf, Af, ⟨x, hvf, hAf, hx⟩, hDf⟩ := mt_follow2 (xs := xs) (St := St) hf hfc hC hLE
  subst hvf
  rw [hAf] at hDf
  refine E_V (q := 13) (w := some (ni_aI (x))) rfl rfl rfl (show ni_us 0 = true by decide +kernel) (show ni_kd 0 = 4 by decide +kernel) rfl (Nat.le_of_ble_eq_true rfl) (fun _ _ _ => rfl) (ni_Dup hDf (by decide)) (fun _ _ => rfl) (fun _ _ => rfl) ?_
  refine E_R rfl (fun _ _ => rfl) (fun _ _ => rfl) ?_
  exact ⟨x, rfl, rfl, hx⟩
end NFW
