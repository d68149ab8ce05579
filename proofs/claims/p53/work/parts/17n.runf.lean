/-! A FLOW IN A TICK -/
section NRF
variable {Z : (Nat → Nat) → Prop} {xs : List Int32} {St : Nat → Option ni_C} {A : Nat → Nat → Int}
theorem mt_dueM {f : Nat} {t : Int} (ht : 0 ≤ t ∧ t ≤ 1000000) (h4 : -1 ≤ A f 4 ∧ A f 4 ≤ 1000000) (h5 : 0 ≤ A f 5 ∧ A f 5 ≤ 1000000) (h6 : 0 ≤ A f 6 ∧ A f 6 ≤ 1000000) (hs : ni_us f = true) (hk : ni_kd f = 0) : ∃ v : Int, ni_Dc xs St 1 54 (fun ad => [.ref (ad f), ni_z t]) A (fun _ => some (ni_z v)) A ∧ (v = -1 ∨ (0 ≤ v ∧ v < A f 6 ∧ 0 ≤ A f 4 ∧ A f 4 + v * A f 5 = t)) := by
  by_cases g1 : A f 4 = -1
  · exact ⟨-1, mt_due0 ht h4 h5 h6 g1 hs hk, Or.inl rfl⟩
  · by_cases g2 : t < A f 4
    · exact ⟨-1, mt_due1 ht h4 h5 h6 g1 g2 hs hk, Or.inl rfl⟩
    · by_cases g3 : A f 5 < 1
      · exact ⟨-1, mt_due2 ht h4 h5 h6 g1 (by omega) g3 hs hk, Or.inl rfl⟩
      · by_cases g4 : (t - A f 4) % (A f 5) = 0
        · by_cases g5 : A f 6 ≤ (t - A f 4) / (A f 5)
          · exact ⟨-1, mt_due4 ht h4 h5 h6 (by omega) (by omega) (by omega) g4 g5 hs hk, Or.inl rfl⟩
          · refine ⟨_, mt_due5 ht h4 h5 h6 (by omega) (by omega) (by omega) g4 (by omega) hs hk, Or.inr ⟨Int.ediv_nonneg (by omega) (by omega), by omega, by omega, ?_⟩⟩
            have e1 := Int.emod_add_mul_ediv (t - A f 4) (A f 5)
            rw [g4, Int.mul_comm] at e1
            omega
        · exact ⟨-1, mt_due3 ht h4 h5 h6 (by omega) (by omega) (by omega) g4 hs hk, Or.inl rfl⟩
theorem mt_pullM {f : Nat} (h : 0 ≤ A f 11 ∧ A f 11 ≤ 10) (h9 : 0 ≤ A f 9 ∧ A f 9 ≤ 1000000) (h2 : 0 ≤ A f 2 ∧ A f 2 ≤ 1000000) (hs : ni_us f = true) (hk : ni_kd f = 0) : ∃ (v : Int) (A2 : Nat → Nat → Int), ni_Dc xs St 1 57 (fun ad => [.ref (ad f)]) A (fun _ => some (ni_z v)) A2 ∧ ((v = -1 ∧ A2 = A) ∨ (0 < A f 11 ∧ A f 2 ≤ A f 9 ∧ v = A (f + 1) 0 ∧ A2 = ni_u2 (ni_sf (ni_u2 A f 9 (A f 9 - A f 2)) (f + 1) 0 (A f 11).toNat) f 11 (A f 11 - 1))) := by
  by_cases g1 : A f 11 = 0
  · exact ⟨-1, A, mt_pull0 g1 hs hk, Or.inl ⟨rfl, rfl⟩⟩
  · by_cases g2 : A f 9 < A f 2
    · exact ⟨-1, A, mt_pull1 h g1 h9 h2 g2 hs hk, Or.inl ⟨rfl, rfl⟩⟩
    · exact ⟨_, _, mt_pull ⟨by omega, h.2⟩ ⟨by omega, h9.2⟩ h2.1 hs hk, Or.inr ⟨by omega, by omega, rfl, rfl⟩⟩
theorem mt_shapedM {f : Nat} (h7 : 0 ≤ A f 7 ∧ A f 7 ≤ 1000000) (hs : ni_us f = true) (hk : ni_kd f = 0) : ∃ b : Int, ni_Dc xs St 1 56 (fun ad => [.ref (ad f)]) A (fun _ => some (ni_z b)) A ∧ (b = 0 ∨ b = 1) := by
  by_cases g : A f 7 ≤ 0
  · exact ⟨0, mt_isShaped0 h7 g hs hk, Or.inl rfl⟩
  · exact ⟨1, mt_isShaped1 h7 (by omega) hs hk, Or.inr rfl⟩
/-- the world of flows and packets -/
def nq_C (A : Nat → Nat → Int) : Prop := ni_LB A ∧ nq_FC A ∧ (0 ≤ A 0 1 ∧ A 0 1 ≤ 8) ∧ ∀ r : Nat, r < 8 → (r : Int) < A 0 1 → ni_TI A (286 + 11 * r + 7)
theorem nq_frH {A A' : Nat → Nat → Int} (h : nq_frP A A') {s j : Nat} (hs : 286 ≤ s ∨ s < 12) : A' s j = A s j := by
  refine h s j (fun f hf _ => ?_) (fun p hp _ => ?_)
  · unfold nq_mF
    omega
  · unfold nq_mP
    unfold ni_po at hp
    omega
theorem nq_Cf {A A' : Nat → Nat → Int} (h : nq_C A) (hc : ni_cs0 A A') (hf : nq_frP A A') : nq_C A' := by
  obtain ⟨h1, h2, h3, h4⟩ := h
  refine ⟨ni_LBf h1 (fun l j hl => hc.2.2.2.2.2 l hl j), nq_FCc h2 hc, by rw [hc.2.1]; exact h3, fun r hr hrc => ?_⟩
  rw [hc.2.1] at hrc
  have := h4 r hr hrc
  unfold ni_TI at this ⊢
  rw [nq_frH hf (Or.inl (by omega))]
  refine ⟨this.1, fun i hi => ?_⟩
  rw [nq_frH hf (Or.inl (by omega)), nq_frH hf (Or.inl (by omega)), nq_frH hf (Or.inl (by omega))]
  exact this.2 i hi
theorem mt_rfL {f r : Nat} {z3 : Int} {lo dl : Nat → Int} {P : Option ni_a → (Nat → Nat → Int) → Prop} (hf : f < 12) (hr8 : r < 8) : ∀ k i : Nat, i + k = 10 → ∀ (A : Nat → Nat → Int) (e : Int), nq_NI A e lo dl → nq_C A → (f : Int) < A 0 3 → A (12 + 3 * f) 0 = r → (r : Int) < A 0 1 → e + 2 * k ≤ 900000 → (∀ A2 : Nat → Nat → Int, ni_cs0 A A2 → nq_frP A A2 → nq_NI A2 (e + 2 * k) lo dl → P none A2) → ni_E xs St Z 5 90 79 [ni_aP (0), ni_aI ((f : Int)), ni_aP (12 + 3 * f), ni_aI (z3), ni_aI ((i : Int))] [] A (ni_live A) P := by
  intro k
  induction k with
  | zero =>
    intro i hi A e hNI hC hfc hr hrc he hP
    refine E_Ld (q := 81) rfl rfl (fun _ _ => rfl) ?_
    refine E_push (q := 83) (c := 10) (z := 10) rfl rfl ?_
    refine E_Ic true rfl (zc_ge_t ⟨by omega, by omega⟩ ⟨by omega, by omega⟩ (by omega)) ?_
    refine E_Rv rfl rfl ?_
    exact hP A nq_csR nq_frPr (nq_NIm hNI (by omega) (fun _ _ => rfl))
  | succ k ih =>
    intro i hi A e hNI hC hfc hr hrc he hP
    have hFI := hNI.2.2.2.1 f hf hfc
    have hFCf := hC.2.1 f hf hfc
    refine E_Ld (q := 81) rfl rfl (fun _ _ => rfl) ?_
    refine E_push (q := 83) (c := 10) (z := 10) rfl rfl ?_
    refine E_Ic false rfl (zc_ge_f ⟨by omega, by omega⟩ ⟨by omega, by omega⟩ (by omega)) ?_
    refine E_Ld (q := 87) rfl rfl (fun _ _ => rfl) ?_
    refine E_Ld (q := 88) rfl rfl (fun _ _ => rfl) ?_
    refine E_GetI (q := 91) (e := A (12 + 3 * f) 0) rfl (ni_flS f hf).1 (ni_flS f hf).2 rfl rfl (fun _ _ => rfl) ?_
    rw [hr]
    refine E_Ld (q := 92) rfl rfl (fun _ _ => rfl) ?_
    obtain ⟨v, A1, hpu, hpc⟩ := mt_pullM (xs := xs) (St := St) (A := A) (f := 12 + 3 * f) hFI.2.1 (by have := hFI.1; omega) (by omega) (ni_flS f hf).1 (ni_flS f hf).2
    have hst : (v = -1 ∨ ni_PK A1 v) ∧ ni_cs0 A A1 ∧ nq_frP A A1 ∧ nq_NI A1 e lo (fun f' => dl f' + ni_is f' v) := by
      rcases hpc with ⟨hv, hA1⟩ | ⟨q1, q2, hv, hA1⟩
      · subst hA1
        exact ⟨Or.inl hv, nq_csR, nq_frPr, nq_NIm hNI (Int.le_refl _) (fun f' hf' => by rw [hv, ni_isN hf']; omega)⟩
      · have hp0 := hFI.2.2.1 0 (by omega)
        rw [← hv] at hp0
        obtain ⟨n1, n2⟩ := nq_pull (dl' := fun f' => dl f' + ni_is f' v) hNI hf hfc (by omega) q1 (fun f' hf' => by rw [nq_isE hp0.2])
        rw [← hA1] at n1 n2
        have hc := nq_csF hf n2
        exact ⟨Or.inr (ni_PKc hp0.1 hc hNI.1.2), hc, nq_frPf hf hfc n2, n1⟩
    obtain ⟨hv, hc1, hf1, hNI1⟩ := hst
    have hC1 := nq_Cf hC hc1 hf1
    refine E_V (q := 95) (w := some (ni_aI (v))) rfl rfl rfl (ni_flS f hf).1 (ni_flS f hf).2 rfl (Nat.le_of_ble_eq_true rfl) (fun _ _ _ => rfl) (ni_Dup hpu (by decide)) (fun _ _ => rfl) (fun _ _ => rfl) ?_
    obtain ⟨v2, A2, ⟨hv2, hc2, hf2, hNI2⟩, hDc⟩ := mt_dealM (xs := xs) (St := St) (dl' := dl) hr8 (hC1.2.2.2 r hr8 (by rw [hc1.2.1]; omega)) hC1.1 hC1.2.1 hNI1 (by omega) hv (fun f' hf' => by omega)
    subst hv2
    refine E_V (q := 98) (w := none) rfl rfl rfl (show ni_us 0 = true by decide +kernel) (show ni_kd 0 = 4 by decide +kernel) rfl (Nat.le_of_ble_eq_true rfl) (fun _ _ _ => rfl) (hDc) (fun _ _ => rfl) (fun _ _ => rfl) ?_
    refine E_Inc (q := 101) (ls' := [ni_aP (0), ni_aI ((f : Int)), ni_aP (12 + 3 * f), ni_aI (z3), ni_aI ((i : Int) + 1)]) (z := 1) rfl rfl rfl (fun _ _ => rfl) ?_
    refine E_Go (q := 79) rfl ?_
    refine ih (i + 1) (by omega) A2 (e + 2) hNI2 (nq_Cf hC1 hc2 hf2) (by rw [hc2.2.2.2.1, hc1.2.2.2.1]; exact hfc) (by rw [hc2.2.2.2.2.1 f hf 0 (by omega), hc1.2.2.2.2.1 f hf 0 (by omega)]; exact hr) (by rw [hc2.2.1, hc1.2.1]; exact hrc) (by omega) (fun A3 e1 e2 e3 => hP A3 (nq_csT (nq_csT hc1 hc2) e1) (nq_frPt (nq_frPt hf1 hc1 hf2) (nq_csT hc1 hc2) e2) (by rw [show e + 2 * ((k + 1 : Nat) : Int) = e + 2 + 2 * (k : Int) by omega]; exact e3))
theorem mt_runF {f : Nat} {e : Int} {lo dl : Nat → Int} (hf : f < 12) (hfc : (f : Int) < A 0 3) (hNI : nq_NI A e lo dl) (hC : nq_C A) (he : e ≤ 800000) : ni_M xs St 6 90 [ni_aP 0, ni_aI (f : Int)] A (nq_DP A (e + 23) lo dl) := by
  have hFI := hNI.2.2.2.1 f hf hfc
  have hFCf := hC.2.1 f hf hfc
  have hrc1 := hC.2.2.1
  obtain ⟨r, hr⟩ := Int.eq_ofNat_of_zero_le hFCf.1.1
  have hr8 : r < 8 := by omega
  have hrc : (r : Int) < A 0 1 := by omega
  refine ni_Min (ls := [ni_aP (0), ni_aI ((f : Int)), .inl ni_J, .inl ni_J, .inl ni_J]) (fun _ => Nat.le_of_ble_eq_true rfl) (fun _ _ => rfl) ?_
  refine E_Ld (q := 1) rfl rfl (fun _ _ => rfl) ?_
  refine E_Get (q := 4) (v := ni_aP 3) rfl (show ni_us 0 = true by decide +kernel) (show ni_kd 0 = 4 by decide +kernel) rfl rfl (fun _ _ => rfl) ?_
  refine E_Ld (q := 5) rfl rfl (fun _ _ => rfl) ?_
  refine E_Qld (q := 6) (j := f) (v := ni_aP (12 + 3 * f)) rfl (show ni_us 3 = true by decide +kernel) (show ni_kd 3 = 103 by decide +kernel) (show ni_ln 3 = 12 by decide +kernel) ⟨by decide, rfl⟩ rfl (by omega) (by decide) (ni_L9 (show ni_us 3 = true by decide +kernel) (by decide +kernel) (by omega)) (fun _ _ => rfl) (fun _ _ => rfl) ?_
  refine E_St (q := 7) (ls' := [ni_aP (0), ni_aI ((f : Int)), ni_aP (12 + 3 * f), .inl ni_J, .inl ni_J]) rfl (fun _ _ => rfl) (fun _ _ => rfl) ?_
  refine E_Ld (q := 8) rfl rfl (fun _ _ => rfl) ?_
  have hD := mt_gain (xs := xs) (St := St) (A := A) (f := 12 + 3 * f) (by omega) (by omega) (by have := hFI.1; omega) (ni_flS f hf).1 (ni_flS f hf).2
  obtain ⟨n1, n2⟩ := nq_gain (x := min (A (12 + 3 * f) 9 + A (12 + 3 * f) 7) (A (12 + 3 * f) 8)) hNI hf (by have := hFI.1; omega)
  generalize hA1 : ni_u2 A (12 + 3 * f) 9 (min (A (12 + 3 * f) 9 + A (12 + 3 * f) 7) (A (12 + 3 * f) 8)) = A1 at hD n1 n2
  have hc1 := nq_csF hf n2
  have hf1 := nq_frPf hf hfc n2
  have hC1 := nq_Cf hC hc1 hf1
  have hfc1 : (f : Int) < A1 0 3 := by rw [hc1.2.2.2.1]; exact hfc
  have hFC1 := hC1.2.1 f hf hfc1
  have ht1 := n1.2.1
  refine E_V (q := 11) (w := none) rfl rfl rfl (ni_flS f hf).1 (ni_flS f hf).2 rfl (Nat.le_of_ble_eq_true rfl) (fun _ _ _ => rfl) (ni_Dup hD (by decide)) (fun _ _ => rfl) (fun _ _ => rfl) ?_
  refine E_Ld (q := 12) rfl rfl (fun _ _ => rfl) ?_
  refine E_Ld (q := 13) rfl rfl (fun _ _ => rfl) ?_
  refine E_GetI (q := 16) (e := A1 (0) 0) rfl (show ni_us 0 = true by decide +kernel) (show ni_kd 0 = 4 by decide +kernel) rfl rfl (fun _ _ => rfl) ?_
  obtain ⟨v, hdu, hv⟩ := mt_dueM (xs := xs) (St := St) (A := A1) (f := 12 + 3 * f) (t := A1 0 0) (by omega) hFC1.2.2.2.1 (by omega) (by omega) (ni_flS f hf).1 (ni_flS f hf).2
  refine E_V (q := 19) (w := some (ni_aI (v))) rfl rfl rfl (ni_flS f hf).1 (ni_flS f hf).2 rfl (Nat.le_of_ble_eq_true rfl) (fun _ _ _ => rfl) (ni_Dup hdu (by decide)) (fun _ _ => rfl) (fun _ _ => rfl) ?_
  refine E_St (q := 20) (ls' := [ni_aP (0), ni_aI ((f : Int)), ni_aP (12 + 3 * f), ni_aI (v), .inl ni_J]) rfl (fun _ _ => rfl) (fun _ _ => rfl) ?_
  refine E_Ld (q := 21) rfl rfl (fun _ _ => rfl) ?_
  refine E_push (q := 22) (c := -1) (z := -1) rfl rfl ?_
  by_cases g22 : v = ((-1))
  · refine E_Ic true rfl (zc_eq_t ⟨by omega, by omega⟩ ⟨by omega, by omega⟩ g22) ?_
    refine E_push (q := 77) (c := 0) (z := 0) rfl rfl ?_
    refine E_St (q := 79) (ls' := [ni_aP (0), ni_aI ((f : Int)), ni_aP (12 + 3 * f), ni_aI (v), ni_aI (0)]) rfl (fun _ _ => rfl) (fun _ _ => rfl) ?_
    refine mt_rfL hf hr8 10 0 (by omega) A1 (e + 3) (nq_NIm n1 (by omega) (fun _ _ => rfl)) hC1 hfc1 (by rw [hc1.2.2.2.2.1 f hf 0 (by omega)]; exact hr) (by rw [hc1.2.1]; exact hrc) (by omega) (fun A2 e1 e2 e3 => ⟨rfl, nq_csT hc1 e1, nq_frPt hf1 hc1 e2, nq_NIm e3 (by omega) (fun _ _ => rfl)⟩)
  · refine E_Ic false rfl (zc_eq_f ⟨by omega, by omega⟩ ⟨by omega, by omega⟩ g22) ?_
    refine E_Ld (q := 26) rfl rfl (fun _ _ => rfl) ?_
    refine E_Ld (q := 27) rfl rfl (fun _ _ => rfl) ?_
    refine E_Ld (q := 28) rfl rfl (fun _ _ => rfl) ?_
    refine E_GetI (q := 31) (e := A1 (12 + 3 * f) 2) rfl (ni_flS f hf).1 (ni_flS f hf).2 rfl rfl (fun _ _ => rfl) ?_
    refine E_Ld (q := 32) rfl rfl (fun _ _ => rfl) ?_
    refine E_GetI (q := 35) (e := A1 (12 + 3 * f) 3) rfl (ni_flS f hf).1 (ni_flS f hf).2 rfl rfl (fun _ _ => rfl) ?_
    have hpk := mt_pkOf (xs := xs) (f := (f : Int)) (n := v) (s := A1 (12 + 3 * f) 2) (c := A1 (12 + 3 * f) 3) (by omega) (by omega) (by omega) (by omega)
    generalize hx : (f : Int) + v * 16 + A1 (12 + 3 * f) 3 * 1024 + A1 (12 + 3 * f) 2 * 4096 + 12 * 2097152 = x at hpk
    have hv3 : 0 ≤ v ∧ v < A1 (12 + 3 * f) 6 ∧ 0 ≤ A1 (12 + 3 * f) 4 ∧ A1 (12 + 3 * f) 4 + v * A1 (12 + 3 * f) 5 = A1 0 0 := hv.resolve_left g22
    have hx16 : x % 16 = f := by omega
    have hxP : ni_PK A1 x := ⟨by omega, by omega, by omega, by omega, by rw [hx16, Int.toNat_natCast]; exact hv3.2.2.1, by rw [hx16, Int.toNat_natCast, show x / 16 % 64 = v by omega]; omega⟩
    refine E_C (q := 38) (w := some (ni_aI (x))) rfl (Nat.le_of_ble_eq_true rfl) rfl rfl (Nat.le_of_ble_eq_true rfl) (ni_PuUp hpk (by decide)) (fun _ _ => rfl) (fun _ _ => rfl) ?_
    refine E_St (q := 40) (ls' := [ni_aP (0), ni_aI ((f : Int)), ni_aP (12 + 3 * f), ni_aI (v), ni_aI (x)]) rfl (fun _ _ => rfl) (fun _ _ => rfl) ?_
    refine E_Ld (q := 41) rfl rfl (fun _ _ => rfl) ?_
    refine E_Dup (q := 42) rfl (fun _ _ => rfl) ?_
    refine E_GetI (q := 45) (e := A1 (12 + 3 * f) 12) rfl (ni_flS f hf).1 (ni_flS f hf).2 rfl rfl (fun _ _ => rfl) ?_
    refine E_push (q := 46) (c := 1) (z := 1) rfl rfl ?_
    refine E_add (q := 47) rfl ?_
    refine E_Put (q := 50) rfl (ni_flS f hf).1 (ni_flS f hf).2 rfl rfl (fun _ _ _ => rfl) rfl rfl ?_
    obtain ⟨n3, n4⟩ := nq_offer (dl' := fun f' => dl f' + if f' = f then 1 else 0) n1 hf hfc1 (fun _ _ => rfl)
    generalize hA3 : ni_u2 A1 (12 + 3 * f) 12 (A1 (12 + 3 * f) 12 + 1) = A3 at n3 n4 ⊢
    have hc3 := nq_csF hf n4
    have hf3 := nq_frPf hf hfc1 n4
    have hC3 := nq_Cf hC1 hc3 hf3
    have hfc3 : (f : Int) < A3 0 3 := by rw [hc3.2.2.2.1]; exact hfc1
    have hFC3 := hC3.2.1 f hf hfc3
    have hFI3 := n3.2.2.2.1 f hf hfc3
    have h311 := hFI3.2.1
    have hxP3 := ni_PKc hxP hc3 n1.1.2
    refine ni_Eh ?_
    refine E_Ld (q := 51) rfl rfl (fun _ _ => rfl) ?_
    obtain ⟨b, hsh, hb⟩ := mt_shapedM (xs := xs) (St := St) (A := A3) (f := 12 + 3 * f) (by omega) (ni_flS f hf).1 (ni_flS f hf).2
    refine E_V (q := 54) (w := some (ni_aI (b))) rfl rfl rfl (ni_flS f hf).1 (ni_flS f hf).2 rfl (Nat.le_of_ble_eq_true rfl) (fun _ _ _ => rfl) (ni_Dup hsh (by decide)) (fun _ _ => rfl) (fun _ _ => rfl) ?_
    by_cases g54 : b = 0
    · refine E_If true rfl (zf_eq_t ⟨by omega, by omega⟩ g54) ?_
      refine E_Ld (q := 67) rfl rfl (fun _ _ => rfl) ?_
      refine E_Ld (q := 68) rfl rfl (fun _ _ => rfl) ?_
      refine E_GetI (q := 71) (e := A3 (12 + 3 * f) 0) rfl (ni_flS f hf).1 (ni_flS f hf).2 rfl rfl (fun _ _ => rfl) ?_
      rw [show A3 (12 + 3 * f) 0 = (r : Int) by rw [hc3.2.2.2.2.1 f hf 0 (by omega), hc1.2.2.2.2.1 f hf 0 (by omega)]; exact hr]
      refine E_Ld (q := 73) rfl rfl (fun _ _ => rfl) ?_
      obtain ⟨v2, A4, ⟨hv2, hc4, hf4, n5⟩, hDc⟩ := mt_dealM (xs := xs) (St := St) (dl' := dl) hr8 (hC3.2.2.2 r hr8 (by rw [hc3.2.1, hc1.2.1]; omega)) hC3.1 hC3.2.1 n3 (by omega) (Or.inr hxP3) (fun f' hf' => by rw [nq_isE hx16]; omega)
      subst hv2
      refine E_V (q := 76) (w := none) rfl rfl rfl (show ni_us 0 = true by decide +kernel) (show ni_kd 0 = 4 by decide +kernel) rfl (Nat.le_of_ble_eq_true rfl) (fun _ _ _ => rfl) (hDc) (fun _ _ => rfl) (fun _ _ => rfl) ?_
      refine E_push (q := 77) (c := 0) (z := 0) rfl rfl ?_
      refine E_St (q := 79) (ls' := [ni_aP (0), ni_aI ((f : Int)), ni_aP (12 + 3 * f), ni_aI (v), ni_aI (0)]) rfl (fun _ _ => rfl) (fun _ _ => rfl) ?_
      have hc14 := nq_csT (nq_csT hc1 hc3) hc4
      have hf14 := nq_frPt (nq_frPt hf1 hc1 hf3) (nq_csT hc1 hc3) hf4
      refine mt_rfL hf hr8 10 0 (by omega) A4 (e + 3) (nq_NIm n5 (by omega) (fun _ _ => rfl)) (nq_Cf hC3 hc4 hf4) (by rw [hc4.2.2.2.1]; exact hfc3) (by rw [hc14.2.2.2.2.1 f hf 0 (by omega)]; exact hr) (by rw [hc14.2.1]; exact hrc) (by omega) (fun A2 e1 e2 e3 => ⟨rfl, nq_csT hc14 e1, nq_frPt hf14 hc14 e2, nq_NIm e3 (by omega) (fun _ _ => rfl)⟩)
    · refine E_If false rfl (zf_eq_f ⟨by omega, by omega⟩ g54) ?_
      refine E_Ld (q := 58) rfl rfl (fun _ _ => rfl) ?_
      refine E_Ld (q := 60) rfl rfl (fun _ _ => rfl) ?_
      by_cases hfull : 10 ≤ A3 (12 + 3 * f) 11
      · have hD4 := mt_pushFull (xs := xs) (St := St) (A := A3) (f := 12 + 3 * f) (x := x) ⟨hfull, by omega⟩ (ni_flS f hf).1 (ni_flS f hf).2
        obtain ⟨n5, n6⟩ := nq_drop (n := 0) (dl' := dl) n3 hf hfc3 (by omega) (fun f' hf' => by split <;> omega)
        generalize hA4 : ni_u2 A3 (12 + 3 * f + 2) 0 (A3 (12 + 3 * f + 2) 0 + 1) = A4 at hD4 n5 n6
        have hc4 := nq_csF hf n6
        have hf4 := nq_frPf hf hfc3 n6
        refine E_V (q := 63) (w := none) rfl rfl rfl (ni_flS f hf).1 (ni_flS f hf).2 rfl (Nat.le_of_ble_eq_true rfl) (fun _ _ _ => rfl) (ni_Dup hD4 (by decide)) (fun _ _ => rfl) (fun _ _ => rfl) ?_
        refine E_Go (q := 76) rfl ?_
        refine E_push (q := 77) (c := 0) (z := 0) rfl rfl ?_
        refine E_St (q := 79) (ls' := [ni_aP (0), ni_aI ((f : Int)), ni_aP (12 + 3 * f), ni_aI (v), ni_aI (0)]) rfl (fun _ _ => rfl) (fun _ _ => rfl) ?_
        have hc14 := nq_csT (nq_csT hc1 hc3) hc4
        have hf14 := nq_frPt (nq_frPt hf1 hc1 hf3) (nq_csT hc1 hc3) hf4
        refine mt_rfL hf hr8 10 0 (by omega) A4 (e + 3) (nq_NIm n5 (by omega) (fun _ _ => rfl)) (nq_Cf hC3 hc4 hf4) (by rw [hc4.2.2.2.1]; exact hfc3) (by rw [hc14.2.2.2.2.1 f hf 0 (by omega)]; exact hr) (by rw [hc14.2.1]; exact hrc) (by omega) (fun A2 e1 e2 e3 => ⟨rfl, nq_csT hc14 e1, nq_frPt hf14 hc14 e2, nq_NIm e3 (by omega) (fun _ _ => rfl)⟩)
      · have hD4 := mt_pushRoom (xs := xs) (St := St) (A := A3) (f := 12 + 3 * f) (x := x) (by omega) (ni_flS f hf).1 (ni_flS f hf).2
        obtain ⟨n5, n6⟩ := nq_push (x := x) (dl' := dl) n3 hf hfc3 hxP3 hx16 (by omega) (fun f' hf' => by split <;> omega)
        generalize hA4 : ni_u2 (ni_u2 A3 (12 + 3 * f + 1) (A3 (12 + 3 * f) 11).toNat x) (12 + 3 * f) 11 (A3 (12 + 3 * f) 11 + 1) = A4 at hD4 n5 n6
        have n5 := nq_NIm (e' := e + 1 + 1) (dl' := dl) n5 (by omega) (fun _ _ => rfl)
        have hc4 := nq_csF hf n6
        have hf4 := nq_frPf hf hfc3 n6
        refine E_V (q := 63) (w := none) rfl rfl rfl (ni_flS f hf).1 (ni_flS f hf).2 rfl (Nat.le_of_ble_eq_true rfl) (fun _ _ _ => rfl) (ni_Dup hD4 (by decide)) (fun _ _ => rfl) (fun _ _ => rfl) ?_
        refine E_Go (q := 76) rfl ?_
        refine E_push (q := 77) (c := 0) (z := 0) rfl rfl ?_
        refine E_St (q := 79) (ls' := [ni_aP (0), ni_aI ((f : Int)), ni_aP (12 + 3 * f), ni_aI (v), ni_aI (0)]) rfl (fun _ _ => rfl) (fun _ _ => rfl) ?_
        have hc14 := nq_csT (nq_csT hc1 hc3) hc4
        have hf14 := nq_frPt (nq_frPt hf1 hc1 hf3) (nq_csT hc1 hc3) hf4
        refine mt_rfL hf hr8 10 0 (by omega) A4 (e + 3) (nq_NIm n5 (by omega) (fun _ _ => rfl)) (nq_Cf hC3 hc4 hf4) (by rw [hc4.2.2.2.1]; exact hfc3) (by rw [hc14.2.2.2.2.1 f hf 0 (by omega)]; exact hr) (by rw [hc14.2.1]; exact hrc) (by omega) (fun A2 e1 e2 e3 => ⟨rfl, nq_csT hc14 e1, nq_frPt hf14 hc14 e2, nq_NIm e3 (by omega) (fun _ _ => rfl)⟩)
end NRF
