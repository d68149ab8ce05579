/-! WHAT THE LAW ASKS IN A STEP -/
section NFS
variable {xs : List Int32} {St : Nat → Option ni_C} {M : ni_H} {A B : Nat → Nat → Int} {own : Nat → Int} {c z t f : Nat} {e : Int}
theorem lz_cmp {x : Int64} : lg_cmp x x = 0 := by
  unfold lg_cmp
  rw [if_neg (show ¬ x > x from fun h => Int64.lt_irrefl h), if_pos rfl]
theorem lz_del (hR : lz_R St M A B c z) (hc : c ≤ 100000) (hI : nq_Inv St own A e) (hH : np_H A B) (hf : f < 12) (hfc : (f : Int) < A 0 3) (ht : 1 ≤ t ∧ t ≤ 60) (he : e ≤ 500000) (hT : A 0 0 ≤ 1000) : wp_C xs 25 15 [.ref 0, ni_z (f : Int), ni_z (t : Int)] M (fun u M' => u = some (ni_z ((nq_it xs St own e A t) (12 + 3 * f) 13)) ∧ lz_R St M' A (nq_it xs St own e A t) c z) := by
  have hm := (lz_m hR).1
  obtain ⟨rw, cp, rw', cp', r1, r2, r3, r4, r5, r6⟩ := hR
  refine wp_mono (fc_deliveredIn (xs := xs) (m := 0) (ad := na_1) (ad' := na_2) hm hI hf hfc ht (by omega) (by omega) hH.1 hH.2 (lz_P r1 r2 r3 r4 hc)) ?_
  rintro u M' ⟨hu, rw3, cp3, rw4, cp4, h1, h2⟩
  exact ⟨hu, lz_K r4 r5 r6 h1 h2⟩
theorem lz_set (hR : lz_R St M A B c z) (hc : c ≤ 100000) (hI : nq_Inv St own A e) (hH : np_H A B) (ht : 1 ≤ t ∧ t ≤ 60) (he : e ≤ 500000) (hT : A 0 0 ≤ 1000) : wp_C xs 25 43 [.ref 0, ni_z (t : Int)] M (fun u M' => ∃ w B', u = some (ni_z w) ∧ np_SQ xs St own e A t w ∧ np_H A B' ∧ lz_R St M' A B' c z) := by
  have hm := (lz_m hR).1
  obtain ⟨rw, cp, rw', cp', r1, r2, r3, r4, r5, r6⟩ := hR
  refine wp_mono (fc_settledIn (xs := xs) (m := 0) (ad := na_1) (ad' := na_2) hm hI ht (by omega) (by omega) hH.1 hH.2 (lz_P r1 r2 r3 r4 hc)) ?_
  rintro u M' ⟨w, B', hu, h3, h4, rw3, cp3, rw4, cp4, h1, h2⟩
  exact ⟨w, B', hu, h3, np_Hb hI hH (by omega) (by omega) h4, lz_K r4 r5 r6 h1 h2⟩
theorem lz_step (hR : lz_R St M A B c z) (hc : c ≤ 100000) (hI : nq_Inv St own A e) (hH : np_H A B) (ht : 1 ≤ t ∧ t ≤ 60) (he : e ≤ 500000) (hT : A 0 0 ≤ 1000) : wp_C xs 25 46 [.ref 0, ni_z (t : Int)] M (fun u M' => u = some (ni_z (A 0 0 + t)) ∧ np_H (nq_it xs St own e A t) B ∧ lz_R St M' (nq_it xs St own e A t) B c z) := by
  have hm := (lz_m hR).1
  obtain ⟨rw, cp, rw', cp', r1, r2, r3, r4, r5, r6⟩ := hR
  refine wp_mono (np_step (xs := xs) (m := 0) (ad := na_1) (ad' := na_2) hm hI hH ht (by omega) (by omega) (lz_P r1 r2 r3 r4 hc)) ?_
  rintro u M' ⟨hu, h3, rw3, cp3, h1, h2⟩
  exact ⟨hu, h3.2, lz_K r4 r5 r6 h1 h2⟩
/-- what is quiet stays quiet -/
theorem lz_qm (hI : nq_Inv St own A e) (he : e ≤ 500000) (hT : A 0 0 ≤ 1000) (ht : t ≤ 60) {i : Nat} (hq : nq_quiet (nq_it xs St own e A i)) : ∀ k : Nat, i + k ≤ t → nq_quiet (nq_it xs St own e A (i + k)) := by
  intro k
  induction k with
  | zero => intro _; exact hq
  | succ k ih =>
    intro hk
    exact (nq_itD (xs := xs) hI (i + k) (by omega) (by omega)).2 (ih (by omega))
/-- letters end as foreseen -/
theorem lz_sq {w : Int} (hI : nq_Inv St own A e) (he : e ≤ 500000) (hT : A 0 0 ≤ 1000) (ht : t ≤ 60) (h : np_SQ xs St own e A t w) : (w = 0 ↔ nq_quiet A) ∧ (0 ≤ w → nq_quiet (nq_it xs St own e A t)) ∧ (w < 0 → ¬ nq_quiet (nq_it xs St own e A t)) ∧ -1 ≤ w ∧ w ≤ t := by
  rcases h with ⟨h1, h2⟩ | ⟨i, hi, hw, hq, hn⟩
  · refine ⟨⟨fun g => by omega, fun g => absurd g (h2 0 (by omega))⟩, fun g => by omega, fun _ => h2 t (Nat.le_refl _), by omega, by omega⟩
  · refine ⟨⟨fun g => ?_, fun g => ?_⟩, fun _ => ?_, fun g => by omega, by omega, by omega⟩
    · have : i = 0 := by omega
      subst this
      exact hq
    · by_cases c : i = 0
      · omega
      · exact absurd g (hn 0 (by omega))
    · have := lz_qm hI he hT ht hq (t - i) (by omega)
      rw [show i + (t - i) = t by omega] at this
      exact this
/-- whether all is settled -/
theorem lz_stl (hR : lz_R St M A B c z) (hc : c ≤ 100000) (hI : nq_Inv St own A e) : wp_C xs 25 25 [.ref 0] M (fun u M' => (∃ s : Int, u = some (ni_z s) ∧ (s = 0 ∨ s = 1) ∧ (s = 1 ↔ nq_quiet A)) ∧ lz_R St M' A B c z) := by
  have hw := nq_way hI
  obtain ⟨v, A', ⟨hA, hv⟩, hD⟩ := lz_f (c := c) (z := z) (fc_settled (xs := xs) (A := A) (Z := fun a => a 0 = na_1 0) (lz_m hR).1 (fun _ hz => hz) hI.2.2.2.2.2.1 ⟨hw.1.1, by omega⟩) hc
  subst hA
  refine wp_mono (hD B M hR) ?_
  rintro u M' ⟨hu, hR'⟩
  rcases hv with ⟨hv, h0⟩ | ⟨hv, h0⟩
  · exact ⟨⟨1, by rw [hu, hv]; rfl, Or.inr rfl, ⟨fun _ => hw.2.mp h0, fun _ => rfl⟩⟩, hR'⟩
  · exact ⟨⟨0, by rw [hu, hv]; rfl, Or.inl rfl, ⟨fun g => by omega, fun g => absurd (hw.2.mpr g) h0⟩⟩, hR'⟩
/-- the checksum, twice -/
theorem lz_dig (hm : St 0 = some (9, [.ref (na_1 0), .ref (na_2 0)])) (hc : c ≤ 100000) (hI : nq_Inv St own A e) (hLE : nq_LE2 A) : ∃ x : Int64, ∀ (B : Nat → Nat → Int) (M : ni_H), lz_R St M A B c z → wp_C xs 25 16 [.ref 0] M (fun u M' => u = some (.long x) ∧ lz_R St M' A B c z) := by
  have hRK := hI.2.2.2.2.2.2.2.1
  have hRT := hI.2.2.2.2.2.2.2.2.1
  obtain ⟨v, A', ⟨x, hv, hA⟩, hD⟩ := lz_f (c := c) (z := z) (fc_digest (xs := xs) (A := A) (Z := fun a => a 0 = na_1 0) hm (fun _ hz => hz) hI.2.2.2.2.2.1 hI.1.1 hI.2.1 hLE (fun r hr hrc => ⟨ni_RKl (hRK r hr hrc).1, (hRT r hr hrc).2.2.1, (hRT r hr hrc).2.2.2⟩) (fun p hp => ⟨(hI.1.2.2.2.2.1 p hp).2.2.2.2.2.1, fun i hi => ((hI.1.2.2.2.2.1 p hp).2.2.2.2.2.2.1 i hi).1⟩)) hc
  subst hA
  refine ⟨x, fun B M hR => wp_mono (hD B M hR) ?_⟩
  rintro u M' ⟨hu, hR'⟩
  exact ⟨by rw [hu, hv]; rfl, hR'⟩
theorem lz_dlv (hR : lz_R St M A B c z) (hc : c ≤ 100000) (hf : f < 12) (hfc : (f : Int) < A 0 3) (h3 : A 0 3 ≤ 12) : wp_C xs 25 14 [.ref 0, ni_z (f : Int)] M (fun u M' => u = some (ni_z (A (12 + 3 * f) 13)) ∧ lz_R St M' A B c z) := by
  refine wp_mono (lz_q (z := z) (fc_delivered (xs := xs) (A := A) (Z := fun a => a 0 = na_1 0) (lz_m hR).1 (fun _ hz => hz) hf hfc h3) hc hR) ?_
  rintro u M' ⟨v, hv, hu, hR'⟩
  exact ⟨by rw [hu, hv]; rfl, hR'⟩
theorem lz_tim (hR : lz_R St M A B c z) (hc : c ≤ 100000) : wp_C xs 25 47 [.ref 0] M (fun u M' => u = some (ni_z (A 0 0)) ∧ lz_R St M' A B c z) := by
  refine wp_mono (lz_q (z := z) (fc_time (xs := xs) (A := A) (Z := fun a => a 0 = na_1 0) (lz_m hR).1 (fun _ hz => hz)) hc hR) ?_
  rintro u M' ⟨v, hv, hu, hR'⟩
  exact ⟨by rw [hu, hv]; rfl, hR'⟩
theorem lz_snd {lk nf : Nat} {vs : List Value} (hR : lz_R St M A B c z) (hc : c ≤ 100000) (hI : nq_Inv St own A e) (hLE : nq_LE2 A) (he : e ≤ 600000) (hT : A 0 0 ≤ 1000) (hlk : St lk = some (105, vs)) (hlkn : (vs.length : Int) = A 0 2) (hnf : A 0 3 = nf) : wp_C xs 26 155 [.ref 0, .ref lk, ni_z (nf : Int)] M (fun u M' => u = some (ni_z 1) ∧ lz_R St M' A B c z) := by
  refine wp_mono (lz_q (z := z) (fx_sound (xs := xs) (A := A) (Z := fun a => a 0 = na_1 0) (lz_m hR).1 (fun _ hz => hz) hI hLE he hT hlk hlkn hnf) hc hR) ?_
  rintro u M' ⟨v, hv, hu, hR'⟩
  exact ⟨by rw [hu, hv]; rfl, hR'⟩
end NFS
