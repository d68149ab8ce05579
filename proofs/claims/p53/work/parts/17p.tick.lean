/-! A TICK -/
section NTI
variable {Z : (Nat → Nat) → Prop} {xs : List Int32} {St : Nat → Option ni_C} {A : Nat → Nat → Int}
theorem mt_takeLC {own : Nat → Int} {p r : Nat} {li : Int} (hs : ni_us p = true) (hk : ni_kd p = 2) (hp : ni_ln0 p) (hp2 : (p : Int) < 48 + 17 * A 0 2) (hr : r < 8) (hli : 0 ≤ li ∧ li ≤ 100) (hLB : ni_LB A) (hLV : ni_LV A) (ht : 0 ≤ A 0 0 ∧ A 0 0 ≤ 900000) (hlc : 0 ≤ A 0 2 ∧ A 0 2 ≤ 14) (hrc : (r : Int) < A 0 1) (hown : own r = ni_lno St (A (286 + 11 * r + 4) r).toNat) (hLA : ni_LA St own A) (hRK : ni_RK St own A (286 + 11 * r)) : ni_M xs St 6 92 [ni_aP 0, ni_aI li, ni_aP p, ni_aI (r : Int)] A (fun v A' => v = none ∧ ni_fr3 A A' (286 + 11 * r) ∧ ni_LA St own A' ∧ ni_RK St own A' (286 + 11 * r) ∧ A' (286 + 11 * r + 4) r = A (286 + 11 * r + 4) r ∧ (A' (286 + 11 * r) 5 = A (286 + 11 * r) 5 ∨ A' (286 + 11 * r) 5 = 1) ∧ (∀ q, ni_ln0 q → 48 + 17 * A 0 2 ≤ q → A' q 2 = A q 2) ∧ (A p 2 = 0 → A' = A)) := by
  by_cases h0 : A p 2 = 0
  · refine ni_Mmono (mt_takeL0 (li := li) hs hk hp hr ht hLA h0) (fun v A' h => ?_)
    obtain ⟨hv, hA⟩ := h
    subst hA
    exact ⟨hv, fun _ _ _ _ _ => rfl, hLA, hRK, rfl, Or.inl rfl, fun _ _ _ => rfl, fun _ => rfl⟩
  · refine ni_Mmono (mt_takeLt hs hk hp hp2 hr hli hLB hLV ht hlc hrc hown hLA hRK) (fun v A' h => ?_)
    obtain ⟨h1, h2, h3, h4, h5, h6, h7⟩ := h
    exact ⟨h1, h2, h3, h4, h5, h6, h7, fun z => absurd z h0⟩
/-- letters come: what holds on the way -/
def nq_fr1 (A0 A : Nat → Nat → Int) : Prop := ∀ s j, ¬ ni_isL s j → (∀ r : Nat, r < 8 → (r : Int) < A0 0 1 → s ≠ 286 + 11 * r + 4 ∧ ¬ (s = 286 + 11 * r ∧ j = 5)) → A s j = A0 s j
def nq_I1 (St : Nat → Option ni_C) (own : Nat → Int) (A0 A : Nat → Nat → Int) : Prop := nq_fr1 A0 A ∧ ni_LA St own A ∧ (∀ r : Nat, r < 8 → (r : Int) < A0 0 1 → ni_RK St own A (286 + 11 * r) ∧ A (286 + 11 * r + 4) r = A0 (286 + 11 * r + 4) r ∧ (A (286 + 11 * r) 5 = A0 (286 + 11 * r) 5 ∨ A (286 + 11 * r) 5 = 1)) ∧ (∀ q, ni_ln0 q → 48 + 17 * A0 0 2 ≤ q → A q 2 = A0 q 2) ∧ ((∀ q, ni_ln0 q → A0 q 2 = 0) → A = A0)
theorem nq_I1s {own : Nat → Int} {A0 A2 : Nat → Nat → Int} {p r : Nat} (h : nq_I1 St own A0 A) (hp : ni_ln0 p) (hr : r < 8) (hrc : (r : Int) < A0 0 1) (h2 : ni_fr3 A A2 (286 + 11 * r)) (h3 : ni_LA St own A2) (h4 : ni_RK St own A2 (286 + 11 * r)) (h5 : A2 (286 + 11 * r + 4) r = A (286 + 11 * r + 4) r) (h6 : A2 (286 + 11 * r) 5 = A (286 + 11 * r) 5 ∨ A2 (286 + 11 * r) 5 = 1) (h7 : ∀ q, ni_ln0 q → 48 + 17 * A 0 2 ≤ q → A2 q 2 = A q 2) (h8 : A p 2 = 0 → A2 = A) : nq_I1 St own A0 A2 := by
  obtain ⟨a1, a2, a3, a4, a5⟩ := h
  have e02 : A 0 2 = A0 0 2 := a1 _ _ (by unfold ni_isL; omega) (fun r hr _ => by omega)
  refine ⟨fun s j g1 g2 => ?_, h3, fun r' hr' hrc' => ?_, fun q hq z => ?_, fun z => ?_⟩
  · rw [h2 s j g1 (g2 r hr hrc).1 (g2 r hr hrc).2]
    exact a1 s j g1 g2
  · by_cases e : r' = r
    · subst e
      obtain ⟨b1, b2, b3⟩ := a3 r' hr' hrc'
      exact ⟨h4, h5.trans b2, h6.elim (fun z => b3.elim (fun y => Or.inl (z.trans y)) (fun y => Or.inr (z.trans y))) Or.inr⟩
    · obtain ⟨b1, b2, b3⟩ := a3 r' hr' hrc'
      have e4 : ∀ o, A2 (286 + 11 * r' + 4) o = A (286 + 11 * r' + 4) o := fun o => h2 _ _ (by unfold ni_isL; omega) (by omega) (by omega)
      refine ⟨fun o ho => ?_, by rw [e4]; exact b2, by rw [h2 _ _ (by unfold ni_isL; omega) (by omega) (by omega)]; exact b3⟩
      rw [e4]
      exact b1 o ho
  · rw [h7 q hq (by rw [e02]; exact z)]
    exact a4 q hq z
  · have := a5 z
    subst this
    exact h8 (z p hp)
def nq_LE (A : Nat → Nat → Int) : Prop := ∀ l : Nat, l < 14 → (l : Int) < A 0 2 → A (48 + 17 * l) 0 < A 0 1 ∧ A (48 + 17 * l) 1 < A 0 1
def nq_LD (A : Nat → Nat → Int) : Prop := ∀ l : Nat, l < 14 → A (48 + 17 * l) 5 ≠ 0 → 1 ≤ A (48 + 17 * l) 4
theorem mt_tk1 {own : Nat → Int} {A0 : Nat → Nat → Int} {P : Option ni_a → (Nat → Nat → Int) → Prop} (hLB : ni_LB A0) (hLV : ni_LV A0) (hLE : nq_LE A0) (ht : 0 ≤ A0 0 0 ∧ A0 0 0 ≤ 900000) (hlc : 0 ≤ A0 0 2 ∧ A0 0 2 ≤ 14) (hown : ∀ r : Nat, r < 8 → (r : Int) < A0 0 1 → own r = ni_lno St (A0 (286 + 11 * r + 4) r).toNat) : ∀ k i : Nat, ((i : Int) + k = A0 0 2) → ∀ A : Nat → Nat → Int, nq_I1 St own A0 A → (∀ A2 : Nat → Nat → Int, nq_I1 St own A0 A2 → ni_E xs St Z 6 96 68 [ni_aP (0), ni_aI ((A0 0 2))] [] A2 (ni_live A2) P) → ni_E xs St Z 6 96 2 [ni_aP (0), ni_aI ((i : Int))] [] A (ni_live A) P := by
  intro k
  induction k with
  | zero =>
    intro i hi A hIA hK
    have fA : ∀ s j, ¬ ni_isL s j → (s < 286 ∨ s > 373) → A s j = A0 s j := fun s j g1 g2 => hIA.1 s j g1 (fun r hr _ => by omega)
    have h02 := fA 0 2 (by unfold ni_isL; omega) (by omega)
    refine E_Ld (q := 3) rfl rfl (fun _ _ => rfl) ?_
    refine E_Ld (q := 4) rfl rfl (fun _ _ => rfl) ?_
    refine E_GetI (q := 7) (e := A (0) 2) rfl (show ni_us 0 = true by decide +kernel) (show ni_kd 0 = 4 by decide +kernel) rfl rfl (fun _ _ => rfl) ?_
    refine E_Ic true rfl (zc_ge_t ⟨by omega, by omega⟩ ⟨by omega, by omega⟩ (by omega)) ?_
    rw [show (i : Int) = A0 0 2 by omega]
    exact hK A hIA
  | succ k ih =>
    intro i hi A hIA hK
    have fA : ∀ s j, ¬ ni_isL s j → (s < 286 ∨ s > 373) → A s j = A0 s j := fun s j g1 g2 => hIA.1 s j g1 (fun r hr _ => by omega)
    have h02 := fA 0 2 (by unfold ni_isL; omega) (by omega)
    have hi14 : i < 14 := by omega
    have hB := hLB i hi14
    obtain ⟨a, ha⟩ := Int.eq_ofNat_of_zero_le hB.1.1
    obtain ⟨b, hb⟩ := Int.eq_ofNat_of_zero_le hB.2.1.1
    have hE := hLE i hi14 (by omega)
    have ha8 : a < 8 := by omega
    have hb8 : b < 8 := by omega
    have hac : (a : Int) < A0 0 1 := by omega
    have hbc : (b : Int) < A0 0 1 := by omega
    refine E_Ld (q := 3) rfl rfl (fun _ _ => rfl) ?_
    refine E_Ld (q := 4) rfl rfl (fun _ _ => rfl) ?_
    refine E_GetI (q := 7) (e := A (0) 2) rfl (show ni_us 0 = true by decide +kernel) (show ni_kd 0 = 4 by decide +kernel) rfl rfl (fun _ _ => rfl) ?_
    refine E_Ic false rfl (zc_ge_f ⟨by omega, by omega⟩ ⟨by omega, by omega⟩ (by omega)) ?_
    refine E_Ld (q := 11) rfl rfl (fun _ _ => rfl) ?_
    refine E_Ld (q := 12) rfl rfl (fun _ _ => rfl) ?_
    refine E_Ld (q := 13) rfl rfl (fun _ _ => rfl) ?_
    refine E_Get (q := 16) (v := ni_aP 2) rfl (show ni_us 0 = true by decide +kernel) (show ni_kd 0 = 4 by decide +kernel) rfl rfl (fun _ _ => rfl) ?_
    refine E_Ld (q := 17) rfl rfl (fun _ _ => rfl) ?_
    refine E_Qld (q := 18) (j := i) (v := ni_aP (48 + 17 * i)) rfl (show ni_us 2 = true by decide +kernel) (show ni_kd 2 = 102 by decide +kernel) (show ni_ln 2 = 14 by decide +kernel) ⟨by decide, rfl⟩ rfl (by omega) (by decide) (ni_L9 (show ni_us 2 = true by decide +kernel) (by decide +kernel) (by omega)) (fun _ _ => rfl) (fun _ _ => rfl) ?_
    refine E_Get (q := 21) (v := ni_aP (48 + 17 * i + 1)) rfl (ni_liS i hi14).1 (ni_liS i hi14).2 rfl rfl (fun _ _ => rfl) ?_
    refine E_Get (q := 24) (v := ni_aP (48 + 17 * i + 1 + 1)) rfl (ni_o3_1 (ni_liS i hi14).1 (ni_liS i hi14).2).1 (ni_o3_1 (ni_liS i hi14).1 (ni_liS i hi14).2).2.1 rfl rfl (fun _ _ => rfl) ?_
    refine E_Ld (q := 25) rfl rfl (fun _ _ => rfl) ?_
    refine E_Get (q := 28) (v := ni_aP 2) rfl (show ni_us 0 = true by decide +kernel) (show ni_kd 0 = 4 by decide +kernel) rfl rfl (fun _ _ => rfl) ?_
    refine E_Ld (q := 29) rfl rfl (fun _ _ => rfl) ?_
    refine E_Qld (q := 30) (j := i) (v := ni_aP (48 + 17 * i)) rfl (show ni_us 2 = true by decide +kernel) (show ni_kd 2 = 102 by decide +kernel) (show ni_ln 2 = 14 by decide +kernel) ⟨by decide, rfl⟩ rfl (by omega) (by decide) (ni_L9 (show ni_us 2 = true by decide +kernel) (by decide +kernel) (by omega)) (fun _ _ => rfl) (fun _ _ => rfl) ?_
    refine E_GetI (q := 33) (e := A (48 + 17 * i) 1) rfl (ni_liS i hi14).1 (ni_liS i hi14).2 rfl rfl (fun _ _ => rfl) ?_
    rw [show A (48 + 17 * i) 1 = (b : Int) by rw [fA _ _ (by unfold ni_isL; omega) (by omega)]; exact hb]
    obtain ⟨hr1, hr2, hr3⟩ := hIA.2.2.1 b hb8 hbc
    obtain ⟨v1, A2, ⟨hv1, t2, t3, t4, t5, t6, t7, t8⟩, hDc1⟩ := mt_takeLC (xs := xs) (St := St) (own := own) (A := A) (p := 48 + 17 * i + 1 + 1) (r := b) (li := (i : Int)) (ni_o5_1 (ni_o3_1 (ni_liS i hi14).1 (ni_liS i hi14).2).1 (ni_o3_1 (ni_liS i hi14).1 (ni_liS i hi14).2).2.1).1 (ni_o5_1 (ni_o3_1 (ni_liS i hi14).1 (ni_liS i hi14).2).1 (ni_o3_1 (ni_liS i hi14).1 (ni_liS i hi14).2).2.1).2.1 (by unfold ni_ln0; omega) (by rw [fA _ _ (by unfold ni_isL; omega) (by omega)]; omega) hb8 (by omega) (ni_LBf hLB (fun l j hl => fA _ _ (by unfold ni_isL; omega) (by omega))) (ni_LVf hLV (fun l j hl => fA _ _ (by unfold ni_isL; omega) (by omega))) (by rw [fA _ _ (by unfold ni_isL; omega) (by omega)]; exact ht) (by rw [fA _ _ (by unfold ni_isL; omega) (by omega)]; exact hlc) (by rw [fA _ _ (by unfold ni_isL; omega) (by omega)]; exact hbc) (by rw [hr2]; exact hown b hb8 hbc) hIA.2.1 hr1
    subst hv1
    have hIA2 : nq_I1 St own A0 A2 := nq_I1s (p := 48 + 17 * i + 1 + 1) hIA (by unfold ni_ln0; omega) hb8 hbc t2 t3 t4 t5 t6 t7 t8
    refine E_V (q := 36) (w := none) rfl rfl rfl (show ni_us 0 = true by decide +kernel) (show ni_kd 0 = 4 by decide +kernel) rfl (Nat.le_of_ble_eq_true rfl) (fun _ _ _ => rfl) (hDc1) (fun _ _ => rfl) (fun _ _ => rfl) ?_
    have fA2 : ∀ s j, ¬ ni_isL s j → (s < 286 ∨ s > 373) → A2 s j = A0 s j := fun s j g1 g2 => hIA2.1 s j g1 (fun r hr _ => by omega)
    refine E_Ld (q := 37) rfl rfl (fun _ _ => rfl) ?_
    refine E_Ld (q := 38) rfl rfl (fun _ _ => rfl) ?_
    refine E_Ld (q := 39) rfl rfl (fun _ _ => rfl) ?_
    refine E_Get (q := 42) (v := ni_aP 2) rfl (show ni_us 0 = true by decide +kernel) (show ni_kd 0 = 4 by decide +kernel) rfl rfl (fun _ _ => rfl) ?_
    refine E_Ld (q := 43) rfl rfl (fun _ _ => rfl) ?_
    refine E_Qld (q := 44) (j := i) (v := ni_aP (48 + 17 * i)) rfl (show ni_us 2 = true by decide +kernel) (show ni_kd 2 = 102 by decide +kernel) (show ni_ln 2 = 14 by decide +kernel) ⟨by decide, rfl⟩ rfl (by omega) (by decide) (ni_L9 (show ni_us 2 = true by decide +kernel) (by decide +kernel) (by omega)) (fun _ _ => rfl) (fun _ _ => rfl) ?_
    refine E_Get (q := 47) (v := ni_aP (48 + 17 * i + 9)) rfl (ni_liS i hi14).1 (ni_liS i hi14).2 rfl rfl (fun _ _ => rfl) ?_
    refine E_Get (q := 50) (v := ni_aP (48 + 17 * i + 9 + 1)) rfl (ni_o3_9 (ni_liS i hi14).1 (ni_liS i hi14).2).1 (ni_o3_9 (ni_liS i hi14).1 (ni_liS i hi14).2).2.1 rfl rfl (fun _ _ => rfl) ?_
    refine E_Ld (q := 51) rfl rfl (fun _ _ => rfl) ?_
    refine E_Get (q := 54) (v := ni_aP 2) rfl (show ni_us 0 = true by decide +kernel) (show ni_kd 0 = 4 by decide +kernel) rfl rfl (fun _ _ => rfl) ?_
    refine E_Ld (q := 55) rfl rfl (fun _ _ => rfl) ?_
    refine E_Qld (q := 56) (j := i) (v := ni_aP (48 + 17 * i)) rfl (show ni_us 2 = true by decide +kernel) (show ni_kd 2 = 102 by decide +kernel) (show ni_ln 2 = 14 by decide +kernel) ⟨by decide, rfl⟩ rfl (by omega) (by decide) (ni_L9 (show ni_us 2 = true by decide +kernel) (by decide +kernel) (by omega)) (fun _ _ => rfl) (fun _ _ => rfl) ?_
    refine E_GetI (q := 59) (e := A2 (48 + 17 * i) 0) rfl (ni_liS i hi14).1 (ni_liS i hi14).2 rfl rfl (fun _ _ => rfl) ?_
    rw [show A2 (48 + 17 * i) 0 = (a : Int) by rw [fA2 _ _ (by unfold ni_isL; omega) (by omega)]; exact ha]
    obtain ⟨hr1, hr2, hr3⟩ := hIA2.2.2.1 a ha8 hac
    obtain ⟨v2, A3, ⟨hv2, t2, t3, t4, t5, t6, t7, t8⟩, hDc2⟩ := mt_takeLC (xs := xs) (St := St) (own := own) (A := A2) (p := 48 + 17 * i + 9 + 1) (r := a) (li := (i : Int)) (ni_o5_1 (ni_o3_9 (ni_liS i hi14).1 (ni_liS i hi14).2).1 (ni_o3_9 (ni_liS i hi14).1 (ni_liS i hi14).2).2.1).1 (ni_o5_1 (ni_o3_9 (ni_liS i hi14).1 (ni_liS i hi14).2).1 (ni_o3_9 (ni_liS i hi14).1 (ni_liS i hi14).2).2.1).2.1 (by unfold ni_ln0; omega) (by rw [fA2 _ _ (by unfold ni_isL; omega) (by omega)]; omega) ha8 (by omega) (ni_LBf hLB (fun l j hl => fA2 _ _ (by unfold ni_isL; omega) (by omega))) (ni_LVf hLV (fun l j hl => fA2 _ _ (by unfold ni_isL; omega) (by omega))) (by rw [fA2 _ _ (by unfold ni_isL; omega) (by omega)]; exact ht) (by rw [fA2 _ _ (by unfold ni_isL; omega) (by omega)]; exact hlc) (by rw [fA2 _ _ (by unfold ni_isL; omega) (by omega)]; exact hac) (by rw [hr2]; exact hown a ha8 hac) hIA2.2.1 hr1
    subst hv2
    have hIA3 : nq_I1 St own A0 A3 := nq_I1s (p := 48 + 17 * i + 9 + 1) hIA2 (by unfold ni_ln0; omega) ha8 hac t2 t3 t4 t5 t6 t7 t8
    refine E_V (q := 62) (w := none) rfl rfl rfl (show ni_us 0 = true by decide +kernel) (show ni_kd 0 = 4 by decide +kernel) rfl (Nat.le_of_ble_eq_true rfl) (fun _ _ _ => rfl) (hDc2) (fun _ _ => rfl) (fun _ _ => rfl) ?_
    have fA3 : ∀ s j, ¬ ni_isL s j → (s < 286 ∨ s > 373) → A3 s j = A0 s j := fun s j g1 g2 => hIA3.1 s j g1 (fun r hr _ => by omega)
    refine E_Inc (q := 65) (ls' := [ni_aP (0), ni_aI ((i : Int) + 1)]) (z := 1) rfl rfl rfl (fun _ _ => rfl) ?_
    refine E_Go (q := 2) rfl ?_
    exact ih (i + 1) (by omega) A3 hIA3 hK
end NTI
