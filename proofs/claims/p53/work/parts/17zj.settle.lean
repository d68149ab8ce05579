/-! WHEN IT WILL HAVE SETTLED -/
section NST
variable {xs : List Int32} {St : Nat → Option ni_C} {A B : Nat → Nat → Int} {m : Nat} {ad ad' : Nat → Nat}
/-- the answer of settledIn -/
def np_SQ (xs : List Int32) (St : Nat → Option ni_C) (own : Nat → Int) (e : Int) (A : Nat → Nat → Int) (k0 : Nat) (w : Int) : Prop := (w = -1 ∧ ∀ j : Nat, j ≤ k0 → ¬ nq_quiet (nq_it xs St own e A j)) ∨ ∃ i : Nat, i ≤ k0 ∧ w = i ∧ nq_quiet (nq_it xs St own e A i) ∧ ∀ j : Nat, j < i → ¬ nq_quiet (nq_it xs St own e A j)
theorem np_SQu {own : Nat → Int} {e : Int} {k0 : Nat} {w w' : Int} (h : np_SQ xs St own e A k0 w) (h' : np_SQ xs St own e A k0 w') : w = w' := by
  rcases h with ⟨h1, h2⟩ | ⟨i, hi, hw, hq, hn⟩ <;> rcases h' with ⟨h1', h2'⟩ | ⟨i', hi', hw', hq', hn'⟩
  · rw [h1, h1']
  · exact absurd hq' (h2 i' hi')
  · exact absurd hq (h2' i hi)
  · have : i = i' := by
      by_cases c : i < i'
      · exact absurd hq (hn' i c)
      · by_cases c2 : i' < i
        · exact absurd hq' (hn i' c2)
        · omega
    rw [hw, hw', this]
def np_B (xs : List Int32) (St : Nat → Option ni_C) (own : Nat → Int) (e : Int) (A B : Nat → Nat → Int) (k0 : Nat) (B' : Nat → Nat → Int) : Prop := B' = B ∨ ∃ i : Nat, i ≤ k0 ∧ B' = nq_it xs St own e A i
/-- how many are on their way, in ahead -/
theorem np_wayA {own : Nat → Int} {e : Int} (h : nq_Inv St own B e) {M : ni_H} {rw cp rw2 cp2 : Nat → Nat} (hP : np_R St M ad rw cp ad' rw2 cp2 A B) : wp_C xs 24 81 [.ref (ad' 0)] M (fun u M' => u = some (ni_z (ni_lw B (B 0 2).toNat)) ∧ ∃ rw3 cp3, np_R St M' ad rw cp ad' rw3 cp3 A B ∧ np_K M ad rw cp ad' rw2 cp2 M' rw cp rw3 cp3) := by
  have g := ni_Dup (mt_way (xs := xs) (St := St) (A := B) h.2.2.2.2.2.1) (show 1 ≤ 24 by decide) M ad' rw2 cp2 hP.2.1
  obtain ⟨u, M', g1, g2, rw3, cp3, g3, g4⟩ := g
  exact ⟨u, M', g1, g2, rw3, cp3, np_sw (np_go (np_sw hP) g3 g4), np_Kr g4⟩
theorem np_setL {own : Nat → Int} {e : Int} (hm : St m = some (9, [.ref (ad 0), .ref (ad' 0)])) (h : nq_Inv St own A e) {k0 : Nat} (hk : k0 ≤ 60) (he : e + 400 * k0 ≤ 600000) (ht : A 0 0 + k0 ≤ 800000) {M0 : ni_H} {rw cp rw' cp' rw1 cp1 : Nat → Nat} : ∀ k i : Nat, i + k = k0 → (∀ j : Nat, j ≤ i → ¬ nq_quiet (nq_it xs St own e A j)) → ∀ M rw2 cp2, np_R St M ad rw1 cp1 ad' rw2 cp2 A (nq_it xs St own e A i) → np_K M0 ad rw cp ad' rw' cp' M rw1 cp1 rw2 cp2 → wp_G xs 24 43 32 [.ref m, ni_z (k0 : Int), ni_z ((i : Int) + 1)] [] M (fun u M' => ∃ w B', u = some (ni_z w) ∧ np_SQ xs St own e A k0 w ∧ np_B xs St own e A B k0 B' ∧ ∃ rw3 cp3 rw4 cp4, np_R St M' ad rw3 cp3 ad' rw4 cp4 A B' ∧ np_K M0 ad rw cp ad' rw' cp' M' rw3 cp3 rw4 cp4) := by
  intro k
  induction k with
  | zero =>
    intro i hi hn M rw2 cp2 hP hK
    refine wp_Ld rfl rfl rfl ?_
    refine wp_Ld rfl rfl rfl ?_
    refine wp_Ic true rfl (zc_gt_t ⟨by omega, by omega⟩ ⟨by omega, by omega⟩ (by omega)) ?_
    refine wp_P (g := ni_gPush (.int (-1)) 63) rfl (wp_push (z := -1) rfl) ?_
    exact wp_R rfl rfl ⟨-1, _, rfl, Or.inl ⟨rfl, fun j hj => hn j (by omega)⟩, Or.inr ⟨i, by omega, rfl⟩, _, _, _, _, hP, hK⟩
  | succ k ih =>
    intro i hi hn M rw2 cp2 hP hK
    refine wp_Ld rfl rfl rfl ?_
    refine wp_Ld rfl rfl rfl ?_
    refine wp_Ic false rfl (zc_gt_f ⟨by omega, by omega⟩ ⟨by omega, by omega⟩ (by omega)) ?_
    refine wp_Ld rfl rfl rfl ?_
    refine wp_Get (v := .ref (ad' 0)) rfl (hP.1.2.2.2.2.1 m _ hm).1 rfl ?_
    obtain ⟨vs, w1, _⟩ := hP.2.1.2.1 0 (show ni_us 0 = true by decide +kernel)
    rw [show ni_pl ad' rw2 0 = ad' 0 from rfl] at w1
    refine wp_V (r := []) (as := []) rfl rfl rfl w1 (Nat.le_of_ble_eq_true rfl) (np_tick h (by omega) (by omega) hP) ?_
    rintro u M2 ⟨hu, rw3, cp3, hP3, hK3⟩
    rw [hu]
    have hI := (nq_itP (xs := xs) h (i + 1) (by omega) (by omega)).1
    have hw := nq_way hI
    refine wp_Ld rfl rfl rfl ?_
    refine wp_Get (v := .ref (ad' 0)) rfl (hP3.1.2.2.2.2.1 m _ hm).1 rfl ?_
    obtain ⟨vs3, w3, _⟩ := hP3.2.1.2.1 0 (show ni_us 0 = true by decide +kernel)
    rw [show ni_pl ad' rw3 0 = ad' 0 from rfl] at w3
    refine wp_V (r := []) (as := []) rfl rfl rfl w3 (Nat.le_of_ble_eq_true rfl) (np_wayA hI hP3) ?_
    rintro u4 M4 ⟨hu4, rw4, cp4, hP4, hK4⟩
    rw [hu4]
    have hK5 := np_KT (np_KT hK hK3) hK4
    by_cases hq : nq_quiet (nq_it xs St own e A (i + 1))
    · have h0 := hw.2.mpr hq
      refine wp_If false rfl (zf_ne_f ⟨by omega, by omega⟩ (by omega)) ?_
      refine wp_Ld rfl rfl rfl ?_
      exact wp_R rfl rfl ⟨(i : Int) + 1, _, rfl, Or.inr ⟨i + 1, by omega, by omega, hq, fun j hj => hn j (by omega)⟩, Or.inr ⟨i + 1, by omega, rfl⟩, _, _, _, _, hP4, hK5⟩
    · have h0 : ¬ ni_lw (nq_it xs St own e A (i + 1)) (nq_it xs St own e A (i + 1) 0 2).toNat = 0 := fun z => hq (hw.2.mp z)
      refine wp_If true rfl (zf_ne_t ⟨by omega, by omega⟩ (by omega)) ?_
      refine wp_Inc (ls' := [.ref m, ni_z (k0 : Int), ni_z ((i : Int) + 1 + 1)]) (x' := (i : Int) + 1 + 1) rfl rfl (zi_inc (z := 1) rfl) rfl ?_
      refine wp_P (g := ni_gGo 32) rfl rfl ?_
      refine ih (i + 1) (by omega) (fun j hj => ?_) M4 rw4 cp4 hP4 hK5
      by_cases c : j ≤ i
      · exact hn j c
      · have : j = i + 1 := by omega
        rw [this]
        exact hq
/-- SETTLEDIN -/
theorem fc_settledIn {own : Nat → Int} {e : Int} (hm : St m = some (9, [.ref (ad 0), .ref (ad' 0)])) (h : nq_Inv St own A e) {k0 : Nat} (hk : 1 ≤ k0 ∧ k0 ≤ 60) (he : e + 400 * k0 ≤ 600000) (ht : A 0 0 + k0 ≤ 800000) (hid : ∀ r : Nat, r < 8 → B (286 + 11 * r) 0 = r) (hdead : ∀ s j, nq_dead A s → B s j = A s j) {M : ni_H} {rw cp rw' cp' : Nat → Nat} (hP : np_R St M ad rw cp ad' rw' cp' A B) : wp_C xs 25 43 [.ref m, ni_z (k0 : Int)] M (fun u M' => ∃ w B', u = some (ni_z w) ∧ np_SQ xs St own e A k0 w ∧ np_B xs St own e A B k0 B' ∧ ∃ rw3 cp3 rw4 cp4, np_R St M' ad rw3 cp3 ad' rw4 cp4 A B' ∧ np_K M ad rw cp ad' rw' cp' M' rw3 cp3 rw4 cp4) := by
  refine wp_enter (Nat.le_of_ble_eq_true rfl) (ls := [.ref m, ni_z (k0 : Int), ni_J]) rfl ?_
  refine wp_Ld rfl rfl rfl ?_
  refine wp_P (g := ni_gPush (.int 1) 2) rfl (wp_push (z := 1) rfl) ?_
  refine wp_P (g := ni_gPush (.int 60) 4) rfl (wp_push (z := 60) rfl) ?_
  refine wp_S (r := []) (as := [ni_z (k0 : Int), ni_z 1, ni_z 60]) rfl (Nat.le_of_ble_eq_true rfl) rfl rfl (Nat.le_of_ble_eq_true rfl) (wp_up (mt_chkR (xs := xs) (i := (k0 : Int)) (a := 1) (b := 60) (by omega) (by omega) M) (by decide)) ?_
  rintro u1 M1' ⟨hu1, hM1⟩
  rw [hu1, hM1]
  refine wp_Ld rfl rfl rfl ?_
  refine wp_Get (v := .ref (ad 0)) rfl (hP.1.2.2.2.2.1 m _ hm).1 rfl ?_
  obtain ⟨vs, w1, _⟩ := hP.1.2.1 0 (show ni_us 0 = true by decide +kernel)
  rw [show ni_pl ad rw 0 = ad 0 from rfl] at w1
  refine wp_V (r := []) (as := []) rfl rfl rfl w1 (Nat.le_of_ble_eq_true rfl) (np_wayA h (np_sw hP)) ?_
  rintro u M1 ⟨hu, rw1, cp1, hP1s, hK1s⟩
  rw [hu]
  have hP1 := np_sw hP1s
  have hK1 : np_K M ad rw cp ad' rw' cp' M1 rw1 cp1 rw' cp' := by
    obtain ⟨k1, k2, k3, k4, k5, k6⟩ := hK1s
    exact ⟨fun b hb g1 g2 => k1 b hb g2 g1, k3, k2, by omega, by omega, k6⟩
  have hw := nq_way h
  by_cases hq : nq_quiet A
  · have h0 := hw.2.mpr hq
    refine wp_If false rfl (zf_ne_f ⟨by omega, by omega⟩ (by omega)) ?_
    refine wp_P (g := ni_gPush (.int 0) 18) rfl (wp_push (z := 0) rfl) ?_
    exact wp_R rfl rfl ⟨0, _, rfl, Or.inr ⟨0, by omega, rfl, hq, fun j hj => by omega⟩, Or.inl rfl, _, _, _, _, hP1, hK1⟩
  · have h0 : ¬ ni_lw A (A 0 2).toNat = 0 := fun z => hq (hw.2.mp z)
    refine wp_If true rfl (zf_ne_t ⟨by omega, by omega⟩ (by omega)) ?_
    refine wp_Ld rfl rfl rfl ?_
    refine wp_Get (v := .ref (ad' 0)) rfl (hP1.1.2.2.2.2.1 m _ hm).1 rfl ?_
    refine wp_Ld rfl rfl rfl ?_
    refine wp_Get (v := .ref (ad 0)) rfl (hP1.1.2.2.2.2.1 m _ hm).1 rfl ?_
    obtain ⟨vs', w1', _⟩ := hP1.2.1.2.1 0 (show ni_us 0 = true by decide +kernel)
    rw [show ni_pl ad' rw' 0 = ad' 0 from rfl] at w1'
    refine wp_V (r := []) (as := [.ref (ad 0)]) rfl rfl rfl w1' (Nat.le_of_ble_eq_true rfl) (wp_up (np_copy hP1 (nq_ok h) hid hdead) (by decide)) ?_
    rintro u2 M2 ⟨hu2, rw2, cp2, hP2, hK2⟩
    rw [hu2]
    refine wp_P (g := ni_gPush (.int 1) 31) rfl (wp_push (z := 1) rfl) ?_
    refine wp_St (ls' := [.ref m, ni_z (k0 : Int), ni_z (((0 : Nat) : Int) + 1)]) rfl rfl rfl ?_
    refine np_setL hm h hk.2 he ht k0 0 (by omega) (fun j hj => ?_) M2 rw2 cp2 hP2 (np_KT hK1 (np_Kr hK2))
    have : j = 0 := by omega
    subst this
    exact hq
end NST
