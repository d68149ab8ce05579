/-! WHAT AHEAD IS TO THE NET; CALLS OF THE FACE THAT TOUCH THE NET ALONE -/
section NHD
variable {xs : List Int32} {St : Nat → Option ni_C} {A B : Nat → Nat → Int} {m : Nat} {ad ad' : Nat → Nat}
/-- what ahead is to the net -/
def np_H (A B : Nat → Nat → Int) : Prop := (∀ r : Nat, r < 8 → B (286 + 11 * r) 0 = r) ∧ ∀ s j, nq_dead A s → B s j = A s j
theorem np_Hit {own : Nat → Int} {e : Int} (h : nq_Inv St own A e) (hH : np_H A B) {i : Nat} (he : e + 400 * i ≤ 600000) (ht : A 0 0 + i ≤ 800000) : np_H A (nq_it xs St own e A i) ∧ np_H (nq_it xs St own e A i) B := by
  obtain ⟨a1, a2, a3, a4, a5⟩ := nq_itP (xs := xs) h i he ht
  obtain ⟨h1, h2⟩ := hH
  have c1 := a3 0 1 (by omega) (by omega)
  have c2 := a3 0 2 (by omega) (by omega)
  have c3 := a3 0 3 (by omega) (by omega)
  refine ⟨⟨fun r hr => ?_, a5⟩, h1, fun s j hd => ?_⟩
  · by_cases c : (r : Int) < A 0 1
    · have hRT := a1.2.2.2.2.2.2.2.2.1
      exact (hRT r hr (by rw [c1]; exact c)).1
    · have hd : nq_dead A (286 + 11 * r) := ⟨by omega, by omega⟩
      rw [a5 _ 0 hd, ← h2 _ 0 hd]
      exact h1 r hr
  · have hd' : nq_dead A s := by
      unfold nq_dead at hd ⊢
      rw [c1, c2, c3] at hd
      exact hd
    rw [a5 s j hd']
    exact h2 s j hd'
theorem np_Hb {own : Nat → Int} {e : Int} (h : nq_Inv St own A e) (hH : np_H A B) {k0 : Nat} (he : e + 400 * k0 ≤ 600000) (ht : A 0 0 + k0 ≤ 800000) {B' : Nat → Nat → Int} (hB : np_B xs St own e A B k0 B') : np_H A B' := by
  rcases hB with r | ⟨i, hi, r⟩
  · rw [r]
    exact hH
  · rw [r]
    exact (np_Hit h hH (by omega) (by omega)).1
/-- a call that touches the net alone -/
theorem np_face {d y : Nat} {as : List ni_a} {P : Option ni_a → (Nat → Nat → Int) → Prop} (hF : nf_F xs St (fun a => a 0 = ad 0) d y as A P) : ∃ v A', P v A' ∧ ∀ (B : Nat → Nat → Int) (ad' : Nat → Nat) M rw cp rw' cp', np_R St M ad rw cp ad' rw' cp' A B → wp_C xs d y (as.map (ni_dn ad ad)) M (fun u M' => u = v.map (ni_dn ad ad) ∧ ∃ rw3 cp3, np_R St M' ad rw3 cp3 ad' rw' cp' A' B ∧ np_K M ad rw cp ad' rw' cp' M' rw3 cp3 rw' cp') := by
  obtain ⟨v, A', h1, h2⟩ := hF
  refine ⟨v, A', h1, fun B ad' M rw cp rw' cp' hP => ?_⟩
  obtain ⟨u, M', g1, g2, rw3, cp3, g3, g4⟩ := h2 M ad rw cp rfl hP.1
  exact ⟨u, M', g1, g2, rw3, cp3, np_go hP g3 g4, np_Kl g4⟩
/-- STEP, of both -/
theorem np_step {own : Nat → Int} {e : Int} {k0 : Nat} (hm : St m = some (9, [.ref (ad 0), .ref (ad' 0)])) (h : nq_Inv St own A e) (hH : np_H A B) (hk : 1 ≤ k0 ∧ k0 ≤ 60) (he : e + 400 * k0 ≤ 600000) (ht : A 0 0 + k0 ≤ 800000) {M : ni_H} {rw cp rw' cp' : Nat → Nat} (hP : np_R St M ad rw cp ad' rw' cp' A B) : wp_C xs 25 46 [.ref m, ni_z (k0 : Int)] M (fun u M' => u = some (ni_z (A 0 0 + k0)) ∧ (nq_Inv St own (nq_it xs St own e A k0) (e + 400 * k0) ∧ np_H (nq_it xs St own e A k0) B) ∧ ∃ rw3 cp3, np_R St M' ad rw3 cp3 ad' rw' cp' (nq_it xs St own e A k0) B ∧ np_K M ad rw cp ad' rw' cp' M' rw3 cp3 rw' cp') := by
  obtain ⟨v, A', ⟨hv, hA⟩, hF⟩ := np_face (ad := ad) (fc_step (xs := xs) (Z := fun a => a 0 = ad 0) hm (fun _ hz => hz) h hk he ht)
  obtain ⟨u, M', g1, g2, rw3, cp3, g3, g4⟩ := hF B ad' M rw cp rw' cp' hP
  rw [hA] at g3
  refine ⟨u, M', g1, ?_, ⟨(nq_itP (xs := xs) h k0 he ht).1, (np_Hit h hH he ht).2⟩, rw3, cp3, g3, g4⟩
  rw [g2, hv]
  rfl
end NHD
