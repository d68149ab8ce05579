/-! WHAT HOLDS MAY BE COPIED; WHAT A CALL KEEPS OF TWO NETS -/
section NOK
variable {xs : List Int32} {St : Nat → Option ni_C} {A B : Nat → Nat → Int} {M M' M0 : ni_H} {ad rw cp ad' rw' cp' rw1 cp1 rw2 cp2 rw3 cp3 rw4 cp4 : Nat → Nat}
theorem nq_po {own : Nat → Int} {e : Int} (h : nq_Inv St own A e) {p : Nat} (hp : ni_po p) : nk_po St A p := by
  obtain ⟨hNI, hC, hLE, hLD, hLV, hlc, hLA, hRK, hRT, hPL, hdead⟩ := h
  obtain ⟨hPT, q1, q2, q3, q4, q10, _⟩ := hNI.2.2.2.2.1 p hp
  have hl : ni_ln0 (p + 1) := by
    unfold ni_po at hp
    unfold ni_ln0
    omega
  obtain ⟨b1, b2⟩ := hLA (p + 1) hl
  obtain ⟨t1, t2, t3⟩ := hPT
  clear t3
  refine ⟨by omega, q10, b1, fun i hi => ?_⟩
  obtain ⟨c1, c2, _⟩ := b2 i hi
  exact ⟨c1, ni_GLc c2⟩
theorem nq_ok {own : Nat → Int} {e : Int} (h : nq_Inv St own A e) : nk_ok St A := by
  have hpo := fun p hp => nq_po h (p := p) hp
  obtain ⟨hNI, hC, hLE, hLD, hLV, hlc, hLA, hRK, hRT, hPL, hdead⟩ := h
  refine ⟨hC.2.2.1, hlc, hNI.1, hPL.1.1, hPL.2.1.1, fun r hr hr1 => ?_, fun l hl hl1 => ⟨?_, hpo _ ?_, hpo _ ?_⟩, fun l hl hl1 => ?_⟩
  · obtain ⟨a1, a2, _, a4⟩ := hRT r hr hr1
    refine ⟨a1, by omega, a4.1.1, fun i hi => ?_⟩
    obtain ⟨c1, c2, _⟩ := (hRK r hr hr1).1 i hi
    exact ⟨c1, ni_GLc c2⟩
  · have := (hC.1 l hl).2.2
    omega
  · unfold ni_po
    omega
  · unfold ni_po
    omega
  · have := hdead l hl hl1
    exact ⟨this.2.1, this.2.2⟩
/-- what a call keeps, of two nets -/
def np_K (M0 : ni_H) (ad rw cp ad' rw' cp' : Nat → Nat) (M : ni_H) (rw1 cp1 rw2 cp2 : Nat → Nat) : Prop :=
  (∀ b, b < M0.1.length → (∀ s, ni_us s = true → ni_pl ad rw s ≠ b) → (∀ s, ni_us s = true → ni_pl ad' rw' s ≠ b) → M.1[b]? = M0.1[b]?) ∧
  (∀ s, ni_us s = true → rw1 s = rw s ∨ M0.1.length ≤ rw1 s) ∧ (∀ s, ni_us s = true → rw2 s = rw' s ∨ M0.1.length ≤ rw2 s) ∧
  M0.1.length + ni_gz cp1 + ni_gz cp2 ≥ M.1.length + ni_gz cp + ni_gz cp' ∧ ni_zs M0 + 4 * ni_gz cp1 + 4 * ni_gz cp2 ≥ ni_zs M + 4 * ni_gz cp + 4 * ni_gz cp' ∧ M0.1.length ≤ M.1.length
theorem np_KR : np_K M ad rw cp ad' rw' cp' M rw cp rw' cp' := ⟨fun _ _ _ _ => rfl, fun _ _ => Or.inl rfl, fun _ _ => Or.inl rfl, Nat.le_refl _, Nat.le_refl _, Nat.le_refl _⟩
theorem np_Kl (h : ni_Kp M ad rw cp M' rw1 cp1) : np_K M ad rw cp ad' rw' cp' M' rw1 cp1 rw' cp' := by
  obtain ⟨k1, k2, k3, k4, k5⟩ := h
  exact ⟨fun b hb h1 _ => k1 b hb h1, k2, fun _ _ => Or.inl rfl, by omega, by omega, k5⟩
theorem np_Kr (h : ni_Kp M ad' rw' cp' M' rw2 cp2) : np_K M ad rw cp ad' rw' cp' M' rw cp rw2 cp2 := by
  obtain ⟨k1, k2, k3, k4, k5⟩ := h
  exact ⟨fun b hb _ h1 => k1 b hb h1, fun _ _ => Or.inl rfl, k2, by omega, by omega, k5⟩
theorem np_plN {rw rw1 : Nat → Nat} {n b s : Nat} (hk : rw1 s = rw s ∨ n ≤ rw1 s) (hb : b < n) (h : ni_pl ad rw s ≠ b) : ni_pl ad rw1 s ≠ b := by
  unfold ni_pl at h ⊢
  cases hl : ni_lr s with
  | false =>
    rw [hl, cond_false] at h
    rw [cond_false]
    exact h
  | true =>
    rw [hl, cond_true] at h
    rw [cond_true]
    rcases hk with z | z
    · rw [z]
      exact h
    · omega
theorem np_KT (h : np_K M0 ad rw cp ad' rw' cp' M rw1 cp1 rw2 cp2) (h' : np_K M ad rw1 cp1 ad' rw2 cp2 M' rw3 cp3 rw4 cp4) : np_K M0 ad rw cp ad' rw' cp' M' rw3 cp3 rw4 cp4 := by
  obtain ⟨k1, k2, k3, k4, k5, k6⟩ := h
  obtain ⟨j1, j2, j3, j4, j5, j6⟩ := h'
  refine ⟨fun b hb h1 h2 => ?_, fun s hs => ?_, fun s hs => ?_, by omega, by omega, by omega⟩
  · rw [j1 b (by omega) (fun s hs => np_plN (k2 s hs) hb (h1 s hs)) (fun s hs => np_plN (k3 s hs) hb (h2 s hs)), k1 b hb h1 h2]
  · rcases j2 s hs with z | z
    · rw [z]
      exact k2 s hs
    · exact Or.inr (by omega)
  · rcases j3 s hs with z | z
    · rw [z]
      exact k3 s hs
    · exact Or.inr (by omega)
end NOK
