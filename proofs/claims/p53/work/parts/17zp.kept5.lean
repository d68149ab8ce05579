/-! SETPORT KEEPS WHAT HOLDS -/
section NKQ
variable {St : Nat → Option ni_C} {A A' : Nat → Nat → Int}
theorem nq_NIq {e : Int} {lo dl : Nat → Int} {p : Nat} (h : nq_NI A e lo dl) (hp : ni_po p) (hA : ∀ s, s ≠ p → s ≠ p + 6 → A' s = A s) (h9 : ∀ j, 9 ≤ j → A' p j = A p j) (hPT : ni_PT A' p) (h1 : 0 ≤ A' p 1 ∧ A' p 1 ≤ 2) (h2 : 0 ≤ A' p 2 ∧ A' p 2 ≤ 10000) (h3' : A' p 3 = 0 ∨ A' p 3 = 1) (h4' : A' p 4 = 0) : nq_NI A' e lo dl := by
  have hp' := hp
  unfold ni_po at hp'
  obtain ⟨h3, h0, he0, hF, hP, hB⟩ := h
  have g : ∀ s, s ≠ p → s ≠ p + 6 → ∀ j, A' s j = A s j := fun s x y j => congrFun (hA s x y) j
  have hc : ni_cs0 A A' := ⟨g 0 (by omega) (by omega) 0, g 0 (by omega) (by omega) 1, g 0 (by omega) (by omega) 2, g 0 (by omega) (by omega) 3, fun f hf j _ => g _ (by omega) (by omega) j, fun l hl j => g _ (by omega) (by omega) j⟩
  refine ⟨by rw [hA 0 (by omega) (by omega)]; exact h3, by rw [hA 0 (by omega) (by omega)]; exact h0, he0, fun f hf hfc => ?_, fun q hq => ?_, fun f hf hfc => ?_⟩
  · rw [hA 0 (by omega) (by omega)] at hfc
    exact nq_FIc (hF f hf hfc) hc h3.2 (Int.le_refl _) (g _ (by omega) (by omega)) (g _ (by omega) (by omega)) (g _ (by omega) (by omega))
  · have hq' := hq
    unfold ni_po at hq'
    by_cases c : q = p
    · subst c
      have hli : ni_li q ≠ q := by
        unfold ni_li
        omega
      have hli2 : ni_li q ≠ q + 6 := by
        unfold ni_li
        omega
      obtain ⟨z1, z2, z3, z4, z5, z6, z7, z8, z9, z10, z11, z12⟩ := hP q hp
      unfold nq_PI
      rw [h9 10 (by omega), h9 11 (by omega), h9 12 (by omega), h9 13 (by omega), hA (q + 1) (by omega) (by omega), hA (q + 4) (by omega) (by omega), hA (q + 7) (by omega) (by omega), hA 0 (by omega) (by omega), hA (ni_li q) hli hli2]
      refine ⟨hPT, h1, h2, h3', ⟨by omega, by omega⟩, z6, fun j hj => ni_PKc (z7 j hj) hc h3.2, z8, ?_, fun j hj => ?_, z11, z12⟩
      · rcases z9 with z | z
        · exact Or.inl z
        · exact Or.inr ⟨ni_PKc z.1 hc h3.2, z.2⟩
      · rcases z10 j hj with z | z
        · exact Or.inl z
        · exact Or.inr ⟨ni_PKc z.1 hc h3.2, z.2⟩
    · exact nq_PIc hq (hP q hq) hc h3.2 (Int.le_refl _) (g _ (by omega) (by omega)) (g _ (by omega) (by omega) 4) (g _ (by omega) (by omega)) (g _ (by omega) (by omega)) (g _ (by omega) (by omega)) (g _ (by omega) (by omega))
  · rw [hA 0 (by omega) (by omega)] at hfc
    have h1 := hB f hf hfc
    have k : ∀ s j, s ≠ p + 6 → (s ≠ p ∨ 9 ≤ j) → A' s j = A s j := fun s j x y => by
      by_cases c : s = p
      · rw [c]
        exact h9 j (by omega)
      · exact g s c x j
    have h4 : ni_In A' f 14 = ni_In A f 14 := ni_InC 14 (fun l hl => ⟨ni_WC (k _ _ (by omega) (by omega)) (fun j => k _ _ (by omega) (by omega)) (k _ _ (by omega) (by omega)) (fun j => k _ _ (by omega) (by omega)), ni_WC (k _ _ (by omega) (by omega)) (fun j => k _ _ (by omega) (by omega)) (k _ _ (by omega) (by omega)) (fun j => k _ _ (by omega) (by omega))⟩)
    unfold nq_dr at h1 ⊢
    rw [h4, hA (12 + 3 * f) (by omega) (by omega), hA (12 + 3 * f + 2) (by omega) (by omega)]
    exact h1
theorem nq_setPort {own : Nat → Int} {e : Int} {p : Nat} (h : nq_Inv St own A e) (hp : ni_po p) (hA : ∀ s, s ≠ p → s ≠ p + 6 → A' s = A s) (h9 : ∀ j, 9 ≤ j → A' p j = A p j) (hPT : ni_PT A' p) (h1 : 0 ≤ A' p 1 ∧ A' p 1 ≤ 2) (h2 : 0 ≤ A' p 2 ∧ A' p 2 ≤ 10000) (h3' : A' p 3 = 0 ∨ A' p 3 = 1) (h4' : A' p 4 = 0) : nq_Inv St own A' e := by
  have hp' := hp
  unfold ni_po at hp'
  refine nq_InvX h (nq_NIq h.1 hp hA h9 hPT h1 h2 h3' h4') (fun f hf hfc => ?_) (fun s j hs => ?_)
  · rw [hA 0 (by omega) (by omega)] at hfc
    have := h.2.1.2.1 f hf hfc
    rw [hA (12 + 3 * f) (by omega) (by omega), hA 0 (by omega) (by omega)]
    exact this
  · unfold ni_isL at hs
    exact congrFun (hA s (by omega) (by omega)) j
end NKQ
