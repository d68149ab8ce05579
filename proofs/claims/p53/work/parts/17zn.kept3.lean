/-! SETWEIGHT KEEPS WHAT HOLDS -/
section NKW
variable {St : Nat → Option ni_C} {A A' : Nat → Nat → Int}
theorem nq_NIw {e : Int} {lo dl : Nat → Int} {p : Nat} (h : nq_NI A e lo dl) (hp : ni_po p) (hA : ∀ s, s ≠ p + 5 → A' s = A s) (hw : ∀ j : Nat, j < 4 → 1 ≤ A' (p + 5) j ∧ A' (p + 5) j ≤ 4) : nq_NI A' e lo dl := by
  have hp' := hp
  unfold ni_po at hp'
  obtain ⟨h3, h0, he0, hF, hP, hB⟩ := h
  have hc : ni_cs0 A A' := ⟨congrFun (hA 0 (by omega)) 0, congrFun (hA 0 (by omega)) 1, congrFun (hA 0 (by omega)) 2, congrFun (hA 0 (by omega)) 3, fun f hf j _ => congrFun (hA _ (by omega)) j, fun l hl j => congrFun (hA _ (by omega)) j⟩
  refine ⟨by rw [hA 0 (by omega)]; exact h3, by rw [hA 0 (by omega)]; exact h0, he0, fun f hf hfc => ?_, fun q hq => ?_, fun f hf hfc => ?_⟩
  · rw [hA 0 (by omega)] at hfc
    exact nq_FIc (hF f hf hfc) hc h3.2 (Int.le_refl _) (fun j => congrFun (hA _ (by omega)) j) (fun j => congrFun (hA _ (by omega)) j) (fun j => congrFun (hA _ (by omega)) j)
  · have hq' := hq
    unfold ni_po at hq'
    by_cases c : q = p
    · subst c
      have hli : ni_li q ≠ q + 5 := by
        unfold ni_li
        omega
      obtain ⟨z1, z2, z3, z4, z5, z6, z7, z8, z9, z10, z11, z12⟩ := hP q hp
      unfold nq_PI
      rw [hA q (by omega), hA (q + 1) (by omega), hA (q + 4) (by omega), hA (q + 7) (by omega), hA 0 (by omega), hA (ni_li q) hli]
      refine ⟨?_, z2, z3, z4, z5, z6, fun j hj => ni_PKc (z7 j hj) hc h3.2, z8, ?_, fun j hj => ?_, z11, z12⟩
      · unfold ni_PT at z1 ⊢
        rw [hA q (by omega), hA (q + 6) (by omega)]
        exact ⟨z1.1, z1.2.1, fun j hj => ⟨hw j hj, (z1.2.2 j hj).2⟩⟩
      · rcases z9 with z | z
        · exact Or.inl z
        · exact Or.inr ⟨ni_PKc z.1 hc h3.2, z.2⟩
      · rcases z10 j hj with z | z
        · exact Or.inl z
        · exact Or.inr ⟨ni_PKc z.1 hc h3.2, z.2⟩
    · exact nq_PIc hq (hP q hq) hc h3.2 (Int.le_refl _) (fun j => congrFun (hA _ (by omega)) j) (congrFun (hA _ (by omega)) 4) (fun j => congrFun (hA _ (by omega)) j) (fun j => congrFun (hA _ (by omega)) j) (fun j => congrFun (hA _ (by omega)) j) (fun j => congrFun (hA _ (by omega)) j)
  · rw [hA 0 (by omega)] at hfc
    have h1 := hB f hf hfc
    have h4 : ni_In A' f 14 = ni_In A f 14 := ni_InC 14 (fun l hl => ⟨ni_WC (congrFun (hA _ (by omega)) _) (fun j => congrFun (hA _ (by omega)) j) (congrFun (hA _ (by omega)) _) (fun j => congrFun (hA _ (by omega)) j), ni_WC (congrFun (hA _ (by omega)) _) (fun j => congrFun (hA _ (by omega)) j) (congrFun (hA _ (by omega)) _) (fun j => congrFun (hA _ (by omega)) j)⟩)
    unfold nq_dr at h1 ⊢
    rw [h4, hA (12 + 3 * f) (by omega), hA (12 + 3 * f + 2) (by omega)]
    exact h1
theorem nq_weight {own : Nat → Int} {e x : Int} {p c : Nat} (h : nq_Inv St own A e) (hp : ni_po p) (hc : c < 4) (hx : 1 ≤ x ∧ x ≤ 4) : nq_Inv St own (ni_u2 A (p + 5) c x) e := by
  have hp' := hp
  unfold ni_po at hp'
  have hA : ∀ s, s ≠ p + 5 → ni_u2 A (p + 5) c x s = A s := fun s hs => funext fun j => ni_u2n (Or.inl hs)
  have h0 := fun s j (hs : s ≠ p + 5) => congrFun (hA s hs) j
  refine nq_InvX h (nq_NIw h.1 hp hA (fun j hj => ?_)) (fun f hf hfc => ?_) (fun s j hs => h0 s j ?_)
  · have hz := ((h.1.2.2.2.2.1 p hp).1.2.2 j hj).1
    by_cases g : j = c
    · rw [g, ni_u2e]
      exact hx
    · rw [ni_u2n (Or.inr g)]
      exact hz
  · rw [h0 0 3 (by omega)] at hfc
    have := h.2.1.2.1 f hf hfc
    rw [hA (12 + 3 * f) (by omega), hA 0 (by omega)]
    exact this
  · unfold ni_isL at hs
    omega
end NKW
