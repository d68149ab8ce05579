/-! WHAT HOLDS STILL HOLDS, IF FLOWS AND PORTS DO -/
section NKP
variable {St : Nat → Option ni_C} {A A' : Nat → Nat → Int}
theorem nq_InvX {own : Nat → Int} {e e' : Int} (h : nq_Inv St own A e) (hNI' : nq_NI A' e' (fun _ => 0) (fun _ => 0)) (hFC' : nq_FC A') (hs : ∀ s j, (s < 12 ∨ 286 ≤ s ∨ ni_isL s j ∨ (48 ≤ s ∧ s < 286 ∧ (s - 48) % 17 = 0)) → A' s j = A s j) : nq_Inv St own A' e' := by
  obtain ⟨hNI, hC, hLE, hLD, hLV, hlc, hLA, hRK, hRT, ⟨hPN, hPS, hSS⟩, hdead⟩ := h
  have hl : ∀ l j : Nat, l < 14 → A' (48 + 17 * l) j = A (48 + 17 * l) j := fun l j hl => hs _ _ (Or.inr (Or.inr (Or.inr (by omega))))
  have h0 : ∀ s j, s < 12 → A' s j = A s j := fun s j h => hs s j (Or.inl h)
  have hR : ∀ s j, 286 ≤ s → A' s j = A s j := fun s j h => hs s j (Or.inr (Or.inl h))
  have hL : ∀ s j, ni_isL s j → A' s j = A s j := fun s j h => hs s j (Or.inr (Or.inr (Or.inl h)))
  have e1 := h0 0 1 (by omega)
  have e2 := h0 0 2 (by omega)
  refine ⟨hNI', ⟨ni_LBf hC.1 hl, hFC', by rw [e1]; exact hC.2.2.1, fun r hr hrc => ?_⟩, fun l hl1 hl2 => ?_, fun l hl1 hl2 => ?_, ni_LVf hLV hl, by rw [e2]; exact hlc, fun p hp => ?_, fun r hr hrc => ?_, fun r hr hrc => ?_, ⟨ni_PLf hPN (fun j hj k => h0 _ _ (by omega)), ni_PLf hPS (fun j hj k => h0 _ _ (by omega)), fun i hi => ?_⟩, fun l hl1 hl2 => ?_⟩
  · rw [e1] at hrc
    have := hC.2.2.2 r hr hrc
    unfold ni_TI at this ⊢
    rw [hR _ 3 (by omega)]
    refine ⟨this.1, fun i hi => ?_⟩
    rw [hR _ i (by omega), hR _ i (by omega), hR _ i (by omega)]
    exact this.2 i hi
  · rw [e2] at hl2
    rw [hl l 0 hl1, hl l 1 hl1, e1]
    exact hLE l hl1 hl2
  · rw [hl l 5 hl1] at hl2
    rw [hl l 4 hl1]
    exact hLD l hl1 hl2
  · have hp' := hp
    unfold ni_ln0 at hp'
    obtain ⟨b1, b2⟩ := hLA p hp
    refine ⟨by rw [hL p 2 (by unfold ni_isL; omega)]; exact b1, fun j hj => ?_⟩
    rw [hL p 2 (by unfold ni_isL; omega)] at hj
    rw [hL (p + 1) j (by unfold ni_isL; omega), hL (p + 2) j (by unfold ni_isL; omega)]
    exact b2 j hj
  · rw [e1] at hrc
    obtain ⟨a1, a2⟩ := hRK r hr hrc
    refine ⟨fun o ho => ?_, by rw [hR _ _ (by omega)]; exact a2⟩
    rw [hR _ _ (by omega)]
    exact a1 o ho
  · rw [e1] at hrc
    obtain ⟨a1, a2, a3, a4⟩ := hRT r hr hrc
    refine ⟨by rw [hR _ _ (by omega)]; exact a1, by rw [hR _ _ (by omega)]; exact a2, nq_RDc a3 (hR _ _ (by omega)) (fun o => hR _ _ (by omega)) (fun o => hR _ _ (by omega)), nq_TSc a4 (hR _ _ (by omega)) (fun o => hR _ _ (by omega)) (fun o => hR _ _ (by omega)) (fun o => hR _ _ (by omega))⟩
  · rw [h0 _ _ (by omega)] at hi
    rw [h0 _ _ (by omega)]
    exact hSS i hi
  · rw [e2] at hl2
    rw [hl l 5 hl1, hL (50 + 17 * l) 2 (by unfold ni_isL; omega), hL (58 + 17 * l) 2 (by unfold ni_isL; omega)]
    exact hdead l hl1 hl2
end NKP
