/-! ADDSTATIC KEEPS WHAT HOLDS; AHEAD STAYS WHAT IT IS TO THE NET -/
section NKT
variable {St : Nat → Option ni_C} {A A' B : Nat → Nat → Int}
theorem np_Hk (h : np_H A B) (h1 : A' 0 1 = A 0 1) (h2 : A' 0 2 = A 0 2) (h3 : A' 0 3 = A 0 3) (hd : ∀ s j, nq_dead A s → A' s j = A s j) : np_H A' B := by
  refine ⟨h.1, fun s j hs => ?_⟩
  have hs' : nq_dead A s := by
    unfold nq_dead at hs ⊢
    rw [h1, h2, h3] at hs
    exact hs
  rw [hd s j hs']
  exact h.2 s j hs'
theorem nq_NIs {e : Int} {lo dl : Nat → Int} (h : nq_NI A e lo dl) (hs : ∀ s j, (s = 0 ∨ (12 ≤ s ∧ s < 286)) → A' s j = A s j) : nq_NI A' e lo dl := by
  obtain ⟨h3, h0, he0, hF, hP, hB⟩ := h
  have g0 := fun j => hs 0 j (Or.inl rfl)
  have hc : ni_cs0 A A' := ⟨g0 0, g0 1, g0 2, g0 3, fun f hf j _ => hs _ _ (by omega), fun l hl j => hs _ _ (by omega)⟩
  refine ⟨by rw [g0]; exact h3, by rw [g0]; exact h0, he0, fun f hf hfc => ?_, fun p hp => ?_, fun f hf hfc => ?_⟩
  · rw [g0] at hfc
    exact nq_FIc (hF f hf hfc) hc h3.2 (Int.le_refl _) (fun j => hs _ _ (by omega)) (fun j => hs _ _ (by omega)) (fun j => hs _ _ (by omega))
  · have hp' := hp
    unfold ni_po at hp'
    exact nq_PIc hp (hP p hp) hc h3.2 (Int.le_refl _) (fun j => hs _ _ (by omega)) (hs _ _ (by omega)) (fun j => hs _ _ (by omega)) (fun j => hs _ _ (by omega)) (fun j => hs _ _ (by omega)) (fun j => hs _ _ (by omega))
  · rw [g0] at hfc
    have h1 := hB f hf hfc
    have h4 : ni_In A' f 14 = ni_In A f 14 := ni_InC 14 (fun l hl => ⟨ni_WC (hs _ _ (by omega)) (fun j => hs _ _ (by omega)) (hs _ _ (by omega)) (fun j => hs _ _ (by omega)), ni_WC (hs _ _ (by omega)) (fun j => hs _ _ (by omega)) (hs _ _ (by omega)) (fun j => hs _ _ (by omega))⟩)
    unfold nq_dr at h1 ⊢
    rw [h4, hs (12 + 3 * f) 12 (by omega), hs (12 + 3 * f) 13 (by omega), hs (12 + 3 * f) 11 (by omega), hs (12 + 3 * f + 2) 0 (by omega), hs (12 + 3 * f + 2) 1 (by omega), hs (12 + 3 * f + 2) 2 (by omega), hs (12 + 3 * f + 2) 3 (by omega), hs (12 + 3 * f + 2) 4 (by omega), hs (12 + 3 * f + 2) 5 (by omega), hs (12 + 3 * f + 2) 6 (by omega)]
    exact h1
theorem nq_static {own : Nat → Int} {e b c : Int} {r n : Nat} (h : nq_Inv St own A e) (hr : r < 8) (hn : A 8 3 = n) (hn24 : n < 24) (hb : 0 ≤ b ∧ b < 2097152 ∧ b % 32 ≤ 16) (hc : 0 ≤ c ∧ c < 14) (hA5 : A' (286 + 11 * r) 5 = 1) (h9 : A' (8 + 1) n = r) (h10 : A' (8 + 2) n = b) (h11 : A' (8 + 3) n = c) (h83 : A' 8 3 = (n : Int) + 1) (hfr : ∀ s j, ¬ (s = 286 + 11 * r ∧ j = 5) → ¬ ((s = 9 ∨ s = 10 ∨ s = 11) ∧ j = n) → ¬ (s = 8 ∧ j = 3) → A' s j = A s j) : nq_Inv St own A' e := by
  obtain ⟨hNI, hC, hLE, hLD, hLV, hlc, hLA, hRK, hRT, ⟨hPN, hPS, hSS⟩, hdead⟩ := h
  have hl : ∀ s j, 12 ≤ s → s < 286 → A' s j = A s j := fun s j h1 h2 => hfr s j (by omega) (by omega) (by omega)
  have hk : ∀ l j : Nat, l < 14 → A' (48 + 17 * l) j = A (48 + 17 * l) j := fun l j h1 => hl _ _ (by omega) (by omega)
  have h0 : ∀ s j, s < 8 → A' s j = A s j := fun s j h => hfr s j (by omega) (by omega) (by omega)
  have hR : ∀ s j, 286 ≤ s → ¬ (s = 286 + 11 * r ∧ j = 5) → A' s j = A s j := fun s j h h' => hfr s j h' (by omega) (by omega)
  have e1 := h0 0 1 (by omega)
  have e2 := h0 0 2 (by omega)
  refine ⟨nq_NIs hNI (fun s j hs => by rcases hs with z | z; exact h0 s j (by omega); exact hl s j z.1 z.2), ⟨ni_LBf hC.1 hk, fun f hf hfc => ?_, by rw [e1]; exact hC.2.2.1, fun q hq hqc => ?_⟩, fun l hl1 hl2 => ?_, fun l hl1 hl2 => ?_, ni_LVf hLV hk, by rw [e2]; exact hlc, fun p hp => ?_, fun q hq hqc => ?_, fun q hq hqc => ?_, ⟨ni_PLf hPN (fun j hj k => h0 _ _ (by omega)), ⟨by rw [h83]; omega, fun i hi => ?_⟩, fun i hi => ?_⟩, fun l hl1 hl2 => ?_⟩
  · rw [h0 0 3 (by omega)] at hfc
    have := hC.2.1 f hf hfc
    rw [hl _ 0 (by omega) (by omega), hl _ 2 (by omega) (by omega), hl _ 3 (by omega) (by omega), hl _ 4 (by omega) (by omega), hl _ 5 (by omega) (by omega), hl _ 6 (by omega) (by omega), hl _ 7 (by omega) (by omega), hl _ 8 (by omega) (by omega), e1]
    exact this
  · rw [e1] at hqc
    have := hC.2.2.2 q hq hqc
    unfold ni_TI at this ⊢
    rw [hR _ 3 (by omega) (by omega)]
    refine ⟨this.1, fun i hi => ?_⟩
    rw [hR _ i (by omega) (by omega), hR _ i (by omega) (by omega), hR _ i (by omega) (by omega)]
    exact this.2 i hi
  · rw [e2] at hl2
    rw [hk l 0 hl1, hk l 1 hl1, e1]
    exact hLE l hl1 hl2
  · rw [hk l 5 hl1] at hl2
    rw [hk l 4 hl1]
    exact hLD l hl1 hl2
  · have hp' := hp
    unfold ni_ln0 at hp'
    obtain ⟨b1, b2⟩ := hLA p hp
    refine ⟨by rw [hl p 2 (by omega) (by omega)]; exact b1, fun j hj => ?_⟩
    rw [hl p 2 (by omega) (by omega)] at hj
    by_cases z : p + 2 < 286
    · rw [hl (p + 1) j (by omega) (by omega), hl (p + 2) j (by omega) (by omega)]
      exact b2 j hj
    · omega
  · rw [e1] at hqc
    obtain ⟨a1, a2⟩ := hRK q hq hqc
    refine ⟨fun o ho => ?_, by rw [hR _ _ (by omega) (by omega)]; exact a2⟩
    rw [hR _ _ (by omega) (by omega)]
    exact a1 o ho
  · rw [e1] at hqc
    obtain ⟨a1, a2, a3, a4⟩ := hRT q hq hqc
    refine ⟨by rw [hR _ _ (by omega) (by omega)]; exact a1, ?_, nq_RDc a3 (hR _ _ (by omega) (by omega)) (fun o => hR _ _ (by omega) (by omega)) (fun o => hR _ _ (by omega) (by omega)), nq_TSc a4 (hR _ _ (by omega) (by omega)) (fun o => hR _ _ (by omega) (by omega)) (fun o => hR _ _ (by omega) (by omega)) (fun o => hR _ _ (by omega) (by omega))⟩
    by_cases c : q = r
    · rw [c]
      exact Or.inr hA5
    · rw [hR _ _ (by omega) (by omega)]
      exact a2
  · rw [h83] at hi
    by_cases c : i = n
    · rw [c, h9, h10, h11]
      exact ⟨⟨by omega, by omega⟩, hb, by omega, by omega⟩
    · rw [hfr _ i (by omega) (by omega) (by omega), hfr _ i (by omega) (by omega) (by omega), hfr _ i (by omega) (by omega) (by omega)]
      exact hPS.2 i (by omega)
  · rw [h83] at hi
    by_cases c : i = n
    · rw [c, h11]
      exact hc.1
    · rw [hfr _ i (by omega) (by omega) (by omega)]
      exact hSS i (by omega)
  · rw [e2] at hl2
    rw [hk l 5 hl1, hl (50 + 17 * l) 2 (by omega) (by omega), hl (58 + 17 * l) 2 (by omega) (by omega)]
    exact hdead l hl1 hl2
end NKT
