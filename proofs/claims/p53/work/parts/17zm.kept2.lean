/-! SCHEDULE AND SHAPE KEEP WHAT HOLDS -/
section NKS
variable {St : Nat → Option ni_C} {A A' : Nat → Nat → Int}
theorem nq_NIk {e : Int} {lo dl : Nat → Int} {f : Nat} (h : nq_NI A e lo dl) (hf : f < 12) (hfr : ∀ s j, ¬ (s = 12 + 3 * f ∧ 4 ≤ j ∧ j ≤ 9) → A' s j = A s j) (hPK : ∀ x, ni_PK A x → ni_PK A' x) (h9 : 0 ≤ A' (12 + 3 * f) 9 ∧ A' (12 + 3 * f) 9 ≤ 10000) : nq_NI A' e lo dl := by
  have hA : ∀ s, s ≠ 12 + 3 * f → A' s = A s := fun s hs => funext fun j => hfr s j (by omega)
  obtain ⟨h3, h0, he0, hF, hP, hB⟩ := h
  refine ⟨by rw [hA 0 (by omega)]; exact h3, by rw [hA 0 (by omega)]; exact h0, he0, fun f' hf' hfc => ?_, fun p hp => ?_, fun f' hf' hfc => ?_⟩
  · rw [hA 0 (by omega)] at hfc
    obtain ⟨q9, q11, qk, q12, q13, q7, qS⟩ := hF f' hf' hfc
    have g : ∀ j, 10 ≤ j → A' (12 + 3 * f') j = A (12 + 3 * f') j := fun j hj => hfr _ _ (by omega)
    refine ⟨?_, by rw [g 11 (by omega)]; exact q11, fun j hj => ?_, by rw [g 12 (by omega)]; exact q12, by rw [g 13 (by omega)]; exact q13, fun k hk => ?_, ?_⟩
    · by_cases c : f' = f
      · rw [c]
        exact h9
      · rw [hA _ (by omega)]
        exact q9
    · rw [g 11 (by omega)] at hj
      rw [hA (12 + 3 * f' + 1) (by omega)]
      exact ⟨hPK _ (qk j hj).1, (qk j hj).2⟩
    · rw [hA (12 + 3 * f' + 2) (by omega)]
      exact q7 k hk
    · unfold nq_FS at qS ⊢
      rw [g 13 (by omega), g 15 (by omega), g 16 (by omega), g 17 (by omega), g 18 (by omega), hA 0 (by omega)]
      exact qS
  · have hp' := hp
    unfold ni_po at hp'
    have hli : ni_li p ≠ 12 + 3 * f := by
      unfold ni_li
      omega
    obtain ⟨z1, z2, z3, z4, z5, z6, z7, z8, z9, z10, z11, z12⟩ := hP p hp
    unfold nq_PI
    rw [hA p (by omega), hA (p + 1) (by omega), hA (p + 4) (by omega), hA (p + 7) (by omega), hA 0 (by omega), hA (ni_li p) hli]
    refine ⟨?_, z2, z3, z4, z5, z6, fun j hj => hPK _ (z7 j hj), z8, ?_, fun j hj => ?_, z11, z12⟩
    · unfold ni_PT at z1 ⊢
      rw [hA p (by omega), hA (p + 5) (by omega), hA (p + 6) (by omega)]
      exact z1
    · rcases z9 with z | z
      · exact Or.inl z
      · exact Or.inr ⟨hPK _ z.1, z.2⟩
    · rcases z10 j hj with z | z
      · exact Or.inl z
      · exact Or.inr ⟨hPK _ z.1, z.2⟩
  · rw [hA 0 (by omega)] at hfc
    have h1 := hB f' hf' hfc
    have g : ∀ j, 10 ≤ j → A' (12 + 3 * f') j = A (12 + 3 * f') j := fun j hj => hfr _ _ (by omega)
    have h4 : ni_In A' f' 14 = ni_In A f' 14 := ni_InC 14 (fun l hl => ⟨ni_WC (congrFun (hA _ (by omega)) _) (fun j => congrFun (hA _ (by omega)) j) (congrFun (hA _ (by omega)) _) (fun j => congrFun (hA _ (by omega)) j), ni_WC (congrFun (hA _ (by omega)) _) (fun j => congrFun (hA _ (by omega)) j) (congrFun (hA _ (by omega)) _) (fun j => congrFun (hA _ (by omega)) j)⟩)
    unfold nq_dr at h1 ⊢
    rw [h4, g 12 (by omega), g 13 (by omega), g 11 (by omega), hA (12 + 3 * f' + 2) (by omega)]
    exact h1
/-- fields 4 to 9 of a flow -/
theorem nq_InvF {own : Nat → Int} {e : Int} {f : Nat} (h : nq_Inv St own A e) (hf : f < 12) (hfr : ∀ s j, ¬ (s = 12 + 3 * f ∧ 4 ≤ j ∧ j ≤ 9) → A' s j = A s j) (hPK : ∀ x, ni_PK A x → ni_PK A' x) (h9 : 0 ≤ A' (12 + 3 * f) 9 ∧ A' (12 + 3 * f) 9 ≤ 10000) (hb : (f : Int) < A 0 3 → (-1 ≤ A' (12 + 3 * f) 4 ∧ A' (12 + 3 * f) 4 ≤ 1000000) ∧ (0 ≤ A' (12 + 3 * f) 5 ∧ A' (12 + 3 * f) 5 ≤ 50) ∧ (0 ≤ A' (12 + 3 * f) 6 ∧ A' (12 + 3 * f) 6 ≤ 60) ∧ (0 ≤ A' (12 + 3 * f) 7 ∧ A' (12 + 3 * f) 7 ≤ 1000) ∧ (0 ≤ A' (12 + 3 * f) 8 ∧ A' (12 + 3 * f) 8 ≤ 10000)) : nq_Inv St own A' e := by
  refine nq_InvX h (nq_NIk h.1 hf hfr hPK h9) (fun f' hf' hfc => ?_) (fun s j hs => hfr s j ?_)
  · rw [hfr 0 3 (by omega)] at hfc
    obtain ⟨c0, c2, c3, c4⟩ := h.2.1.2.1 f' hf' hfc
    rw [hfr 0 1 (by omega), hfr _ 0 (by omega), hfr _ 2 (by omega), hfr _ 3 (by omega)]
    refine ⟨c0, c2, c3, ?_⟩
    by_cases c : f' = f
    · rw [c] at hfc ⊢
      exact hb hfc
    · rw [hfr _ 4 (by omega), hfr _ 5 (by omega), hfr _ 6 (by omega), hfr _ 7 (by omega), hfr _ 8 (by omega)]
      exact c4
  · unfold ni_isL at hs
    omega
theorem nq_schedule {own : Nat → Int} {e a b c : Int} {f : Nat} (h : nq_Inv St own A e) (hf : f < 12) (hfc : (f : Int) < A 0 3) (ht : A 0 0 ≤ 900000) (ha : A 0 0 ≤ a ∧ a ≤ A 0 0 + 5000) (hb : 1 ≤ b ∧ b ≤ 50) (hc : 1 ≤ c ∧ c ≤ 60) (h4 : A (12 + 3 * f) 4 = -1) : nq_Inv St own (ni_u2 (ni_u2 (ni_u2 A (12 + 3 * f) 4 a) (12 + 3 * f) 5 b) (12 + 3 * f) 6 c) e := by
  have hfr : ∀ s j, ¬ (s = 12 + 3 * f ∧ 4 ≤ j ∧ j ≤ 9) → (ni_u2 (ni_u2 (ni_u2 A (12 + 3 * f) 4 a) (12 + 3 * f) 5 b) (12 + 3 * f) 6 c) s j = A s j := fun s j hs => by rw [ni_u2n (by omega), ni_u2n (by omega), ni_u2n (by omega)]
  have h7 : ∀ j, 7 ≤ j → (ni_u2 (ni_u2 (ni_u2 A (12 + 3 * f) 4 a) (12 + 3 * f) 5 b) (12 + 3 * f) 6 c) (12 + 3 * f) j = A (12 + 3 * f) j := fun j hj => by rw [ni_u2n (by omega), ni_u2n (by omega), ni_u2n (by omega)]
  have h0 := h.1.2.1.1
  have hF := h.1.2.2.2.1 f hf hfc
  have hFC := h.2.1.2.1 f hf hfc
  refine nq_InvF h hf hfr (fun x hx => ?_) (by rw [h7 9 (by omega)]; exact hF.1) (fun _ => ?_)
  · obtain ⟨x1, x2, x3, x4, x5, x6⟩ := hx
    have hne : (x % 16).toNat ≠ f := fun z => by rw [z, h4] at x5; omega
    refine ⟨x1, by rw [hfr 0 3 (by omega)]; exact x2, x3, x4, by rw [hfr _ 4 (by omega)]; exact x5, ?_⟩
    rw [hfr _ 4 (by omega), hfr _ 5 (by omega), hfr 0 0 (by omega)]
    exact x6
  · have g4 : (ni_u2 (ni_u2 (ni_u2 A (12 + 3 * f) 4 a) (12 + 3 * f) 5 b) (12 + 3 * f) 6 c) (12 + 3 * f) 4 = a := by rw [ni_u2n (by omega), ni_u2n (by omega), ni_u2e]
    have g5 : (ni_u2 (ni_u2 (ni_u2 A (12 + 3 * f) 4 a) (12 + 3 * f) 5 b) (12 + 3 * f) 6 c) (12 + 3 * f) 5 = b := by rw [ni_u2n (by omega), ni_u2e]
    have g6 : (ni_u2 (ni_u2 (ni_u2 A (12 + 3 * f) 4 a) (12 + 3 * f) 5 b) (12 + 3 * f) 6 c) (12 + 3 * f) 6 = c := ni_u2e
    rw [h7 7 (by omega), h7 8 (by omega), g4, g5, g6]
    exact ⟨by omega, by omega, by omega, hFC.2.2.2.2.2.2.1, hFC.2.2.2.2.2.2.2⟩
theorem nq_shape {own : Nat → Int} {e a b : Int} {f : Nat} (h : nq_Inv St own A e) (hf : f < 12) (hfc : (f : Int) < A 0 3) (ha : 1 ≤ a ∧ a ≤ 500) (hb : A (12 + 3 * f) 2 ≤ b ∧ b ≤ 5000) : nq_Inv St own (ni_u2 (ni_u2 (ni_u2 A (12 + 3 * f) 7 a) (12 + 3 * f) 8 b) (12 + 3 * f) 9 b) e := by
  have hfr : ∀ s j, ¬ (s = 12 + 3 * f ∧ 7 ≤ j ∧ j ≤ 9) → (ni_u2 (ni_u2 (ni_u2 A (12 + 3 * f) 7 a) (12 + 3 * f) 8 b) (12 + 3 * f) 9 b) s j = A s j := fun s j hs => by rw [ni_u2n (by omega), ni_u2n (by omega), ni_u2n (by omega)]
  have hFC := h.2.1.2.1 f hf hfc
  refine nq_InvF h hf (fun s j hs => hfr s j (by omega)) (fun x hx => ?_) (by rw [ni_u2e]; omega) (fun _ => ?_)
  · obtain ⟨x1, x2, x3, x4, x5, x6⟩ := hx
    refine ⟨x1, by rw [hfr 0 3 (by omega)]; exact x2, x3, x4, by rw [hfr _ 4 (by omega)]; exact x5, ?_⟩
    rw [hfr _ 4 (by omega), hfr _ 5 (by omega), hfr 0 0 (by omega)]
    exact x6
  · have g7 : (ni_u2 (ni_u2 (ni_u2 A (12 + 3 * f) 7 a) (12 + 3 * f) 8 b) (12 + 3 * f) 9 b) (12 + 3 * f) 7 = a := by rw [ni_u2n (by omega), ni_u2n (by omega), ni_u2e]
    have g8 : (ni_u2 (ni_u2 (ni_u2 A (12 + 3 * f) 7 a) (12 + 3 * f) 8 b) (12 + 3 * f) 9 b) (12 + 3 * f) 8 = b := by rw [ni_u2n (by omega), ni_u2e]
    rw [hfr _ 4 (by omega), hfr _ 5 (by omega), hfr _ 6 (by omega), g7, g8]
    exact ⟨hFC.2.2.2.1, hFC.2.2.2.2.1, hFC.2.2.2.2.2.1, by omega, by omega⟩
end NKS
