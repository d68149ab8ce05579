/-! A LINK IS CUT -/
section NXK
variable {xs : List Int32} {St : Nat → Option ni_C} {M : ni_H} {ad rw cp : Nat → Nat} {A A' A1 A2 A3 : Nat → Nat → Int} {own : Nat → Int}
theorem nl_put {p l : Nat} {v : Int} (hp : ni_po p) (hl : l < 14) (h : nl_L A1 A2 p) : nl_L (ni_u2 A1 (48 + 17 * l) 5 v) (ni_u2 A2 (48 + 17 * l) 5 v) p := by
  have hp' := hp
  unfold ni_po at hp'
  obtain ⟨l1, l2, l3, l4, l5, l6⟩ := h
  have g : ∀ (X : Nat → Nat → Int) s j, s ≠ 48 + 17 * l → ni_u2 X (48 + 17 * l) 5 v s j = X s j := fun X s j hs => ni_u2n (Or.inl hs)
  have gp : ∀ (X : Nat → Nat → Int) k j, k < 8 → ni_u2 X (48 + 17 * l) 5 v (p + k) j = X (p + k) j := fun X k j hk => g X _ _ (by omega)
  have gp0 : ∀ (X : Nat → Nat → Int) j, ni_u2 X (48 + 17 * l) 5 v p j = X p j := fun X j => gp X 0 j (by omega)
  have gf : ∀ (X : Nat → Nat → Int) k, k < 8 → ni_u2 X (48 + 17 * l) 5 v (p + k) = X (p + k) := fun X k hk => funext fun j => gp X k j hk
  refine ⟨fun f hf => ?_, ?_, fun j hj => ?_, fun j hj => ?_, ⟨?_, ?_⟩, fun s j g1 g2 g3 g4 g5 => ?_⟩
  · rw [g _ _ _ (by omega), g _ _ _ (by omega), l1 f hf]
    unfold nq_W
    rw [gf _ 7 (by omega), gf _ 4 (by omega), gp0, gp0]
  · rw [gp0, gp0, gp0, gp0, gp0, gp0]
    exact l2
  · rw [gp _ 6 _ (by omega)]
    exact l3 j hj
  · rw [gp _ 4 _ (by omega)]
    exact l4 j hj
  · rw [gp _ 1 _ (by omega), gp _ 1 _ (by omega), gf _ 4 (by omega)]
    exact l5.1
  · rw [gp _ 1 _ (by omega)]
    exact l5.2
  · by_cases c : s = 48 + 17 * l ∧ j = 5
    · rw [c.1, c.2, ni_u2e, ni_u2e]
    · rw [ni_u2n (by omega), ni_u2n (by omega)]
      exact l6 s j g1 g2 g3 g4 g5
theorem nl_u2u {k j : Nat} {v : Int} : ni_u2 (ni_u2 A k j v) k j (A k j) = A := by
  funext s i
  by_cases c : s = k ∧ i = j
  · rw [c.1, c.2, ni_u2e]
  · rw [ni_u2n (by omega), ni_u2n (by omega)]
theorem nl_cutInv {e : Int} {l : Nat} (h : nq_Inv St own A e) (hl : l < 14) (hlc : (l : Int) < A 0 2) (hL1 : nl_L (ni_u2 A (48 + 17 * l) 5 0) A2 (49 + 17 * l)) (hL2 : nl_L A2 A3 (57 + 17 * l)) : nq_Inv St own A3 (e + 544) ∧ (∀ s j, s < 12 ∨ 286 ≤ s → A3 s j = A s j) ∧ ∀ s j, 48 ≤ s → (s < 48 + 17 * l ∨ 48 + 17 * l + 17 ≤ s) → A3 s j = A s j := by
  have hInv := h
  obtain ⟨hNI, hC, hLE, hLD, hLV, hlc', hLA, hRK, hRT, ⟨hPN, hPS, hSS⟩, hdead⟩ := h
  have p1 : ni_po (49 + 17 * l) := by unfold ni_po; omega
  have p9 : ni_po (57 + 17 * l) := by unfold ni_po; omega
  have m1 := nl_put (v := A (48 + 17 * l) 5) p1 hl hL1
  rw [nl_u2u] at m1
  have m2 := nl_put (v := A (48 + 17 * l) 5) p9 hl hL2
  have n1 := nl_NI hNI p1 m1
  have n2 := nl_NI n1 p9 m2
  rw [show e + 272 + 272 = e + 544 by omega] at n2
  obtain ⟨a1, a2, a3, a4, a5, a6⟩ := hL1
  obtain ⟨b1, b2, b3, b4, b5, b6⟩ := hL2
  have u : ∀ (X : Nat → Nat → Int) (v : Int) s j, s ≠ 48 + 17 * l ∨ j ≠ 5 → ni_u2 X (48 + 17 * l) 5 v s j = X s j := fun X v s j hs => ni_u2n hs
  have q6 : ∀ s j, (j = 6 → ∀ f : Nat, f < 12 → s ≠ 12 + 3 * f + 2) → (s < 49 + 17 * l ∨ 48 + 17 * l + 17 ≤ s) → ¬ (s = 48 + 17 * l ∧ j = 5) → A3 s j = A s j := fun s j g1 g2 g3 => by
    rw [b6 s j g1 (by omega) (by omega) (by omega) (by omega), a6 s j g1 (by omega) (by omega) (by omega) (by omega), ni_u2n (by omega)]
  have k5 : A3 (48 + 17 * l) 5 = 0 := by
    rw [b6 _ _ (fun z => by omega) (by omega) (by omega) (by omega) (by omega), a6 _ _ (fun z => by omega) (by omega) (by omega) (by omega) (by omega), ni_u2e]
  have hlow : ∀ s j, s < 12 ∨ 286 ≤ s → A3 s j = A s j := fun s j hs => q6 s j (fun _ f hf => by omega) (by omega) (by omega)
  have hoth : ∀ s j, 48 ≤ s → (s < 48 + 17 * l ∨ 48 + 17 * l + 17 ≤ s) → A3 s j = A s j := fun s j h1 h2 => q6 s j (fun _ f hf => by omega) (by omega) (by omega)
  have e02 : A3 0 2 = A 0 2 := hlow 0 2 (by omega)
  have e01 : A3 0 1 = A 0 1 := hlow 0 1 (by omega)
  have e03 : A3 0 3 = A 0 3 := hlow 0 3 (by omega)
  have gl : ∀ i j : Nat, i < 14 → ¬ (i = l ∧ j = 5) → A3 (48 + 17 * i) j = A (48 + 17 * i) j := fun i j hi hj => q6 _ _ (fun _ f hf => by omega) (by omega) (by omega)
  have e1a : A3 (49 + 17 * l) 10 = 0 := by rw [b6 _ _ (fun z => by omega) (by omega) (by omega) (by omega) (by omega)]; exact a2.1
  have e1b : A3 (49 + 17 * l) 12 = -1 := by rw [b6 _ _ (fun z => by omega) (by omega) (by omega) (by omega) (by omega)]; exact a2.2.2.1
  have e1c : ∀ j, j < 21 → A3 (49 + 17 * l + 4) j = -1 := fun j hj => by rw [b6 _ _ (fun z f hf => by omega) (by omega) (by omega) (by omega) (by omega)]; exact a4 j hj
  refine ⟨nq_InvL hInv (nq_NIg n2 (fun s hs => Or.inl (funext fun j => (u A3 _ s j (by omega)).symm)) (fun j _ _ => (u A3 _ 0 j (by omega)).symm) (fun s h1 h2 h3 j => (u A3 _ s j (by omega)).symm) (fun p hp => ?_)) (fun f hf hfc => ?_) (fun i hi => ?_) (fun i hi hi2 => ?_) (fun i hi hi2 => ?_) (fun i hi => ?_) (by rw [e02]; exact hlc') (fun i hi hi2 => ?_) (fun p hp => ?_) (fun s j hs => hlow s j (by omega)), hlow, hoth⟩
  · have hp' := hp
    unfold ni_po at hp'
    have hz := n2.2.2.2.2.1 p hp
    have hli : ni_li p = 48 + 17 * ((p - 48) / 17) := rfl
    refine nq_PIg (fun x hx => ?_) (u A3 _ 0 0 (by omega)).symm (fun k hk j => (u A3 _ _ _ (by unfold ni_li at hli; omega)).symm) (u A3 _ _ _ (Or.inr (by omega))).symm (fun h5 => ?_) hz
    · obtain ⟨x1, x2, x3⟩ := hx
      have h12 := hNI.1.2
      unfold ni_PK
      rw [u A3 _ 0 3 (by omega)] at x2
      rw [u A3 _ 0 0 (by omega), u A3 _ _ 4 (by omega), u A3 _ _ 5 (by omega)] at x3
      exact ⟨x1, x2, x3⟩
    · by_cases c : ni_li p = 48 + 17 * l
      · have : p = 49 + 17 * l ∨ p = 57 + 17 * l := by omega
        rcases this with r | r
        · rw [r, u A3 _ _ 10 (by omega), u A3 _ _ 12 (by omega)]
          exact ⟨e1a, e1b, fun j hj => by rw [u A3 _ _ _ (by omega)]; exact e1c j hj⟩
        · rw [r, u A3 _ _ 10 (by omega), u A3 _ _ 12 (by omega)]
          exact ⟨b2.1, b2.2.2.1, fun j hj => by rw [u A3 _ _ _ (by omega)]; exact b4 j hj⟩
      · exact hz.2.2.2.2.2.2.2.2.2.2.2 (by rw [u A3 _ _ _ (Or.inl c)]; exact h5)
  · rw [e03] at hfc
    have := hC.2.1 f hf hfc
    have g : ∀ j, A3 (12 + 3 * f) j = A (12 + 3 * f) j := fun j => q6 _ _ (fun _ f' hf' => by omega) (by omega) (by omega)
    rw [g, g, g, g, g, g, g, g, e01]
    exact this
  · have := hC.1 i hi
    rw [gl i 0 hi (by omega), gl i 1 hi (by omega)]
    refine ⟨this.1, this.2.1, ?_⟩
    by_cases c : i = l
    · rw [c, k5]
      exact Or.inl rfl
    · rw [gl i 5 hi (by omega)]
      exact this.2.2
  · rw [e02] at hi2
    rw [gl i 0 hi (by omega), gl i 1 hi (by omega), e01]
    exact hLE i hi hi2
  · by_cases c : i = l
    · rw [c, k5] at hi2
      exact absurd rfl hi2
    · rw [gl i 5 hi (by omega)] at hi2
      rw [gl i 4 hi (by omega)]
      exact hLD i hi hi2
  · rw [gl i 3 hi (by omega), gl i 4 hi (by omega)]
    exact hLV i hi
  · rw [e02] at hi2
    obtain ⟨d1, d2, d3⟩ := hdead i hi hi2
    rw [gl i 5 hi (by omega), hoth (50 + 17 * i) 2 (by omega) (by omega), hoth (58 + 17 * i) 2 (by omega) (by omega)]
    exact ⟨d1, d2, d3⟩
  · have hp' := hp
    unfold ni_ln0 at hp'
    obtain ⟨w1, w2⟩ := hLA p hp
    by_cases c : p = 50 + 17 * l
    · subst c
      have : A3 (50 + 17 * l) 2 = 0 := by rw [b6 _ _ (fun z => by omega) (by omega) (by omega) (by omega) (by omega)]; rw [show 50 + 17 * l = 49 + 17 * l + 1 by omega]; exact a5.2
      unfold ni_LL
      rw [this]
      exact ⟨by omega, fun j hj => by omega⟩
    · by_cases c2 : p = 58 + 17 * l
      · subst c2
        have : A3 (58 + 17 * l) 2 = 0 := by rw [show 58 + 17 * l = 57 + 17 * l + 1 by omega]; exact b5.2
        unfold ni_LL
        rw [this]
        exact ⟨by omega, fun j hj => by omega⟩
      · unfold ni_LL
        rw [hoth p 2 (by omega) (by omega)]
        refine ⟨w1, fun j hj => ?_⟩
        rw [hoth (p + 1) j (by omega) (by omega), hoth (p + 2) j (by omega) (by omega)]
        exact w2 j hj
theorem nl_pk {x : Int} (h3 : A 0 3 ≤ 12) (h : ni_PK A x) : ni_pk x := Or.inr ⟨h.1.1, h.1.2, by have := h.2.1; omega⟩
theorem nl_pre {e : Int} {p : Nat} (h : nq_NI A e (fun _ => 0) (fun _ => 0)) (hp : ni_po p) : (0 ≤ A p 10 ∧ A p 10 ≤ 250) ∧ (∀ i : Nat, (i : Int) < A p 10 → ni_pk (A (p + 7) i)) ∧ ni_pk (A p 12) ∧ ∀ i : Nat, i < 21 → ni_pk (A (p + 4) i) := by
  obtain ⟨z1, z2, z3, z4, z5, z6, z7, z8, z9, z10, z11, z12⟩ := h.2.2.2.2.1 p hp
  have h3 := h.1.2
  exact ⟨z6, fun i hi => nl_pk h3 (z7 i hi), z9.elim (fun z => Or.inl z.1) (fun z => nl_pk h3 z.1), fun i hi => (z10 i hi).elim Or.inl (fun z => nl_pk h3 z.1)⟩
theorem mt_cut {e : Int} {l : Nat} (hR : ni_Rep St M ad rw cp A (ni_live A)) (h : nq_Inv St own A e) (hCO : nq_CO A) (hl : l < 14) (hlc : (l : Int) < A 0 2) (hown : ∀ x, own x ≤ 800000) (hb : M.1.length + 57350 ≤ 900000 + ni_gz cp) : wp_C xs 7 78 [.ref (ad 0), ni_z (l : Int)] M (fun u M' => u = none ∧ ∃ A3, (nq_CO A3 ∧ (∀ s j, s < 12 ∨ 286 ≤ s → A3 s j = A s j) ∧ (∀ s j, 48 ≤ s → (s < 48 + 17 * l ∨ 48 + 17 * l + 17 ≤ s) → A3 s j = A s j) ∧ ∀ j, j ≠ 5 → A3 (48 + 17 * l) j = A (48 + 17 * l) j) ∧ (∀ f : Nat, f < 12 → (∀ j, A3 (12 + 3 * f) j = A (12 + 3 * f) j) ∧ (∀ j, A3 (12 + 3 * f + 1) j = A (12 + 3 * f + 1) j) ∧ (A 0 3 ≤ f → (∀ j, A3 (12 + 3 * f + 2) j = A (12 + 3 * f + 2) j))) ∧ nx_Q St own A3 (e + 544) 2 M ad rw cp M') := by
  have hx : ni_Sx St M ad rw cp M rw cp A (ni_live A) := ⟨hR, ni_KpR⟩
  have hInv := h
  have hli := ni_liS l hl
  obtain ⟨hNI, hC, hLE, hLD, hLV, hlc', hLA, hRK, hRT, _, hdead⟩ := h
  have p1 : ni_po (49 + 17 * l) := by unfold ni_po; omega
  have p9 : ni_po (57 + 17 * l) := by unfold ni_po; omega
  obtain ⟨A1, hA1⟩ : ∃ A1, A1 = ni_u2 A (48 + 17 * l) 5 0 := ⟨_, rfl⟩
  have u1 : ∀ s j, s ≠ 48 + 17 * l → A1 s j = A s j := fun s j hs => by rw [hA1]; exact ni_u2n (Or.inl hs)
  obtain ⟨t1, t2, t3, t4⟩ := nl_pre hNI p1
  obtain ⟨v1, v2, v3, v4⟩ := nl_pre hNI p9
  have L1 : nl_L A1 (nl_lose A1 (49 + 17 * l)) (49 + 17 * l) := nl_loseL (by omega) (fun i hi => by rw [u1 _ _ (by omega)] at hi ⊢; exact t2 i (by omega)) (by rw [u1 _ _ (by omega)]; exact t3) (fun i hi => by rw [u1 _ _ (by omega)]; exact t4 i hi)
  have D1 := mt_lose (xs := xs) (St := St) (A := A1) (ni_o3_1 hli.1 hli.2).1 (ni_o3_1 hli.1 hli.2).2.1 (by rw [u1 _ _ (by omega)]; rw [show 48 + 17 * l + 1 = 49 + 17 * l by omega]; exact t1) (fun i hi => by rw [u1 _ _ (by omega)] at hi ⊢; rw [show 48 + 17 * l + 1 = 49 + 17 * l by omega] at hi ⊢; exact t2 i hi) (by rw [u1 _ _ (by omega)]; rw [show 48 + 17 * l + 1 = 49 + 17 * l by omega]; exact t3) (fun i hi => by rw [u1 _ _ (by omega)]; rw [show 48 + 17 * l + 1 + 1 + 3 = 49 + 17 * l + 4 by omega]; exact t4 i hi)
  rw [show ni_cleared (ni_u2 (ni_ls (ni_u2 (ni_u2 (ni_l1 (ni_u2 (ni_u2 (ni_lq A1 (48 + 17 * l + 1) (A1 (48 + 17 * l + 1) 10).toNat) (48 + 17 * l + 1) 10 0) (48 + 17 * l + 1) 11 0) (A1 (48 + 17 * l + 1) 12)) (48 + 17 * l + 1) 12 (-1)) (48 + 17 * l + 1) 13 0) (48 + 17 * l + 1 + 1) 21) (48 + 17 * l + 1 + 1) 2 0) (48 + 17 * l + 1) = nl_lose A1 (49 + 17 * l) by rw [show 49 + 17 * l = 48 + 17 * l + 1 by omega]; rfl] at D1
  revert D1 L1
  generalize nl_lose A1 (49 + 17 * l) = A2
  intro L1 D1
  have b6 := L1.2.2.2.2.2
  have u2 : ∀ k j, 57 + 17 * l ≤ k → k < 66 + 17 * l → A2 k j = A k j := fun k j h1 h2 => by rw [b6 _ _ (fun _ f hf => by omega) (by omega) (by omega) (by omega) (by omega)]; exact u1 _ _ (by omega)
  have L2 : nl_L A2 (nl_lose A2 (57 + 17 * l)) (57 + 17 * l) := nl_loseL (by omega) (fun i hi => by rw [u2 _ _ (by omega) (by omega)] at hi ⊢; exact v2 i (by omega)) (by rw [u2 _ _ (by omega) (by omega)]; exact v3) (fun i hi => by rw [u2 _ _ (by omega) (by omega)]; exact v4 i hi)
  have D2 := mt_lose (xs := xs) (St := St) (A := A2) (ni_o3_9 hli.1 hli.2).1 (ni_o3_9 hli.1 hli.2).2.1 (by rw [u2 _ _ (by omega) (by omega)]; rw [show 48 + 17 * l + 9 = 57 + 17 * l by omega]; exact v1) (fun i hi => by rw [u2 _ _ (by omega) (by omega)] at hi ⊢; rw [show 48 + 17 * l + 9 = 57 + 17 * l by omega] at hi ⊢; exact v2 i hi) (by rw [u2 _ _ (by omega) (by omega)]; rw [show 48 + 17 * l + 9 = 57 + 17 * l by omega]; exact v3) (fun i hi => by rw [u2 _ _ (by omega) (by omega)]; rw [show 48 + 17 * l + 9 + 1 + 3 = 57 + 17 * l + 4 by omega]; exact v4 i hi)
  rw [show ni_cleared (ni_u2 (ni_ls (ni_u2 (ni_u2 (ni_l1 (ni_u2 (ni_u2 (ni_lq A2 (48 + 17 * l + 9) (A2 (48 + 17 * l + 9) 10).toNat) (48 + 17 * l + 9) 10 0) (48 + 17 * l + 9) 11 0) (A2 (48 + 17 * l + 9) 12)) (48 + 17 * l + 9) 12 (-1)) (48 + 17 * l + 9) 13 0) (48 + 17 * l + 9 + 1) 21) (48 + 17 * l + 9 + 1) 2 0) (48 + 17 * l + 9) = nl_lose A2 (57 + 17 * l) by rw [show 57 + 17 * l = 48 + 17 * l + 9 by omega]; rfl] at D2
  revert D2 L2
  generalize nl_lose A2 (57 + 17 * l) = A3
  intro L2 D2
  rw [hA1] at L1
  obtain ⟨i3, g3, g4⟩ := nl_cutInv hInv hl hlc L1 L2
  rw [← hA1] at L1
  have c6 := L2.2.2.2.2.2
  have gL : ∀ j, j ≠ 5 → A3 (48 + 17 * l) j = A (48 + 17 * l) j := fun j hj => by
    rw [c6 _ _ (fun _ f hf => by omega) (by omega) (by omega) (by omega) (by omega), b6 _ _ (fun _ f hf => by omega) (by omega) (by omega) (by omega) (by omega), hA1, ni_u2n (Or.inr hj)]
  have hCO3 : nq_CO A3 := fun i hi hi2 => by
    rw [g3 0 2 (by omega)] at hi2
    by_cases c : i = l
    · rw [c, gL 2 (by omega), ← c]
      exact hCO i hi hi2
    · rw [g4 _ _ (by omega) (by omega)]
      exact hCO i hi hi2
  have gF : ∀ f : Nat, f < 12 → (∀ j, A3 (12 + 3 * f) j = A (12 + 3 * f) j) ∧ (∀ j, A3 (12 + 3 * f + 1) j = A (12 + 3 * f + 1) j) ∧ (A 0 3 ≤ f → (∀ j, A3 (12 + 3 * f + 2) j = A (12 + 3 * f + 2) j)) := fun f hf => by
    refine ⟨fun j => ?_, fun j => ?_, fun hfc j => ?_⟩
    · rw [c6 _ _ (fun _ f hf => by omega) (by omega) (by omega) (by omega) (by omega), b6 _ _ (fun _ f hf => by omega) (by omega) (by omega) (by omega) (by omega), u1 _ _ (by omega)]
    · rw [c6 _ _ (fun _ f hf => by omega) (by omega) (by omega) (by omega) (by omega), b6 _ _ (fun _ f hf => by omega) (by omega) (by omega) (by omega) (by omega), u1 _ _ (by omega)]
    · have zero : ∀ (X : Nat → Nat → Int) (p : Nat), (∀ i : Nat, (i : Int) < X p 10 → ni_PK A (X (p + 7) i)) → ((X p 12 = -1) ∨ ni_PK A (X p 12)) → (∀ i : Nat, i < 21 → X (p + 4) i = -1 ∨ ni_PK A (X (p + 4) i)) → nq_W X p f = 0 := fun X p k1 k2 k3 => by
        have isz : ∀ x, x = -1 ∨ ni_PK A x → ni_is f x = 0 := fun x hx => by
          rcases hx with r | r
          · rw [r]
            exact ni_isN hf
          · unfold ni_is
            have := r.2.1
            rw [if_neg (by omega)]
        have sz : ∀ (g : Nat → Int) (n : Nat), (∀ i : Nat, i < n → g i = -1 ∨ ni_PK A (g i)) → ni_sw (ni_is f) g n = 0 := by
          intro g n
          induction n with
          | zero => intro _; rfl
          | succ n ih =>
            intro hh
            show ni_sw (ni_is f) g n + ni_is f (g n) = 0
            rw [ih (fun i hi => hh i (by omega)), isz _ (hh n (by omega))]
            rfl
        unfold nq_W
        rw [sz _ _ (fun i hi => Or.inr (k1 i (by omega))), isz _ k2, sz _ _ k3]
        rfl
      by_cases c : j = 6
      · obtain ⟨z1, z2, z3, z4, z5, z6, z7, z8, z9, z10, z11, z12⟩ := hNI.2.2.2.2.1 _ p1
        obtain ⟨y1, y2, y3, y4, y5, y6, y7, y8, y9, y10, y11, y12⟩ := hNI.2.2.2.2.1 _ p9
        rw [c, L2.1 f hf, L1.1 f hf, zero A1 _ (fun i hi => by rw [u1 _ _ (by omega)] at hi ⊢; exact z7 i hi) (by rw [u1 _ _ (by omega)]; exact z9.imp (fun z => z.1) (fun z => z.1)) (fun i hi => by rw [u1 _ _ (by omega)]; exact (z10 i hi).imp id (fun z => z.1)), zero A2 _ (fun i hi => by rw [u2 _ _ (by omega) (by omega)] at hi ⊢; exact y7 i hi) (by rw [u2 _ _ (by omega) (by omega)]; exact y9.imp (fun z => z.1) (fun z => z.1)) (fun i hi => by rw [u2 _ _ (by omega) (by omega)]; exact (y10 i hi).imp id (fun z => z.1)), u1 _ _ (by omega)]
        omega
      · rw [c6 _ _ (fun z => absurd z c) (by omega) (by omega) (by omega) (by omega), b6 _ _ (fun z => absurd z c) (by omega) (by omega) (by omega) (by omega), u1 _ _ (by omega)]
  obtain ⟨w0, w1, _⟩ := i3.2.1.1 l hl
  obtain ⟨c0, c1⟩ := i3.2.2.1 l hl (by rw [g3 0 2 (by omega)]; exact hlc)
  have g01 := g3 0 1 (by omega)
  refine wp_enter (Nat.le_of_ble_eq_true rfl) (ls := [.ref (ad 0), ni_z (l : Int), ni_J]) rfl ?_
  refine wp_Ld rfl rfl rfl ?_
  refine ws_Get (v := .ref (ad 2)) rfl hx (show ni_us 0 = true by decide +kernel) (show ni_kd 0 = 4 by decide +kernel) rfl rfl rfl ?_
  refine wp_Ld rfl rfl rfl ?_
  refine ws_Qld (q := 6) (y := 78) (pc := 5) (s := 2) (n := 14) (t := 102) (j := l) (v := .ref (ad (48 + 17 * l))) rfl hx (show ni_us 2 = true by decide +kernel) (show ni_kd 2 = 102 by decide +kernel) (show ni_ln 2 = 14 by decide +kernel) ⟨by decide, rfl⟩ rfl (by omega) (by decide) (ni_LR hx (show ni_us 2 = true by decide +kernel) (by decide +kernel) (by omega)) rfl rfl ?_
  refine wp_St (ls' := [.ref (ad 0), ni_z (l : Int), .ref (ad (48 + 17 * l))]) rfl rfl rfl ?_
  refine wp_Ld rfl rfl rfl ?_
  refine wp_P (g := ni_gPush (.int 0) 9) rfl (wp_push (z := 0) rfl) ?_
  refine ws_Put (q := 12) (y := 78) (pc := 9) rfl hx hli.1 hli.2 rfl rfl (fun _ => rfl) (ni_fitB (Or.inl rfl)) (fun z _ => by cases z) fun M1 hx1 => ?_
  have hx1' : ni_Sx St M ad rw cp M1 rw cp A1 (ni_live A1) := by
    rw [hA1]
    exact ⟨ni_RepC hx1.1 (ni_clU (ni_clR A) hli.1 hli.2 rfl), hx1.2⟩
  refine wp_Ld rfl rfl rfl ?_
  refine ws_Get (v := .ref (ad (48 + 17 * l + 1))) rfl hx1' hli.1 hli.2 rfl rfl rfl ?_
  refine wp_Ld rfl rfl rfl ?_
  refine ws_Get (v := .ref (ad 3)) rfl hx1' (show ni_us 0 = true by decide +kernel) (show ni_kd 0 = 4 by decide +kernel) rfl rfl rfl ?_
  refine ws_V (q := 23) (y := 78) (pc := 20) (s := 48 + 17 * l + 1) (r := []) (as := [.ref (ad 3)]) rfl rfl rfl hx1' (ni_clR A1) (ni_o3_1 hli.1 hli.2).1 (ni_o3_1 hli.1 hli.2).2.1 rfl (Nat.le_of_ble_eq_true rfl) (ni_Dup D1 (by decide)) rfl fun M2 rw2 cp2 hx2 => ?_
  refine wp_Ld rfl rfl rfl ?_
  refine ws_Get (v := .ref (ad (48 + 17 * l + 9))) rfl hx2 hli.1 hli.2 rfl rfl rfl ?_
  refine wp_Ld rfl rfl rfl ?_
  refine ws_Get (v := .ref (ad 3)) rfl hx2 (show ni_us 0 = true by decide +kernel) (show ni_kd 0 = 4 by decide +kernel) rfl rfl rfl ?_
  refine ws_V (q := 34) (y := 78) (pc := 31) (s := 48 + 17 * l + 9) (r := []) (as := [.ref (ad 3)]) rfl rfl rfl hx2 (ni_clR A2) (ni_o3_9 hli.1 hli.2).1 (ni_o3_9 hli.1 hli.2).2.1 rfl (Nat.le_of_ble_eq_true rfl) (ni_Dup D2 (by decide)) rfl fun M3 rw3 cp3 hx3 => ?_
  have q0 := nx_Q0 i3 hx3
  obtain ⟨a, ha⟩ : ∃ a : Nat, (a : Int) = A3 (48 + 17 * l) 0 := ⟨(A3 (48 + 17 * l) 0).toNat, by omega⟩
  obtain ⟨b, hbb⟩ : ∃ b : Nat, (b : Int) = A3 (48 + 17 * l) 1 := ⟨(A3 (48 + 17 * l) 1).toNat, by omega⟩
  refine wp_Ld rfl rfl rfl ?_
  refine wp_Ld rfl rfl rfl ?_
  refine nx_getL (x := (a : Int)) rfl q0 hl (by omega) ha.symm ?_
  obtain ⟨y0, n0⟩ := nx_net q0
  refine wp_V (r := []) (as := [ni_z (a : Int)]) rfl rfl rfl n0 (Nat.le_of_ble_eq_true rfl) (nx_thenW q0 hCO3 (by omega) (by omega) (by have := hown a; omega) (by omega)) ?_
  rintro z1 M4 ⟨hz1, q1⟩
  rw [hz1]
  refine wp_Ld rfl rfl rfl ?_
  refine wp_Ld rfl rfl rfl ?_
  refine nx_getL (x := (b : Int)) rfl q1 hl (by omega) hbb.symm ?_
  obtain ⟨y1, n1⟩ := nx_net q1
  refine wp_V (r := []) (as := [ni_z (b : Int)]) rfl rfl rfl n1 (Nat.le_of_ble_eq_true rfl) (nx_thenW q1 hCO3 (by omega) (by omega) (by have := hown b; omega) (by omega)) ?_
  rintro z2 M5 ⟨hz2, q2⟩
  rw [hz2]
  exact wp_Rv rfl rfl ⟨rfl, A3, ⟨hCO3, g3, g4, gL⟩, gF, q2⟩
end NXK
