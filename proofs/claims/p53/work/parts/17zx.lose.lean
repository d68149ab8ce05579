/-! WHAT A PORT LOSES IS DROPPED -/
section NXO
variable {St : Nat → Option ni_C} {A A' B : Nat → Nat → Int}
theorem nl_l1 {x : Int} {s j : Nat} (hx : ni_pk x) (h : j = 6 → ∀ f : Nat, f < 12 → s ≠ 12 + 3 * f + 2) : ni_l1 A x s j = A s j := by
  unfold ni_l1
  by_cases e : x = -1
  · rw [if_pos e]
  · rw [if_neg e]
    have h1 : x % 16 < 12 := by
      rcases hx with h | h
      · exact absurd h e
      · exact h.2.2
    have h0 : 0 ≤ x % 16 := Int.emod_nonneg _ (by omega)
    refine ni_u2n ?_
    by_cases c : j = 6
    · exact Or.inl (h c (x % 16).toNat (by omega))
    · exact Or.inr c
theorem nl_l1e {x : Int} {f : Nat} (hx : ni_pk x) (hf : f < 12) : ni_l1 A x (12 + 3 * f + 2) 6 = A (12 + 3 * f + 2) 6 + ni_is f x := by
  unfold ni_l1 ni_is
  by_cases e : x = -1
  · rw [if_pos e, if_neg (by omega)]
    omega
  · rw [if_neg e]
    have h0 : 0 ≤ x % 16 := Int.emod_nonneg _ (by omega)
    by_cases c : x % 16 = f
    · rw [if_pos c, show (x % 16).toNat = f by omega, ni_u2e]
    · rw [if_neg c, ni_u2n (by omega)]
      omega
theorem nl_lq {p s j : Nat} : ∀ n : Nat, (∀ i, i < n → ni_pk (A (p + 7) i)) → (j = 6 → ∀ f : Nat, f < 12 → s ≠ 12 + 3 * f + 2) → ni_lq A p n s j = A s j := by
  intro n
  induction n with
  | zero => exact fun _ _ => rfl
  | succ n ih =>
    intro h hs
    show ni_l1 (ni_lq A p n) (A (p + 7) n) s j = _
    rw [nl_l1 (h n (by omega)) hs]
    exact ih (fun i hi => h i (by omega)) hs
theorem nl_lqe {p f : Nat} (hf : f < 12) : ∀ n : Nat, (∀ i, i < n → ni_pk (A (p + 7) i)) → ni_lq A p n (12 + 3 * f + 2) 6 = A (12 + 3 * f + 2) 6 + ni_sw (ni_is f) (A (p + 7)) n := by
  intro n
  induction n with
  | zero => intro _; show A _ 6 = A _ 6 + 0; omega
  | succ n ih =>
    intro h
    show ni_l1 (ni_lq A p n) (A (p + 7) n) (12 + 3 * f + 2) 6 = A (12 + 3 * f + 2) 6 + (ni_sw (ni_is f) (A (p + 7)) n + ni_is f (A (p + 7) n))
    rw [nl_l1e (h n (by omega)) hf, ih (fun i hi => h i (by omega))]
    omega
/-- the slots of a line -/
theorem nl_ls {l : Nat} (hl : 50 ≤ l) (hB : ∀ i, i < 21 → ni_pk (B (l + 3) i)) : ∀ n : Nat, n ≤ 21 → (∀ s j, (j = 6 → ∀ f : Nat, f < 12 → s ≠ 12 + 3 * f + 2) → ¬ (s = l + 3 ∧ j < n) → ¬ (s = l ∧ j = 4) → ni_ls B l n s j = B s j) ∧ (∀ j, j < n → ni_ls B l n (l + 3) j = -1) ∧ ni_ls B l n l 4 = B l 4 - ni_sw ni_an (B (l + 3)) n ∧ ∀ f : Nat, f < 12 → ni_ls B l n (12 + 3 * f + 2) 6 = B (12 + 3 * f + 2) 6 + ni_sw (ni_is f) (B (l + 3)) n := by
  intro n
  induction n with
  | zero => exact fun _ => ⟨fun _ _ _ _ _ => rfl, fun j hj => by omega, by show B l 4 = B l 4 - 0; omega, fun f _ => by show B _ 6 = B _ 6 + 0; omega⟩
  | succ n ih =>
    intro hn
    obtain ⟨h1, h2, h3, h4⟩ := ih (by omega)
    have e : ni_ls B l (n + 1) = ni_ls1 (ni_ls B l n) l n := rfl
    have ex : ni_ls B l n (l + 3) n = B (l + 3) n := h1 _ _ (fun _ f hf => by omega) (by omega) (by omega)
    have hx := hB n (by omega)
    have sa : ni_sw ni_an (B (l + 3)) (n + 1) = ni_sw ni_an (B (l + 3)) n + ni_an (B (l + 3) n) := rfl
    have si : ∀ f, ni_sw (ni_is f) (B (l + 3)) (n + 1) = ni_sw (ni_is f) (B (l + 3)) n + ni_is f (B (l + 3) n) := fun _ => rfl
    rw [e]
    unfold ni_ls1
    rw [ex]
    by_cases c : B (l + 3) n = -1
    · rw [if_pos c]
      refine ⟨fun s j g1 g2 g3 => h1 s j g1 (by omega) g3, fun j hj => ?_, ?_, fun f hf => ?_⟩
      · by_cases cj : j = n
        · rw [cj, ex, c]
        · exact h2 j (by omega)
      · rw [h3, sa, c]
        unfold ni_an
        rw [if_pos rfl]
        omega
      · rw [h4 f hf, si, c, ni_isN hf]
        omega
    · rw [if_neg c]
      refine ⟨fun s j g1 g2 g3 => ?_, fun j hj => ?_, ?_, fun f hf => ?_⟩
      · rw [nl_l1 hx g1, ni_u2n (by omega), ni_u2n (by omega)]
        exact h1 s j g1 (by omega) g3
      · rw [nl_l1 hx (fun _ f hf => by omega), ni_u2n (by omega)]
        by_cases cj : j = n
        · rw [cj, ni_u2e]
        · rw [ni_u2n (by omega)]
          exact h2 j (by omega)
      · rw [nl_l1 hx (fun _ f hf => by omega), ni_u2e, h3, sa]
        unfold ni_an
        rw [if_neg c]
        omega
      · rw [nl_l1e hx hf, ni_u2n (by omega), ni_u2n (by omega), h4 f hf, si]
        omega
/-- what is lost, of the port p -/
def nl_L (A A' : Nat → Nat → Int) (p : Nat) : Prop := (∀ f : Nat, f < 12 → A' (12 + 3 * f + 2) 6 = A (12 + 3 * f + 2) 6 + nq_W A p f) ∧ (A' p 10 = 0 ∧ A' p 11 = 0 ∧ A' p 12 = -1 ∧ A' p 13 = 0 ∧ A' p 7 = 0 ∧ A' p 8 = 0) ∧ (∀ j, j < 4 → A' (p + 6) j = 0) ∧ (∀ j, j < 21 → A' (p + 4) j = -1) ∧ (A' (p + 1) 4 = A (p + 1) 4 - ni_sw ni_an (A (p + 4)) 21 ∧ A' (p + 1) 2 = 0) ∧ ∀ s j, (j = 6 → ∀ f : Nat, f < 12 → s ≠ 12 + 3 * f + 2) → ¬ (s = p ∧ (j = 7 ∨ j = 8 ∨ (10 ≤ j ∧ j ≤ 13))) → ¬ (s = p + 6 ∧ j < 4) → ¬ (s = p + 4 ∧ j < 21) → ¬ (s = p + 1 ∧ (j = 2 ∨ j = 4)) → A' s j = A s j
def nl_lose (A : Nat → Nat → Int) (p : Nat) : Nat → Nat → Int := ni_cleared (ni_u2 (ni_ls (ni_u2 (ni_u2 (ni_l1 (ni_u2 (ni_u2 (ni_lq A p (A p 10).toNat) p 10 0) p 11 0) (A p 12)) p 12 (-1)) p 13 0) (p + 1) 21) (p + 1) 2 0) p
theorem nl_loseL {p : Nat} (hp : 49 ≤ p) (hq : ∀ i : Nat, i < (A p 10).toNat → ni_pk (A (p + 7) i)) (h12 : ni_pk (A p 12)) (hB : ∀ i : Nat, i < 21 → ni_pk (A (p + 4) i)) : nl_L A (nl_lose A p) p := by
  obtain ⟨X, hX⟩ : ∃ X, X = ni_u2 (ni_u2 (ni_l1 (ni_u2 (ni_u2 (ni_lq A p (A p 10).toNat) p 10 0) p 11 0) (A p 12)) p 12 (-1)) p 13 0 := ⟨_, rfl⟩
  have x1 : ∀ s j, (j = 6 → ∀ f : Nat, f < 12 → s ≠ 12 + 3 * f + 2) → ¬ (s = p ∧ 10 ≤ j ∧ j ≤ 13) → X s j = A s j := fun s j g1 g2 => by
    rw [hX, ni_u2n (by omega), ni_u2n (by omega), nl_l1 h12 g1, ni_u2n (by omega), ni_u2n (by omega), nl_lq _ hq g1]
  have x2 : X p 10 = 0 ∧ X p 11 = 0 ∧ X p 12 = -1 ∧ X p 13 = 0 := by
    refine ⟨?_, ?_, ?_, ?_⟩
    · rw [hX, ni_u2n (by omega), ni_u2n (by omega), nl_l1 h12 (fun _ f hf => by omega), ni_u2n (by omega), ni_u2e]
    · rw [hX, ni_u2n (by omega), ni_u2n (by omega), nl_l1 h12 (fun _ f hf => by omega), ni_u2e]
    · rw [hX, ni_u2n (by omega), ni_u2e]
    · rw [hX, ni_u2e]
  have x3 : ∀ f : Nat, f < 12 → X (12 + 3 * f + 2) 6 = A (12 + 3 * f + 2) 6 + ni_sw (ni_is f) (A (p + 7)) (A p 10).toNat + ni_is f (A p 12) := fun f hf => by
    rw [hX, ni_u2n (by omega), ni_u2n (by omega), nl_l1e h12 hf, ni_u2n (by omega), ni_u2n (by omega), nl_lqe hf _ hq]
  have e4 : X (p + 4) = A (p + 4) := funext fun j => x1 _ _ (fun _ f hf => by omega) (by omega)
  obtain ⟨h1, h2, h3, h4⟩ := nl_ls (B := X) (l := p + 1) (by omega) (fun i hi => by rw [show p + 1 + 3 = p + 4 from rfl, e4]; exact hB i hi) 21 (Nat.le_refl _)
  rw [show p + 1 + 3 = p + 4 from rfl] at h1 h2 h3 h4
  have z : nl_lose A p = ni_u2 (ni_u2 (ni_zr (ni_u2 (ni_ls X (p + 1) 21) (p + 1) 2 0) (p + 6) 4) p 7 0) p 8 0 := by
    rw [hX]
    rfl
  rw [z]
  refine ⟨fun f hf => ?_, ⟨?_, ?_, ?_, ?_, ?_, ?_⟩, fun j hj => ?_, fun j hj => ?_, ⟨?_, ?_⟩, fun s j g1 g2 g3 g4 g5 => ?_⟩
  · rw [ni_u2n (by omega), ni_u2n (by omega), ni_zrN (by omega), ni_u2n (by omega), h4 f hf, x3 f hf, e4]
    unfold nq_W
    omega
  · rw [ni_u2n (by omega), ni_u2n (by omega), ni_zrN (by omega), ni_u2n (by omega), h1 _ _ (fun _ f hf => by omega) (by omega) (by omega)]
    exact x2.1
  · rw [ni_u2n (by omega), ni_u2n (by omega), ni_zrN (by omega), ni_u2n (by omega), h1 _ _ (fun _ f hf => by omega) (by omega) (by omega)]
    exact x2.2.1
  · rw [ni_u2n (by omega), ni_u2n (by omega), ni_zrN (by omega), ni_u2n (by omega), h1 _ _ (fun _ f hf => by omega) (by omega) (by omega)]
    exact x2.2.2.1
  · rw [ni_u2n (by omega), ni_u2n (by omega), ni_zrN (by omega), ni_u2n (by omega), h1 _ _ (fun _ f hf => by omega) (by omega) (by omega)]
    exact x2.2.2.2
  · rw [ni_u2n (by omega), ni_u2e]
  · rw [ni_u2e]
  · rw [ni_u2n (by omega), ni_u2n (by omega)]
    unfold ni_zr
    rw [if_pos ⟨rfl, hj⟩]
  · rw [ni_u2n (by omega), ni_u2n (by omega), ni_zrN (by omega), ni_u2n (by omega)]
    exact h2 j hj
  · rw [ni_u2n (by omega), ni_u2n (by omega), ni_zrN (by omega), ni_u2n (by omega), h3, x1 _ _ (fun _ f hf => by omega) (by omega), e4]
  · rw [ni_u2n (by omega), ni_u2n (by omega), ni_zrN (by omega), ni_u2e]
  · rw [ni_u2n (by omega), ni_u2n (by omega), ni_zrN (by omega), ni_u2n (by omega), h1 _ _ g1 (by omega) (by omega), x1 _ _ g1 (by omega)]
/-- how many packets are at a port -/
theorem nl_W {p f : Nat} (hn : 0 ≤ A p 10 ∧ A p 10 ≤ 250) : 0 ≤ nq_W A p f ∧ nq_W A p f ≤ 272 := by
  have key : ∀ (g : Nat → Int) (n : Nat), 0 ≤ ni_sw (ni_is f) g n ∧ ni_sw (ni_is f) g n ≤ n := by
    intro g n
    induction n with
    | zero => exact ⟨Int.le_refl _, Int.le_refl _⟩
    | succ n ih =>
      have e : ni_sw (ni_is f) g (n + 1) = ni_sw (ni_is f) g n + ni_is f (g n) := rfl
      have := ni_is01 (f := f) (x := g n)
      rw [e]
      omega
  have a := key (A (p + 7)) (A p 10).toNat
  have b := key (A (p + 4)) 21
  have c := ni_is01 (f := f) (x := A p 12)
  unfold nq_W
  omega
/-- no packet is lost: it is dropped -/
theorem nl_NI {e : Int} {dl : Nat → Int} {p : Nat} (h : nq_NI A e (fun _ => 0) dl) (hp : ni_po p) (hL : nl_L A A' p) : nq_NI A' (e + 272) (fun _ => 0) dl := by
  have hp' := hp
  unfold ni_po at hp'
  obtain ⟨l1, l2, l3, l4, l5, l6⟩ := hL
  obtain ⟨h3, h0, he0, hF, hP, hB⟩ := h
  have hPp := hP p hp
  obtain ⟨z1, z2, z3, z4, z5, z6, z7, z8, z9, z10, z11, z12⟩ := hPp
  have f0 : ∀ j, A' 0 j = A 0 j := fun j => l6 0 j (fun _ f hf => by omega) (by omega) (by omega) (by omega) (by omega)
  have ff : ∀ f j : Nat, f < 12 → A' (12 + 3 * f) j = A (12 + 3 * f) j := fun f j hf => l6 _ _ (fun _ f' hf' => by omega) (by omega) (by omega) (by omega) (by omega)
  have ff1 : ∀ f j : Nat, f < 12 → A' (12 + 3 * f + 1) j = A (12 + 3 * f + 1) j := fun f j hf => l6 _ _ (fun _ f' hf' => by omega) (by omega) (by omega) (by omega) (by omega)
  have ff2 : ∀ f j : Nat, f < 12 → j ≠ 6 → A' (12 + 3 * f + 2) j = A (12 + 3 * f + 2) j := fun f j hf hj => l6 _ _ (fun z => absurd z hj) (by omega) (by omega) (by omega) (by omega)
  have hl : ∀ l : Nat, l < 14 → ∀ j : Nat, A' (48 + 17 * l) j = A (48 + 17 * l) j := fun l hl j => l6 _ _ (fun _ f' hf' => by omega) (by omega) (by omega) (by omega) (by omega)
  have hc : ni_cs0 A A' := ⟨f0 0, f0 1, f0 2, f0 3, fun f hf j _ => ff f j hf, hl⟩
  refine ⟨by rw [f0]; exact h3, by rw [f0]; exact h0, by omega, fun f hf hfc => ?_, fun q hq => ?_, fun f hf hfc => ?_⟩
  · rw [f0] at hfc
    obtain ⟨a1, a2, a3, a4, a5, a6, a7⟩ := hF f hf hfc
    unfold nq_FI nq_FS
    simp only [ff f _ hf, ff1 f _ hf, f0]
    refine ⟨a1, a2, fun j hj => ⟨ni_PKc (a3 j hj).1 hc h3.2, (a3 j hj).2⟩, ⟨a4.1, by omega⟩, by omega, fun k hk => ?_, a7⟩
    have := a6 k hk
    by_cases c : k = 6
    · subst c
      have w := nl_W (A := A) (p := p) (f := f) z6
      rw [l1 f hf]
      omega
    · rw [ff2 f k hf c]
      omega
  · have hq' := hq
    unfold ni_po at hq'
    by_cases c : q = p
    · subst c
      have hli : ∀ j, A' (ni_li q) j = A (ni_li q) j := fun j => by
        unfold ni_li
        exact hl _ (by omega) j
      have g : ∀ j, j < 7 ∨ j = 9 → A' q j = A q j := fun j hj => l6 _ _ (fun _ f hf => by omega) (by omega) (by omega) (by omega) (by omega)
      have g5 : ∀ j, A' (q + 5) j = A (q + 5) j := fun j => l6 _ _ (fun _ f hf => by omega) (by omega) (by omega) (by omega) (by omega)
      refine ⟨⟨by rw [l2.2.2.2.2.1]; omega, Or.inl l2.2.2.2.2.2, fun j hj => ?_⟩, by rw [g 1 (by omega)]; exact z2, by rw [g 2 (by omega)]; exact z3, by rw [g 3 (by omega)]; exact z4, by rw [g 4 (by omega)]; omega, by rw [l2.1]; omega, fun j hj => by rw [l2.1] at hj; omega, by rw [l2.1, l2.2.1]; rfl, Or.inl ⟨l2.2.2.1, l2.2.2.2.1⟩, fun j hj => Or.inl (l4 j hj), ?_, fun _ => ⟨l2.1, l2.2.2.1, l4⟩⟩
      · rw [g5, l3 j hj, l2.2.2.2.2.2]
        refine ⟨(z1.2.2 j hj).1, Int.le_refl _, ?_⟩
        split <;> omega
      · rw [l5.1, z11, ni_swC (g' := fun _ => -1) 21 l4]
        have : ni_sw ni_an (fun _ => -1) 21 = 0 := by decide
        omega
    · have k : ∀ s j, q ≤ s → s < q + 8 → (s = q + 1 → j = 4) → A' s j = A s j := fun s j a b d => by
        refine l6 _ _ (fun _ f hf => by omega) ?_ ?_ ?_ ?_
        all_goals (intro zz; omega)
      exact nq_PIc hq (hP q hq) hc h3.2 (by omega) (fun j => k _ _ (by omega) (by omega) (by omega)) (k _ _ (by omega) (by omega) (by omega)) (fun j => k _ _ (by omega) (by omega) (by omega)) (fun j => k _ _ (by omega) (by omega) (by omega)) (fun j => k _ _ (by omega) (by omega) (by omega)) (fun j => k _ _ (by omega) (by omega) (by omega))
  · rw [f0] at hfc
    have h1 := hB f hf hfc
    have w' : nq_W A' p f = 0 := by
      unfold nq_W
      rw [l2.1, l2.2.2.1, ni_swC (g' := fun _ => -1) 21 l4, ni_isN hf]
      have : ∀ n, ni_sw (ni_is f) (fun _ => -1) n = 0 := by
        intro n
        induction n with
        | zero => rfl
        | succ n ih =>
          show ni_sw (ni_is f) (fun _ => -1) n + ni_is f (-1) = 0
          rw [ih, ni_isN hf]
          rfl
      rw [this]
      rfl
    have h4 := ni_InU (A := A) (A' := A') (f := f) (d := - nq_W A p f) hp (by omega) (fun q hq eq => by
      have hq' := hq
      unfold ni_po at hq'
      have k : ∀ s j, q ≤ s → s < q + 8 → (s ≠ q + 1) → A' s j = A s j := fun s j a b d => by
        refine l6 _ _ (fun _ f hf => by omega) ?_ ?_ ?_ ?_
        all_goals (intro zz; omega)
      exact ni_WC (k _ _ (by omega) (by omega) (by omega)) (fun j => k _ _ (by omega) (by omega) (by omega)) (k _ _ (by omega) (by omega) (by omega)) (fun j => k _ _ (by omega) (by omega) (by omega)))
    have d6 := l1 f hf
    unfold nq_dr at h1 ⊢
    rw [ff f 12 hf, ff f 13 hf, ff f 11 hf, ff2 f 0 hf (by omega), ff2 f 1 hf (by omega), ff2 f 2 hf (by omega), ff2 f 3 hf (by omega), ff2 f 4 hf (by omega), ff2 f 5 hf (by omega), d6, h4]
    omega
end NXO
