/-! WHAT HOLDS OF FLOWS AND PORTS -/
section NIV
variable {A A' : Nat → Nat → Int}
def nq_FS (A : Nat → Nat → Int) (g : Nat) : Prop := (A g 13 = 0 ∧ A g 15 = 0 ∧ A g 16 = -1 ∧ A g 17 = -1 ∧ A g 18 = 0) ∨ (1 ≤ A g 13 ∧ 0 ≤ A g 15 ∧ A g 15 ≤ A g 13 * A g 16 ∧ 0 ≤ A g 16 ∧ A g 16 ≤ A 0 0 ∧ 0 ≤ A g 17 ∧ A g 17 ≤ 63 ∧ 0 ≤ A g 18 ∧ A g 18 + 1 ≤ A g 13)
/-- a flow -/
def nq_FI (A : Nat → Nat → Int) (f : Nat) (e : Int) : Prop := (0 ≤ A (12 + 3 * f) 9 ∧ A (12 + 3 * f) 9 ≤ 10000) ∧ (0 ≤ A (12 + 3 * f) 11 ∧ A (12 + 3 * f) 11 ≤ 10) ∧ (∀ j : Nat, (j : Int) < A (12 + 3 * f) 11 → ni_PK A (A (12 + 3 * f + 1) j) ∧ A (12 + 3 * f + 1) j % 16 = f) ∧ (0 ≤ A (12 + 3 * f) 12 ∧ A (12 + 3 * f) 12 ≤ e) ∧ A (12 + 3 * f) 13 ≤ e ∧ (∀ k : Nat, k < 7 → 0 ≤ A (12 + 3 * f + 2) k ∧ A (12 + 3 * f + 2) k ≤ e) ∧ nq_FS A (12 + 3 * f)
/-- a port; lo: 0 ahead of taking, 1 behind it, 2 behind sending -/
def nq_PI (A : Nat → Nat → Int) (p : Nat) (lo e : Int) : Prop := ni_PT A p ∧ (0 ≤ A p 1 ∧ A p 1 ≤ 2) ∧ (0 ≤ A p 2 ∧ A p 2 ≤ 10000) ∧ (A p 3 = 0 ∨ A p 3 = 1) ∧ (0 ≤ A p 4 ∧ A p 4 ≤ e) ∧ (0 ≤ A p 10 ∧ A p 10 ≤ 250) ∧ (∀ j : Nat, (j : Int) < A p 10 → ni_PK A (A (p + 7) j)) ∧ A p 11 = ni_sw ni_by (A (p + 7)) (A p 10).toNat ∧ ((A p 12 = -1 ∧ A p 13 = 0) ∨ (ni_PK A (A p 12) ∧ 0 < A p 13 ∧ A p 13 ≤ 511)) ∧ (∀ j : Nat, j < 21 → A (p + 4) j = -1 ∨ (ni_PK A (A (p + 4) j) ∧ min lo 1 ≤ ((j : Int) - A 0 0) % 21 ∧ ((j : Int) - A 0 0) % 21 < A (ni_li p) 4 + (lo - min lo 1))) ∧ A (p + 1) 4 = ni_sw ni_an (A (p + 4)) 21 ∧ (A (ni_li p) 5 = 0 → A p 10 = 0 ∧ A p 12 = -1 ∧ ∀ j : Nat, j < 21 → A (p + 4) j = -1)
def nq_dr (A : Nat → Nat → Int) (g : Nat) : Int := A (g + 2) 0 + A (g + 2) 1 + A (g + 2) 2 + A (g + 2) 3 + A (g + 2) 4 + A (g + 2) 5 + A (g + 2) 6
/-- flows, ports, and that no packet is lost; dl: how many of each flow are in hand -/
def nq_NI (A : Nat → Nat → Int) (e : Int) (lo : Nat → Int) (dl : Nat → Int) : Prop := (0 ≤ A 0 3 ∧ A 0 3 ≤ 12) ∧ (0 ≤ A 0 0 ∧ A 0 0 ≤ 900000) ∧ 0 ≤ e ∧ (∀ f : Nat, f < 12 → (f : Int) < A 0 3 → nq_FI A f e) ∧ (∀ p, ni_po p → nq_PI A p (lo p) e) ∧ ∀ f : Nat, f < 12 → (f : Int) < A 0 3 → A (12 + 3 * f) 12 = A (12 + 3 * f) 13 + A (12 + 3 * f) 11 + nq_dr A (12 + 3 * f) + ni_In A f 14 + dl f
theorem nq_FIc {f : Nat} {e e' : Int} (h : nq_FI A f e) (hc : ni_cs0 A A') (h3 : A 0 3 ≤ 12) (he : e ≤ e') (h0 : ∀ j, A' (12 + 3 * f) j = A (12 + 3 * f) j) (h1 : ∀ j, A' (12 + 3 * f + 1) j = A (12 + 3 * f + 1) j) (h2 : ∀ j, A' (12 + 3 * f + 2) j = A (12 + 3 * f + 2) j) : nq_FI A' f e' := by
  obtain ⟨a1, a2, a3, a4, a5, a6, a7⟩ := h
  unfold nq_FI nq_FS
  simp only [h0, h1, h2, hc.1]
  exact ⟨a1, a2, fun j hj => ⟨ni_PKc (a3 j hj).1 hc h3, (a3 j hj).2⟩, ⟨a4.1, by omega⟩, by omega, fun k hk => ⟨(a6 k hk).1, by have := (a6 k hk).2; omega⟩, a7⟩
theorem nq_PIc {p : Nat} {lo e e' : Int} (hp : ni_po p) (h : nq_PI A p lo e) (hc : ni_cs0 A A') (h3 : A 0 3 ≤ 12) (he : e ≤ e') (h0 : ∀ j, A' p j = A p j) (h1 : A' (p + 1) 4 = A (p + 1) 4) (h4 : ∀ j, A' (p + 4) j = A (p + 4) j) (h5 : ∀ j, A' (p + 5) j = A (p + 5) j) (h6 : ∀ j, A' (p + 6) j = A (p + 6) j) (h7 : ∀ j, A' (p + 7) j = A (p + 7) j) : nq_PI A' p lo e' := by
  obtain ⟨a1, a2, a3, a4, a5, a6, a7, a8, a9, a10, a11, a12⟩ := h
  have hli : ∀ j, A' (ni_li p) j = A (ni_li p) j := fun j => hc.2.2.2.2.2 ((p - 48) / 17) (by unfold ni_po at hp; omega) j
  have e7 : A' (p + 7) = A (p + 7) := funext h7
  have e4 : A' (p + 4) = A (p + 4) := funext h4
  unfold nq_PI ni_PT
  simp only [h0, h1, e4, h5, h6, e7, hli, hc.1]
  exact ⟨a1, a2, a3, a4, ⟨a5.1, by omega⟩, a6, fun j hj => ni_PKc (a7 j hj) hc h3, a8, a9.imp id (fun z => ⟨ni_PKc z.1 hc h3, z.2⟩), fun j hj => (a10 j hj).imp id (fun z => ⟨ni_PKc z.1 hc h3, z.2⟩), a11, a12⟩
/-- what changes with a flow, with a port -/
def nq_mF (f s j : Nat) : Prop := (s = 12 + 3 * f ∧ 9 ≤ j) ∨ s = 12 + 3 * f + 1 ∨ s = 12 + 3 * f + 2
def nq_mP (p s j : Nat) : Prop := (s = p ∧ 4 ≤ j) ∨ (s = p + 1 ∧ j = 4) ∨ s = p + 4 ∨ s = p + 6 ∨ s = p + 7
theorem nq_csF {f : Nat} (hf : f < 12) (hfr : ∀ s j, ¬ nq_mF f s j → A' s j = A s j) : ni_cs0 A A' := by
  unfold nq_mF at hfr
  exact ⟨hfr _ _ (by omega), hfr _ _ (by omega), hfr _ _ (by omega), hfr _ _ (by omega), fun f' hf' j hj => hfr _ _ (by omega), fun l hl j => hfr _ _ (by omega)⟩
theorem nq_csP {p : Nat} (hp : ni_po p) (hfr : ∀ s j, ¬ nq_mP p s j → A' s j = A s j) : ni_cs0 A A' := by
  unfold nq_mP at hfr
  unfold ni_po at hp
  exact ⟨hfr _ _ (by omega), hfr _ _ (by omega), hfr _ _ (by omega), hfr _ _ (by omega), fun f' hf' j hj => hfr _ _ (by omega), fun l hl j => hfr _ _ (by omega)⟩
theorem nq_flowU {e e' c : Int} {lo dl dl' : Nat → Int} {f : Nat} (h : nq_NI A e lo dl) (hf : f < 12) (hfr : ∀ s j, ¬ nq_mF f s j → A' s j = A s j) (he : e ≤ e') (hFI : nq_FI A' f e') (hb : A' (12 + 3 * f) 12 - A' (12 + 3 * f) 13 - A' (12 + 3 * f) 11 - nq_dr A' (12 + 3 * f) = A (12 + 3 * f) 12 - A (12 + 3 * f) 13 - A (12 + 3 * f) 11 - nq_dr A (12 + 3 * f) + c) (hd : ∀ f', f' < 12 → dl' f' = dl f' + if f' = f then c else 0) : nq_NI A' e' lo dl' := by
  have hc := nq_csF hf hfr
  obtain ⟨h3, h0, he0, hF, hP, hB⟩ := h
  unfold nq_mF at hfr
  refine ⟨by rw [hc.2.2.2.1]; exact h3, by rw [hc.1]; exact h0, by omega, fun f' hf' hfc => ?_, fun p hp => ?_, fun f' hf' hfc => ?_⟩
  · rw [hc.2.2.2.1] at hfc
    by_cases ef : f' = f
    · rw [ef]
      exact hFI
    · exact nq_FIc (hF f' hf' hfc) hc h3.2 he (fun j => hfr _ _ (by omega)) (fun j => hfr _ _ (by omega)) (fun j => hfr _ _ (by omega))
  · have hp' := hp
    unfold ni_po at hp'
    exact nq_PIc hp (hP p hp) hc h3.2 he (fun j => hfr _ _ (by omega)) (hfr _ _ (by omega)) (fun j => hfr _ _ (by omega)) (fun j => hfr _ _ (by omega)) (fun j => hfr _ _ (by omega)) (fun j => hfr _ _ (by omega))
  · rw [hc.2.2.2.1] at hfc
    have h1 := hB f' hf' hfc
    have h2 := hd f' hf'
    have h4 : ni_In A' f' 14 = ni_In A f' 14 := ni_InC 14 (fun l hl => ⟨ni_WC (hfr _ _ (by omega)) (fun j => hfr _ _ (by omega)) (hfr _ _ (by omega)) (fun j => hfr _ _ (by omega)), ni_WC (hfr _ _ (by omega)) (fun j => hfr _ _ (by omega)) (hfr _ _ (by omega)) (fun j => hfr _ _ (by omega))⟩)
    by_cases ef : f' = f
    · subst ef
      rw [if_pos rfl] at h2
      omega
    · rw [if_neg ef] at h2
      unfold nq_dr at h1 ⊢
      rw [hfr (12 + 3 * f') 12 (by omega), hfr (12 + 3 * f') 13 (by omega), hfr (12 + 3 * f') 11 (by omega), hfr (12 + 3 * f' + 2) 0 (by omega), hfr (12 + 3 * f' + 2) 1 (by omega), hfr (12 + 3 * f' + 2) 2 (by omega), hfr (12 + 3 * f' + 2) 3 (by omega), hfr (12 + 3 * f' + 2) 4 (by omega), hfr (12 + 3 * f' + 2) 5 (by omega), hfr (12 + 3 * f' + 2) 6 (by omega)]
      omega
theorem nq_portU {e e' : Int} {lo lo' dl dl' c : Nat → Int} {p : Nat} (h : nq_NI A e lo dl) (hp : ni_po p) (hfr : ∀ s j, ¬ nq_mP p s j → A' s j = A s j) (he : e ≤ e') (hPI : nq_PI A' p (lo' p) e') (hlo : ∀ q, q ≠ p → lo' q = lo q) (hW : ∀ f, f < 12 → nq_W A' p f = nq_W A p f + c f) (hd : ∀ f, f < 12 → dl' f = dl f - c f) : nq_NI A' e' lo' dl' := by
  have hc := nq_csP hp hfr
  obtain ⟨h3, h0, he0, hF, hP, hB⟩ := h
  unfold nq_mP at hfr
  have hp' := hp
  unfold ni_po at hp'
  refine ⟨by rw [hc.2.2.2.1]; exact h3, by rw [hc.1]; exact h0, by omega, fun f' hf' hfc => ?_, fun q hq => ?_, fun f' hf' hfc => ?_⟩
  · rw [hc.2.2.2.1] at hfc
    exact nq_FIc (hF f' hf' hfc) hc h3.2 he (fun j => hfr _ _ (by omega)) (fun j => hfr _ _ (by omega)) (fun j => hfr _ _ (by omega))
  · by_cases eq : q = p
    · rw [eq]
      exact hPI
    · have hq' := hq
      unfold ni_po at hq'
      rw [hlo q eq]
      exact nq_PIc hq (hP q hq) hc h3.2 he (fun j => hfr _ _ (by omega)) (hfr _ _ (by omega)) (fun j => hfr _ _ (by omega)) (fun j => hfr _ _ (by omega)) (fun j => hfr _ _ (by omega)) (fun j => hfr _ _ (by omega))
  · rw [hc.2.2.2.1] at hfc
    have h1 := hB f' hf' hfc
    have h2 := hd f' hf'
    have h4 := ni_InU (f := f') hp (hW f' hf') (fun q hq eq => by
      have hq' := hq
      unfold ni_po at hq'
      exact ni_WC (hfr _ _ (by omega)) (fun j => hfr _ _ (by omega)) (hfr _ _ (by omega)) (fun j => hfr _ _ (by omega)))
    unfold nq_dr at h1 ⊢
    rw [hfr (12 + 3 * f') 12 (by omega), hfr (12 + 3 * f') 13 (by omega), hfr (12 + 3 * f') 11 (by omega), hfr (12 + 3 * f' + 2) 0 (by omega), hfr (12 + 3 * f' + 2) 1 (by omega), hfr (12 + 3 * f' + 2) 2 (by omega), hfr (12 + 3 * f' + 2) 3 (by omega), hfr (12 + 3 * f' + 2) 4 (by omega), hfr (12 + 3 * f' + 2) 5 (by omega), hfr (12 + 3 * f' + 2) 6 (by omega)]
    omega
end NIV
