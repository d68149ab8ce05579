/-! A PACKET IS DEALT WITH: WHAT HOLDS STILL HOLDS -/
section NDL
variable {xs : List Int32} {St : Nat → Option ni_C} {A A' : Nat → Nat → Int}
/-- what is told of flows -/
def nq_FC (A : Nat → Nat → Int) : Prop := ∀ f : Nat, f < 12 → (f : Int) < A 0 3 → (0 ≤ A (12 + 3 * f) 0 ∧ A (12 + 3 * f) 0 < A 0 1) ∧ (20 ≤ A (12 + 3 * f) 2 ∧ A (12 + 3 * f) 2 ≤ 500) ∧ (0 ≤ A (12 + 3 * f) 3 ∧ A (12 + 3 * f) 3 ≤ 3) ∧ (-1 ≤ A (12 + 3 * f) 4 ∧ A (12 + 3 * f) 4 ≤ 1000000) ∧ (0 ≤ A (12 + 3 * f) 5 ∧ A (12 + 3 * f) 5 ≤ 50) ∧ (0 ≤ A (12 + 3 * f) 6 ∧ A (12 + 3 * f) 6 ≤ 60) ∧ (0 ≤ A (12 + 3 * f) 7 ∧ A (12 + 3 * f) 7 ≤ 1000) ∧ (0 ≤ A (12 + 3 * f) 8 ∧ A (12 + 3 * f) 8 ≤ 10000)
theorem nq_FCc (h : nq_FC A) (hc : ni_cs0 A A') : nq_FC A' := fun f hf hfc => by
  rw [hc.2.2.2.1] at hfc
  have := h f hf hfc
  rw [hc.2.1, hc.2.2.2.2.1 f hf 0 (by omega), hc.2.2.2.2.1 f hf 2 (by omega), hc.2.2.2.2.1 f hf 3 (by omega), hc.2.2.2.2.1 f hf 4 (by omega), hc.2.2.2.2.1 f hf 5 (by omega), hc.2.2.2.2.1 f hf 6 (by omega), hc.2.2.2.2.1 f hf 7 (by omega), hc.2.2.2.2.1 f hf 8 (by omega)]
  exact this
theorem nq_csT {A2 : Nat → Nat → Int} (h : ni_cs0 A A') (h' : ni_cs0 A' A2) : ni_cs0 A A2 := ⟨h'.1.trans h.1, h'.2.1.trans h.2.1, h'.2.2.1.trans h.2.2.1, h'.2.2.2.1.trans h.2.2.2.1, fun f hf j hj => (h'.2.2.2.2.1 f hf j hj).trans (h.2.2.2.2.1 f hf j hj), fun l hl j => (h'.2.2.2.2.2 l hl j).trans (h.2.2.2.2.2 l hl j)⟩
theorem nq_csR : ni_cs0 A A := ⟨rfl, rfl, rfl, rfl, fun _ _ _ _ => rfl, fun _ _ _ => rfl⟩
/-- live flows and ports of links that are up alone are others -/
def nq_frP (A A' : Nat → Nat → Int) : Prop := ∀ s j, (∀ f : Nat, f < 12 → (f : Int) < A 0 3 → ¬ nq_mF f s j) → (∀ p, ni_po p → A (ni_li p) 5 ≠ 0 → ¬ nq_mP p s j) → A' s j = A s j
theorem nq_frPr : nq_frP A A := fun _ _ _ _ => rfl
theorem nq_liL {p : Nat} (hp : ni_po p) : ∃ l, l < 14 ∧ ni_li p = 48 + 17 * l := ⟨(p - 48) / 17, by unfold ni_po at hp; omega, rfl⟩
theorem nq_frPt {A2 : Nat → Nat → Int} (h : nq_frP A A') (hc : ni_cs0 A A') (h' : nq_frP A' A2) : nq_frP A A2 := fun s j h1 h2 => by
  rw [h' s j (fun f hf hfc => h1 f hf (by rw [hc.2.2.2.1] at hfc; exact hfc)) (fun p hp hu => h2 p hp (by
    obtain ⟨l, hl, e⟩ := nq_liL hp
    rw [e] at hu ⊢
    rw [hc.2.2.2.2.2 l hl] at hu
    exact hu))]
  exact h s j h1 h2
theorem nq_frPf {f : Nat} (hf : f < 12) (hfc : (f : Int) < A 0 3) (h : ∀ s j, ¬ nq_mF f s j → A' s j = A s j) : nq_frP A A' := fun s j h1 _ => h s j (h1 f hf hfc)
theorem nq_frPp {p : Nat} (hp : ni_po p) (hu : A (ni_li p) 5 ≠ 0) (h : ∀ s j, ¬ nq_mP p s j → A' s j = A s j) : nq_frP A A' := fun s j _ h2 => h s j (h2 p hp hu)
theorem nq_NIm {e e' : Int} {lo dl dl' : Nat → Int} (h : nq_NI A e lo dl) (he : e ≤ e') (hd : ∀ f, f < 12 → dl' f = dl f) : nq_NI A e' lo dl' := by
  obtain ⟨h3, h0, he0, hF, hP, hB⟩ := h
  refine ⟨h3, h0, by omega, fun f hf hfc => nq_FIc (hF f hf hfc) nq_csR h3.2 he (fun _ => rfl) (fun _ => rfl) (fun _ => rfl), fun p hp => nq_PIc hp (hP p hp) nq_csR h3.2 he (fun _ => rfl) rfl (fun _ => rfl) (fun _ => rfl) (fun _ => rfl) (fun _ => rfl), fun f hf hfc => by rw [hd f hf]; exact hB f hf hfc⟩
/-- a flow counts a packet that is dropped -/
theorem nq_drop {e : Int} {lo dl dl' : Nat → Int} {f n : Nat} (h : nq_NI A e lo dl) (hf : f < 12) (hfc : (f : Int) < A 0 3) (hn : n < 7) (hd : ∀ f', f' < 12 → dl' f' = dl f' + if f' = f then -1 else 0) : nq_NI (ni_u2 A (12 + 3 * f + 2) n (A (12 + 3 * f + 2) n + 1)) (e + 1) lo dl' ∧ ∀ s j, ¬ nq_mF f s j → ni_u2 A (12 + 3 * f + 2) n (A (12 + 3 * f + 2) n + 1) s j = A s j := by
  have hfr : ∀ s j, ¬ nq_mF f s j → ni_u2 A (12 + 3 * f + 2) n (A (12 + 3 * f + 2) n + 1) s j = A s j := fun s j hm => by
    unfold nq_mF at hm
    rw [ni_u2n (by omega)]
  have hk : ∀ k, ni_u2 A (12 + 3 * f + 2) n (A (12 + 3 * f + 2) n + 1) (12 + 3 * f + 2) k = A (12 + 3 * f + 2) k + if k = n then 1 else 0 := fun k => by
    by_cases ek : k = n
    · rw [ek, ni_u2e, if_pos rfl]
    · rw [ni_u2n (by omega), if_neg ek]
      omega
  refine ⟨nq_flowU h hf hfr (Int.le_add_one (Int.le_refl _)) ?_ ?_ hd, hfr⟩
  · obtain ⟨a1, a2, a3, a4, a5, a6, a7⟩ := h.2.2.2.1 f hf hfc
    have hc := nq_csF hf hfr
    have g0 : ∀ j, ni_u2 A (12 + 3 * f + 2) n (A (12 + 3 * f + 2) n + 1) (12 + 3 * f) j = A (12 + 3 * f) j := fun j => ni_u2n (by omega)
    have g1 : ∀ j, ni_u2 A (12 + 3 * f + 2) n (A (12 + 3 * f + 2) n + 1) (12 + 3 * f + 1) j = A (12 + 3 * f + 1) j := fun j => ni_u2n (by omega)
    unfold nq_FI nq_FS
    rw [hc.1]
    simp only [g0, g1, hk]
    refine ⟨a1, a2, fun j hj => ⟨ni_PKc (a3 j hj).1 hc h.1.2, (a3 j hj).2⟩, ⟨a4.1, by omega⟩, by omega, fun k hk7 => ?_, a7⟩
    have := a6 k hk7
    split <;> omega
  · unfold nq_dr
    rw [hk, hk, hk, hk, hk, hk, hk, ni_u2n (by omega), ni_u2n (by omega), ni_u2n (by omega)]
    rcases (show n = 0 ∨ n = 1 ∨ n = 2 ∨ n = 3 ∨ n = 4 ∨ n = 5 ∨ n = 6 by omega) with r | r | r | r | r | r | r <;> subst r <;> simp <;> omega
/-- a port counts an early one -/
theorem nq_early {e : Int} {lo dl : Nat → Int} {p : Nat} (h : nq_NI A e lo dl) (hp : ni_po p) : nq_NI (ni_u2 A p 4 (A p 4 + 1)) (e + 1) lo dl ∧ ∀ s j, ¬ nq_mP p s j → ni_u2 A p 4 (A p 4 + 1) s j = A s j := by
  have hfr : ∀ s j, ¬ nq_mP p s j → ni_u2 A p 4 (A p 4 + 1) s j = A s j := fun s j hm => by
    unfold nq_mP at hm
    rw [ni_u2n (by omega)]
  have hc := nq_csP hp hfr
  have g : ∀ s j, s ≠ p ∨ j ≠ 4 → ni_u2 A p 4 (A p 4 + 1) s j = A s j := fun s j hm => ni_u2n hm
  have gp (k : Nat) (hk : k ≠ 0) : ni_u2 A p 4 (A p 4 + 1) (p + k) = A (p + k) := funext fun j => g _ _ (by omega)
  refine ⟨nq_portU (c := fun _ => 0) h hp hfr (Int.le_add_one (Int.le_refl _)) ?_ (fun _ _ => rfl) (fun f hf => ?_) (fun f hf => by omega), hfr⟩
  · obtain ⟨a1, a2, a3, a4, a5, a6, a7, a8, a9, a10, a11, a12⟩ := h.2.2.2.2.1 p hp
    have hli : ∀ j, ni_u2 A p 4 (A p 4 + 1) (ni_li p) j = A (ni_li p) j := fun j => hc.2.2.2.2.2 ((p - 48) / 17) (by unfold ni_po at hp; omega) j
    unfold nq_PI ni_PT
    rw [gp 1 (by omega), gp 4 (by omega), gp 5 (by omega), gp 6 (by omega), gp 7 (by omega), hli, hli, hc.1, ni_u2e, g p 1 (by omega), g p 2 (by omega), g p 3 (by omega), g p 7 (by omega), g p 8 (by omega), g p 10 (by omega), g p 11 (by omega), g p 12 (by omega), g p 13 (by omega)]
    exact ⟨a1, a2, a3, a4, ⟨by omega, by omega⟩, a6, fun j hj => ni_PKc (a7 j hj) hc h.1.2, a8, a9.imp id (fun z => ⟨ni_PKc z.1 hc h.1.2, z.2⟩), fun j hj => (a10 j hj).imp id (fun z => ⟨ni_PKc z.1 hc h.1.2, z.2⟩), a11, a12⟩
  · rw [ni_WC (g p 10 (by omega)) (fun j => g _ _ (by omega)) (g p 12 (by omega)) (fun j => g _ _ (by omega))]
    omega
/-- a packet waits -/
theorem nq_wait {e : Int} {lo dl dl' : Nat → Int} {p : Nat} {x : Int} (h : nq_NI A e lo dl) (hp : ni_po p) (hx : ni_PK A x) (hn : A p 10 < 250) (hu : A (ni_li p) 5 ≠ 0) (hd : ∀ f, f < 12 → dl' f = dl f - ni_is f x) : nq_NI (ni_putQ A p x (A p 10) (A p 11)) e lo dl' ∧ ∀ s j, ¬ nq_mP p s j → ni_putQ A p x (A p 10) (A p 11) s j = A s j := by
  have hfr : ∀ s j, ¬ nq_mP p s j → ni_putQ A p x (A p 10) (A p 11) s j = A s j := fun s j hm => by
    unfold nq_mP at hm
    unfold ni_putQ
    rw [ni_u2n (by omega), ni_u2n (by omega), ni_u2n (by omega)]
  have hc := nq_csP hp hfr
  obtain ⟨a1, a2, a3, a4, a5, a6, a7, a8, a9, a10, a11, a12⟩ := h.2.2.2.2.1 p hp
  have g : ∀ s j, ¬ (s = p ∧ (j = 10 ∨ j = 11)) → s ≠ p + 7 → ni_putQ A p x (A p 10) (A p 11) s j = A s j := fun s j h1 h2 => by
    unfold ni_putQ
    rw [ni_u2n (by omega), ni_u2n (by omega), ni_u2n (by omega)]
  have gp (k : Nat) (hk : k ≠ 0) (hk7 : k ≠ 7) : ni_putQ A p x (A p 10) (A p 11) (p + k) = A (p + k) := funext fun j => g _ _ (by omega) (by omega)
  have g10 : ni_putQ A p x (A p 10) (A p 11) p 10 = A p 10 + 1 := by
    unfold ni_putQ
    rw [ni_u2n (by omega), ni_u2e]
  have g11 : ni_putQ A p x (A p 10) (A p 11) p 11 = A p 11 + ni_by x := by
    unfold ni_putQ
    rw [ni_u2e]
    rfl
  have g7 : ∀ j, ni_putQ A p x (A p 10) (A p 11) (p + 7) j = if j = (A p 10).toNat then x else A (p + 7) j := fun j => by
    unfold ni_putQ
    rw [ni_u2n (by omega), ni_u2n (by omega)]
    by_cases ej : j = (A p 10).toNat
    · rw [if_pos ej, ej, ni_u2e]
    · rw [if_neg ej, ni_u2n (by omega)]
  have hsw : ∀ w : Int → Int, ni_sw w (ni_putQ A p x (A p 10) (A p 11) (p + 7)) (A p 10 + 1).toNat = ni_sw w (A (p + 7)) (A p 10).toNat + w x := fun w => by
    rw [show (A p 10 + 1).toNat = (A p 10).toNat + 1 by omega]
    show ni_sw w _ (A p 10).toNat + w _ = _
    rw [g7, if_pos rfl, ni_swC (g' := A (p + 7)) (A p 10).toNat (fun j hj => by rw [g7, if_neg (by omega)])]
  refine ⟨nq_portU (c := fun f => ni_is f x) h hp hfr (Int.le_refl _) ?_ (fun _ _ => rfl) (fun f hf => ?_) (fun f hf => hd f hf), hfr⟩
  · have hli : ∀ j, ni_putQ A p x (A p 10) (A p 11) (ni_li p) j = A (ni_li p) j := fun j => hc.2.2.2.2.2 ((p - 48) / 17) (by unfold ni_po at hp; omega) j
    unfold nq_PI ni_PT
    rw [gp 1 (by omega) (by omega), gp 4 (by omega) (by omega), gp 5 (by omega) (by omega), gp 6 (by omega) (by omega), hli, hli, hc.1, g10, g11, g p 1 (by omega) (by omega), g p 2 (by omega) (by omega), g p 3 (by omega) (by omega), g p 4 (by omega) (by omega), g p 7 (by omega) (by omega), g p 8 (by omega) (by omega), g p 12 (by omega) (by omega), g p 13 (by omega) (by omega), hsw]
    refine ⟨a1, a2, a3, a4, a5, ⟨by omega, by omega⟩, fun j hj => ?_, by omega, a9.imp id (fun z => ⟨ni_PKc z.1 hc h.1.2, z.2⟩), fun j hj => (a10 j hj).imp id (fun z => ⟨ni_PKc z.1 hc h.1.2, z.2⟩), a11, fun z => absurd z hu⟩
    rw [g7]
    split
    · exact ni_PKc hx hc h.1.2
    · exact ni_PKc (a7 j (by omega)) hc h.1.2
  · unfold nq_W
    rw [g10, hsw, g p 12 (by omega) (by omega), gp 4 (by omega) (by omega)]
    omega
/-- a packet is delivered -/
def nq_dv (A : Nat → Nat → Int) (g : Nat) (n t b : Int) : Nat → Nat → Int := ni_u2 (ni_u2 (ni_u2 (ni_u2 (ni_u2 A g 13 (A g 13 + 1)) g 15 (A g 15 + (t - (A g 4 + (n * A g 5))))) g 16 (max (A g 16) (t - (A g 4 + (n * A g 5))))) g 18 (A g 18 + b)) g 17 (max (A g 17) n)
theorem nq_deliv {e : Int} {lo dl dl' : Nat → Int} {f : Nat} {n b : Int} (h : nq_NI A e lo dl) (hFC : nq_FC A) (hf : f < 12) (hfc : (f : Int) < A 0 3) (hn : 0 ≤ n ∧ n ≤ 63) (h4 : 0 ≤ A (12 + 3 * f) 4 ∧ A (12 + 3 * f) 4 + n * A (12 + 3 * f) 5 ≤ A 0 0) (hb : (b = 0 ∧ A (12 + 3 * f) 17 ≤ n) ∨ (b = 1 ∧ n < A (12 + 3 * f) 17)) (hd : ∀ f', f' < 12 → dl' f' = dl f' + if f' = f then -1 else 0) : nq_NI (nq_dv A (12 + 3 * f) n (A 0 0) b) (e + 1) lo dl' ∧ ∀ s j, ¬ nq_mF f s j → nq_dv A (12 + 3 * f) n (A 0 0) b s j = A s j := by
  have hfr : ∀ s j, ¬ nq_mF f s j → nq_dv A (12 + 3 * f) n (A 0 0) b s j = A s j := fun s j hm => by
    unfold nq_mF at hm
    unfold nq_dv
    rw [ni_u2n (by omega), ni_u2n (by omega), ni_u2n (by omega), ni_u2n (by omega), ni_u2n (by omega)]
  have g : ∀ s j, ¬ (s = 12 + 3 * f ∧ (j = 13 ∨ j = 15 ∨ j = 16 ∨ j = 17 ∨ j = 18)) → nq_dv A (12 + 3 * f) n (A 0 0) b s j = A s j := fun s j hm => by
    unfold nq_dv
    rw [ni_u2n (by omega), ni_u2n (by omega), ni_u2n (by omega), ni_u2n (by omega), ni_u2n (by omega)]
  have g13 : nq_dv A (12 + 3 * f) n (A 0 0) b (12 + 3 * f) 13 = A (12 + 3 * f) 13 + 1 := by
    unfold nq_dv
    rw [ni_u2n (by omega), ni_u2n (by omega), ni_u2n (by omega), ni_u2n (by omega), ni_u2e]
  have g15 : nq_dv A (12 + 3 * f) n (A 0 0) b (12 + 3 * f) 15 = A (12 + 3 * f) 15 + (A 0 0 - (A (12 + 3 * f) 4 + n * A (12 + 3 * f) 5)) := by
    unfold nq_dv
    rw [ni_u2n (by omega), ni_u2n (by omega), ni_u2n (by omega), ni_u2e]
  have g16 : nq_dv A (12 + 3 * f) n (A 0 0) b (12 + 3 * f) 16 = max (A (12 + 3 * f) 16) (A 0 0 - (A (12 + 3 * f) 4 + n * A (12 + 3 * f) 5)) := by
    unfold nq_dv
    rw [ni_u2n (by omega), ni_u2n (by omega), ni_u2e]
  have g18 : nq_dv A (12 + 3 * f) n (A 0 0) b (12 + 3 * f) 18 = A (12 + 3 * f) 18 + b := by
    unfold nq_dv
    rw [ni_u2n (by omega), ni_u2e]
  have g17 : nq_dv A (12 + 3 * f) n (A 0 0) b (12 + 3 * f) 17 = max (A (12 + 3 * f) 17) n := by
    unfold nq_dv
    rw [ni_u2e]
  have hc := nq_csF hf hfr
  have h5 := (hFC f hf hfc).2.2.2.2.1
  have hn5 : 0 ≤ n * A (12 + 3 * f) 5 := Int.mul_nonneg hn.1 h5.1
  obtain ⟨q, hq⟩ : ∃ q, q = n * A (12 + 3 * f) 5 := ⟨_, rfl⟩
  rw [← hq] at h4 hn5 g15 g16
  refine ⟨nq_flowU h hf hfr (Int.le_add_one (Int.le_refl _)) ?_ ?_ hd, hfr⟩
  · obtain ⟨a1, a2, a3, a4, a5, a6, a7⟩ := h.2.2.2.1 f hf hfc
    unfold nq_FI
    rw [g _ 9 (by omega), g _ 11 (by omega), g _ 12 (by omega), g13]
    refine ⟨a1, a2, fun j hj => ?_, ⟨a4.1, by omega⟩, by omega, fun k hk => ?_, ?_⟩
    · rw [g _ _ (by omega)]
      exact ⟨ni_PKc (a3 j hj).1 hc h.1.2, (a3 j hj).2⟩
    · rw [g _ _ (by omega)]
      have := a6 k hk
      omega
    · unfold nq_FS at a7 ⊢
      rw [g13, g15, g16, g17, g18, hc.1]
      refine Or.inr ?_
      obtain ⟨m, hm⟩ : ∃ m, m = max (A (12 + 3 * f) 16) (A 0 0 - (A (12 + 3 * f) 4 + q)) := ⟨_, rfl⟩
      have m1 : A (12 + 3 * f) 16 ≤ m := by rw [hm]; exact Int.le_max_left _ _
      have m2 : A 0 0 - (A (12 + 3 * f) 4 + q) ≤ m := by rw [hm]; exact Int.le_max_right _ _
      have m3 : m = A (12 + 3 * f) 16 ∨ m = A 0 0 - (A (12 + 3 * f) 4 + q) := by omega
      rw [← hm]
      rcases a7 with a7 | a7
      · obtain ⟨b1, b2, b3, b4, b5⟩ := a7
        rw [b1, b2]
        have e1 : (0 + 1) * m = m := by omega
        rw [e1]
        omega
      · obtain ⟨b1, b2, b3, b4, b5, b6, b7, b8, b9⟩ := a7
        have k1 : A (12 + 3 * f) 13 * A (12 + 3 * f) 16 ≤ A (12 + 3 * f) 13 * m := Int.mul_le_mul_of_nonneg_left m1 (by omega)
        have k2 : (A (12 + 3 * f) 13 + 1) * m = A (12 + 3 * f) 13 * m + m := by rw [Int.add_mul, Int.one_mul]
        rw [k2]
        omega
  · unfold nq_dr
    rw [g13, g _ 12 (by omega), g _ 11 (by omega), g (12 + 3 * f + 2) 0 (by omega), g (12 + 3 * f + 2) 1 (by omega), g (12 + 3 * f + 2) 2 (by omega), g (12 + 3 * f + 2) 3 (by omega), g (12 + 3 * f + 2) 4 (by omega), g (12 + 3 * f + 2) 5 (by omega), g (12 + 3 * f + 2) 6 (by omega)]
    omega
end NDL
