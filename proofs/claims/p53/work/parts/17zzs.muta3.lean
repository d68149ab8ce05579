/-! PORTS, WEIGHTS, STATIC ROUTES -/
section NMU3
variable {xs : List Int32} {St : Nat → Option ni_C} {M : ni_H} {A A' B : Nat → Nat → Int} {own : Nat → Int} {c z n nl nf la kk : Nat} {w e E T : Int} {vs : List Value}
theorem lz_prI {p : Nat} {a b x : Int} (h : nq_Inv St own A e) (hp : ni_po p) (ha : 0 ≤ a ∧ a ≤ 2) (hb : 50 ≤ b ∧ b ≤ 5000) (hx : x = 0 ∨ x = 1) (hA : A' = ni_cleared (ni_u2 (ni_u2 (ni_u2 (ni_u2 A p 1 a) p 2 b) p 3 x) p 4 0) p) : nq_Inv St own A' e ∧ ∀ s j, ¬ (s = p ∧ j < 9) → s ≠ p + 6 → A' s j = A s j := by
  have hp' := hp
  unfold ni_po at hp'
  have u : ∀ s j, ¬ (s = p ∧ j < 9) → s ≠ p + 6 → A' s j = A s j := fun s j g1 g2 => by
    rw [hA]
    unfold ni_cleared
    rw [ni_u2n (by omega), ni_u2n (by omega), ni_zrN (by omega), ni_u2n (by omega), ni_u2n (by omega), ni_u2n (by omega), ni_u2n (by omega)]
  have f1 : A' p 1 = a := by
    rw [hA]
    unfold ni_cleared
    rw [ni_u2n (by omega), ni_u2n (by omega), ni_zrN (by omega), ni_u2n (by omega), ni_u2n (by omega), ni_u2n (by omega)]
    exact ni_u2e
  have f2 : A' p 2 = b := by
    rw [hA]
    unfold ni_cleared
    rw [ni_u2n (by omega), ni_u2n (by omega), ni_zrN (by omega), ni_u2n (by omega), ni_u2n (by omega)]
    exact ni_u2e
  have f3 : A' p 3 = x := by
    rw [hA]
    unfold ni_cleared
    rw [ni_u2n (by omega), ni_u2n (by omega), ni_zrN (by omega), ni_u2n (by omega)]
    exact ni_u2e
  have f4 : A' p 4 = 0 := by
    rw [hA]
    unfold ni_cleared
    rw [ni_u2n (by omega), ni_u2n (by omega), ni_zrN (by omega)]
    exact ni_u2e
  have f7 : A' p 7 = 0 := by
    rw [hA]
    unfold ni_cleared
    rw [ni_u2n (by omega)]
    exact ni_u2e
  have f8 : A' p 8 = 0 := by
    rw [hA]
    unfold ni_cleared
    exact ni_u2e
  have f6 : ∀ j, j < 4 → A' (p + 6) j = 0 := fun j hj => by
    rw [hA]
    unfold ni_cleared
    rw [ni_u2n (by omega), ni_u2n (by omega)]
    unfold ni_zr
    rw [if_pos ⟨rfl, hj⟩]
  obtain ⟨z1, z2, z3, z4, z5⟩ := h.1.2.2.2.2.1 p hp
  refine ⟨nq_setPort h hp (fun s h1 h2 => funext fun j => u s j (by omega) h2) (fun j hj => u p j (by omega) (by omega)) ⟨by rw [f7]; omega, Or.inl f8, fun j hj => ?_⟩ (by rw [f1]; exact ha) (by rw [f2]; omega) (by rw [f3]; exact hx) f4, u⟩
  rw [u (p + 5) j (by omega) (by omega), f6 j hj, f8]
  refine ⟨(z1.2.2 j hj).1, Int.le_refl _, ?_⟩
  rw [if_neg (by omega)]
  omega
section C
variable {l : Int}
theorem lm_port {en a b x : Int} (hS : lz_5 n nl nf la c z w kk E T M) (hc : c ≤ 99000) (hl : 0 ≤ l ∧ l < nl) (hen : en = 0 ∨ en = 1) (ha : 0 ≤ a ∧ a ≤ 2) (hb : 50 ≤ b ∧ b ≤ 5000) (hx : x = 0 ∨ x = 1) : wp_C xs 25 40 [.ref 0, ni_z l, ni_z en, ni_z a, ni_z b, ni_z x] M (fun u M' => (∃ x : Int, u = some (ni_z x)) ∧ lz_5 n nl nf la (c + 6) (z + 86) (w + 2) (kk + 1) (E + 544) T M') := by
  obtain ⟨vs, St, own, A, B, e, hS, hLE, hH, h3, h8, hE, hT⟩ := hS
  obtain ⟨l', hl'⟩ := Int.eq_ofNat_of_zero_le hl.1
  subst hl'
  have hS' := hS
  obtain ⟨hR, hI, hCO, hown, hcn, hla, hvs⟩ := hS
  have h14 := hI.2.2.2.2.2.1.2
  have key : ∀ p : Nat, (p = 48 + 17 * l' + 1 ∨ p = 48 + 17 * l' + 9) → ∀ (v : Option ni_a) (A1 : Nat → Nat → Int), (∃ x : Int, v = some (ni_aI x)) ∧ A1 = ni_cleared (ni_u2 (ni_u2 (ni_u2 (ni_u2 A p 1 a) p 2 b) p 3 x) p 4 0) p → (∃ x : Int, v = some (ni_aI x)) ∧ nq_Inv St own A1 e ∧ (0 ≤ A1 8 3 ∧ A1 8 3 ≤ kk + 1) ∧ (∀ j, A1 0 j = A 0 j) ∧ (∀ l j : Nat, l < 14 → A1 (48 + 17 * l) j = A (48 + 17 * l) j) ∧ ∀ s j, nq_dead A s → A1 s j = A s j := fun p hp v A1 hv => by
    obtain ⟨i1, u⟩ := lz_prI hI (p := p) (by unfold ni_po; omega) ha hb hx hv.2
    refine ⟨hv.1, i1, by rw [u 8 3 (by omega) (by omega)]; omega, fun j => u 0 j (by omega) (by omega), fun i j hi => u _ _ (by omega) (by omega), fun s j hd => ?_⟩
    unfold nq_dead at hd
    exact u s j (by omega) (by omega)
  rcases hen with r | r
  · subst r
    exact lz_5F hS' hLE hH h3 hE hT hc (fc_setPort0 (xs := xs) (A := A) (Z := fun a => a 0 = na_1 0) (lz_m hR).1 (fun _ hz => hz) (l := l') (a := a) (b := b) (c := x) (by omega) (by omega) h14 ha hb hx) (key _ (Or.inl rfl))
  · subst r
    exact lz_5F hS' hLE hH h3 hE hT hc (fc_setPort1 (xs := xs) (A := A) (Z := fun a => a 0 = na_1 0) (lz_m hR).1 (fun _ hz => hz) (l := l') (a := a) (b := b) (c := x) (by omega) (by omega) h14 ha hb hx) (key _ (Or.inr rfl))
theorem lm_weight {en a x : Int} (hS : lz_5 n nl nf la c z w kk E T M) (hc : c ≤ 99000) (hl : 0 ≤ l ∧ l < nl) (hen : en = 0 ∨ en = 1) (ha : 0 ≤ a ∧ a < 4) (hx : 1 ≤ x ∧ x ≤ 4) : wp_C xs 25 42 [.ref 0, ni_z l, ni_z en, ni_z a, ni_z x] M (fun u M' => (∃ x : Int, u = some (ni_z x)) ∧ lz_5 n nl nf la (c + 6) (z + 86) (w + 2) (kk + 1) (E + 544) T M') := by
  obtain ⟨vs, St, own, A, B, e, hS, hLE, hH, h3, h8, hE, hT⟩ := hS
  obtain ⟨l', hl'⟩ := Int.eq_ofNat_of_zero_le hl.1
  subst hl'
  obtain ⟨a', ha'⟩ := Int.eq_ofNat_of_zero_le ha.1
  subst ha'
  have hS' := hS
  obtain ⟨hR, hI, hCO, hown, hcn, hla, hvs⟩ := hS
  have h14 := hI.2.2.2.2.2.1.2
  have key : ∀ p : Nat, (p = 48 + 17 * l' + 1 ∨ p = 48 + 17 * l' + 9) → ∀ (v : Option ni_a) (A1 : Nat → Nat → Int), (∃ x : Int, v = some (ni_aI x)) ∧ A1 = ni_u2 A (p + 5) a' x → (∃ x : Int, v = some (ni_aI x)) ∧ nq_Inv St own A1 e ∧ (0 ≤ A1 8 3 ∧ A1 8 3 ≤ kk + 1) ∧ (∀ j, A1 0 j = A 0 j) ∧ (∀ l j : Nat, l < 14 → A1 (48 + 17 * l) j = A (48 + 17 * l) j) ∧ ∀ s j, nq_dead A s → A1 s j = A s j := fun p hp v A1 hv => by
    have i1 := nq_weight hI (p := p) (c := a') (x := x) (by unfold ni_po; omega) (by omega) hx
    rw [hv.2]
    refine ⟨hv.1, i1, by rw [ni_u2n (by omega)]; omega, fun j => ni_u2n (by omega), fun i j hi => ni_u2n (by omega), fun s j hd => ?_⟩
    unfold nq_dead at hd
    exact ni_u2n (by omega)
  rcases hen with r | r
  · subst r
    exact lz_5F hS' hLE hH h3 hE hT hc (fc_setWeight0 (xs := xs) (A := A) (Z := fun a => a 0 = na_1 0) (lz_m hR).1 (fun _ hz => hz) (l := l') (c := a') (x := x) (by omega) (by omega) h14 (by omega) hx) (key _ (Or.inl rfl))
  · subst r
    exact lz_5F hS' hLE hH h3 hE hT hc (fc_setWeight1 (xs := xs) (A := A) (Z := fun a => a 0 = na_1 0) (lz_m hR).1 (fun _ hz => hz) (l := l') (c := a') (x := x) (by omega) (by omega) h14 (by omega) hx) (key _ (Or.inr rfl))
/-- the end of a link, as its row tells it -/
theorem lm_row (hS : lz_5 n nl nf la c z w kk E T M) (hl : 0 ≤ l ∧ l < nl) : ∃ (vs ws : List Value) (x : Nat) (r : Int), M.1[la]? = some (105, vs) ∧ vs[l.toNat]? = some (.ref x) ∧ M.1[x]? = some (100, ws) ∧ ws[0]? = some (ni_z r) ∧ ∀ b : Int, (0 ≤ b ∧ b < 4) → c ≤ 99000 → kk < 24 → n ≤ 8 → wp_C xs 25 5 [.ref 0, ni_z r, ni_z (b * 4096), ni_z 4, ni_z l] M (fun u M' => (∃ x : Int, u = some (ni_z x)) ∧ lz_5 n nl nf la (c + 6) (z + 86) (w + 2) (kk + 1) (E + 544) T M') := by
  obtain ⟨vs, St, own, A, B, e, hS, hLE, hH, h3, h8, hE, hT⟩ := hS
  obtain ⟨l', hl'⟩ := Int.eq_ofNat_of_zero_le hl.1
  subst hl'
  have hS' := hS
  obtain ⟨hR, hI, hCO, hown, hcn, hla, hvs⟩ := hS
  have h14 := hI.2.2.2.2.2.1.2
  obtain ⟨x, ws, v1, v2, v3, v4⟩ := hvs l' (by omega)
  have hB := hI.2.1.1 l' (by omega)
  have hEd := hLE l' (by omega)
  obtain ⟨r, hr⟩ := Int.eq_ofNat_of_zero_le hB.1.1
  obtain ⟨k8, hk8⟩ := Int.eq_ofNat_of_zero_le h8.1
  refine ⟨vs, ws, x, r, (lz_lt hR hla.2.1).2, by rw [Int.toNat_natCast]; exact v1, (lz_lt hR v2).2, by rw [← hr]; exact v3, fun b hb hc hkk hn => ?_⟩
  have hal := lz_al (f := b) 12 (by omega) (by omega)
  obtain ⟨A1, hA1⟩ : ∃ A1, A1 = ni_u2 (ni_u2 (ni_u2 (ni_u2 (ni_u2 A (286 + 11 * r) 5 1) (8 + 1) k8 (r : Int)) (8 + 2) k8 (b * 4096 * 32 + 4)) (8 + 3) k8 (l' : Int)) 8 3 ((k8 : Int) + 1) := ⟨_, rfl⟩
  have u : ∀ s j, ¬ (s = 286 + 11 * r ∧ j = 5) → ¬ ((s = 9 ∨ s = 10 ∨ s = 11) ∧ j = k8) → ¬ (s = 8 ∧ j = 3) → A1 s j = A s j := fun s j g1 g2 g3 => by rw [hA1, ni_u2n (by omega), ni_u2n (by omega), ni_u2n (by omega), ni_u2n (by omega), ni_u2n (by omega)]
  have i1 : nq_Inv St own A1 e := nq_static (b := b * 4096 * 32 + 4) (c := (l' : Int)) (r := r) (n := k8) hI (by omega) hk8 (by omega) (by omega) (by omega) (by rw [hA1, ni_u2n (by omega), ni_u2n (by omega), ni_u2n (by omega), ni_u2n (by omega)]; exact ni_u2e) (by rw [hA1, ni_u2n (by omega), ni_u2n (by omega), ni_u2n (by omega)]; exact ni_u2e) (by rw [hA1, ni_u2n (by omega), ni_u2n (by omega)]; exact ni_u2e) (by rw [hA1, ni_u2n (by omega)]; exact ni_u2e) (by rw [hA1]; exact ni_u2e) u
  refine lz_5F hS' hLE hH h3 hE hT hc (fc_addStatic (xs := xs) (A := A) (Z := fun a => a 0 = na_1 0) (lz_m hR).1 (fun _ hz => hz) (r := r) (l := l') (n := k8) (k := 12) (a := b * 4096) (b := 4) (by omega) (by omega) (by omega) (by omega) (by omega) h14 (by omega) (by omega) (by omega) hal ⟨hB.1, hB.2.1⟩ (Or.inl hr.symm) hk8 (by omega)) (fun v A2 h2 => ?_)
  have e2 : A2 = A1 := h2.2.trans hA1.symm
  rw [e2]
  refine ⟨h2.1, i1, by rw [hA1, ni_u2e]; omega, fun j => u 0 j (by omega) (by omega) (by omega), fun i j hi => u _ _ (by omega) (by omega) (by omega), fun s j hd => ?_⟩
  unfold nq_dead at hd
  exact u s j (by omega) (by omega) (by omega)
end C
end NMU3
