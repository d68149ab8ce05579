/-! WHAT THE LAW CHANGES IN A STEP -/
section NMU2
variable {xs : List Int32} {St : Nat → Option ni_C} {M : ni_H} {A A' B : Nat → Nat → Int} {own : Nat → Int} {c z n nl nf la kk : Nat} {w e E T : Int} {vs : List Value}
def lz_5 (n nl nf la c z : Nat) (w : Int) (kk : Nat) (E T : Int) (M : ni_H) : Prop := ∃ (vs : List Value) (St : Nat → Option ni_C) (own : Nat → Int) (A B : Nat → Nat → Int) (e : Int), lz_4 n nl la c z w vs St own A B e M ∧ nq_LE2 A ∧ np_H A B ∧ A 0 3 = nf ∧ (0 ≤ A 8 3 ∧ A 8 3 ≤ kk) ∧ e ≤ E ∧ A 0 0 ≤ T
theorem lz_4M {c' z' : Nat} {w' : Int} (h : lz_4 n nl la c z w vs St own A B e M) (hc : c ≤ c') (hz : z ≤ z') (hw : w ≤ w') : lz_4 n nl la c' z' w' vs St own A B e M := by
  obtain ⟨hR, hI, hCO, hown, hcn, hla, hvs⟩ := h
  obtain ⟨w1, w2, w3, w4, t1, t2, t3, t4, t5, t6⟩ := hR
  exact ⟨⟨w1, w2, w3, w4, t1, t2, t3, by omega, by omega, t6⟩, hI, hCO, fun x => by have := hown x; omega, hcn, hla, hvs⟩
/-- behind a call that writes letters -/
theorem lz_5X {d y : Nat} {as : List Value} {k : Nat} {P : (Nat → Nat → Int) → Int → Prop} (hS : lz_4 n nl la c z w vs St own A B e M) (hLE : nq_LE2 A) (hH : np_H A B) (h3 : A 0 3 = nf) (h8 : 0 ≤ A 8 3 ∧ A 8 3 ≤ kk) (hE : e ≤ E) (hT : A 0 0 ≤ T) (hk : k ≤ 2) (hc : c ≤ 99000) (hx : ∀ rw cp : Nat → Nat, ni_Rep St M na_1 rw cp A (ni_live A) → M.1.length + 57350 ≤ 900000 + ni_gz cp → wp_C xs d y as M (fun u M' => (∃ x : Int, u = some (ni_z x)) ∧ ∃ A1 e1, P A1 e1 ∧ nx_Q St own A1 e1 k M na_1 rw cp M')) (hP : ∀ A1 e1, P A1 e1 → nq_CO A1 ∧ e1 ≤ E + 544 ∧ (∀ s j, s < 12 → A1 s j = A s j) ∧ (∀ l j : Nat, l < 14 → j ≠ 2 → j ≠ 5 → A1 (48 + 17 * l) j = A (48 + 17 * l) j) ∧ ∀ s j, nq_dead A s → A1 s j = A s j) : wp_C xs d y as M (fun u M' => (∃ x : Int, u = some (ni_z x)) ∧ lz_5 n nl nf la (c + 6) (z + 86) (w + 2) (kk + 1) (E + 544) T M') := by
  have hcn := hS.2.2.2.2.1
  have hrc := hS.2.1.2.1.2.2.1
  refine wp_mono (lz_X hS hx (by omega) (fun A1 e1 h1 => ?_)) ?_
  · obtain ⟨p1, p2, p3, p4, p5⟩ := hP A1 e1 h1
    exact ⟨p1, by rw [p3 0 1 (by omega)]; exact hcn.1, by rw [p3 0 2 (by omega)]; exact hcn.2, fun l hl h14 => ⟨p4 l 0 h14 (by omega) (by omega), p4 l 4 h14 (by omega) (by omega)⟩⟩
  · rintro u M' ⟨hu, A1, e1, h1, S', own', A2, q1, q2, q3⟩
    obtain ⟨p1, p2, p3, p4, p5⟩ := hP A1 e1 h1
    have fl := nx_fl q2
    have low : ∀ s j, s < 12 → A2 s j = A s j := fun s j hs => (fl.2.2 s j (by omega)).trans (p3 s j hs)
    have h01 : 0 ≤ A1 0 1 := by rw [p3 0 1 (by omega)]; exact hrc.1
    refine ⟨hu, vs, S', own', A2, B, e1, lz_4M q1 (by omega) (by omega) (by omega), fun l hl => ?_, nx_ddH h01 q2 q3 (np_Hk hH (p3 0 1 (by omega)) (p3 0 2 (by omega)) (p3 0 3 (by omega)) p5), by rw [low 0 3 (by omega)]; exact h3, by rw [low 8 3 (by omega)]; omega, p2, by rw [low 0 0 (by omega)]; exact hT⟩
    rw [fl.2.1 l 0 hl, fl.2.1 l 1 hl, p4 l 0 hl (by omega) (by omega), p4 l 1 hl (by omega) (by omega), low 0 1 (by omega)]
    exact hLE l hl
/-- behind a call that writes none -/
theorem lz_5F {d y : Nat} {as : List ni_a} {P : Option ni_a → (Nat → Nat → Int) → Prop} (hS : lz_4 n nl la c z w vs St own A B e M) (hLE : nq_LE2 A) (hH : np_H A B) (h3 : A 0 3 = nf) (hE : e ≤ E) (hT : A 0 0 ≤ T) (hc : c ≤ 99000) (hF : nf_F xs St (fun a => a 0 = na_1 0) d y as A P) (hP : ∀ v A1, P v A1 → (∃ x : Int, v = some (ni_aI x)) ∧ nq_Inv St own A1 e ∧ (0 ≤ A1 8 3 ∧ A1 8 3 ≤ kk + 1) ∧ (∀ j, A1 0 j = A 0 j) ∧ (∀ l j : Nat, l < 14 → A1 (48 + 17 * l) j = A (48 + 17 * l) j) ∧ ∀ s j, nq_dead A s → A1 s j = A s j) : wp_C xs d y (as.map (ni_dn na_1 na_1)) M (fun u M' => (∃ x : Int, u = some (ni_z x)) ∧ lz_5 n nl nf la (c + 6) (z + 86) (w + 2) (kk + 1) (E + 544) T M') := by
  have hcn := hS.2.2.2.2.1
  have hCO := hS.2.2.1
  have h14 := hS.2.1.2.2.2.2.2.1.2
  refine wp_mono (lz_F (e1 := e) hS hF (by omega) (fun v A1 h1 => ?_)) ?_
  · obtain ⟨p0, p1, p2, p3, p4, p5⟩ := hP v A1 h1
    refine ⟨p1, fun l hl hl2 => ?_, by rw [p3]; exact hcn.1, by rw [p3]; exact hcn.2, fun l hl => ⟨p4 l 0 (by omega), p4 l 4 (by omega)⟩⟩
    rw [p3] at hl2
    rw [p4 l 2 hl]
    exact hCO l hl hl2
  · rintro u M' ⟨v, A1, h1, hu, q1⟩
    obtain ⟨⟨x, hx⟩, p1, p2, p3, p4, p5⟩ := hP v A1 h1
    refine ⟨⟨x, by rw [hu, hx]; rfl⟩, vs, St, own, A1, B, e, lz_4M q1 (by omega) (by omega) (by omega), fun l hl => ?_, np_Hk hH (p3 1) (p3 2) (p3 3) p5, by rw [p3]; exact h3, by omega, by omega, by rw [p3]; exact hT⟩
    rw [p4 l 0 hl, p4 l 1 hl, p3]
    exact hLE l hl
/-- a link may come up -/
theorem lz_upI {l : Nat} (h : nq_Inv St own A e) (hl : l < 14) (hlc : (l : Int) < A 0 2) (hd : 1 ≤ A (48 + 17 * l) 4) : nq_Inv St own (ni_u2 A (48 + 17 * l) 5 1) e := by
  have u : ∀ s j, ¬ (s = 48 + 17 * l ∧ j = 5) → ni_u2 A (48 + 17 * l) 5 1 s j = A s j := fun s j hs => ni_u2n (by omega)
  have u5 : ni_u2 A (48 + 17 * l) 5 1 (48 + 17 * l) 5 = 1 := ni_u2e
  have hInv := h
  obtain ⟨hNI, hC, hLE, hLD, hLV, hlc', hLA, hRK, hRT, _, hdead⟩ := h
  revert u u5
  generalize ni_u2 A (48 + 17 * l) 5 1 = A1
  intro u u5
  refine nq_InvL hInv (nq_NIg hNI (fun s hs => Or.inl (funext fun j => u s j (by omega))) (fun j _ _ => u 0 j (by omega)) (fun s h1 h2 h3 j => u s j (by omega)) (fun p hp => ?_)) (fun f hf hfc => ?_) (fun i hi => ?_) (fun i hi hi2 => ?_) (fun i hi hi2 => ?_) (fun i hi => ?_) (by rw [u 0 2 (by omega)]; exact hlc') (fun i hi hi2 => ?_) (nq_LAf hLA (fun s j hs => u s j (by unfold ni_isL at hs; omega))) (fun s j hs => u s j (by omega))
  · have hp' := hp
    unfold ni_po at hp'
    have hli : ni_li p = 48 + 17 * ((p - 48) / 17) := rfl
    refine nq_PIg (fun x hx => ?_) (u 0 0 (by omega)) (fun k hk j => u (p + k) j (by omega)) (u (ni_li p) 4 (by omega)) (fun h5 => ?_) (hNI.2.2.2.2.1 p hp)
    · obtain ⟨x1, x2, x3⟩ := hx
      have h12 := hNI.1.2
      unfold ni_PK
      rw [u 0 3 (by omega), u 0 0 (by omega), u (12 + 3 * (x % 16).toNat) 4 (by omega), u (12 + 3 * (x % 16).toNat) 5 (by omega)]
      exact ⟨x1, x2, x3⟩
    · by_cases cc : ni_li p = 48 + 17 * l
      · rw [cc, u5] at h5
        omega
      · rw [u (ni_li p) 5 (by omega)] at h5
        exact (hNI.2.2.2.2.1 p hp).2.2.2.2.2.2.2.2.2.2.2 h5
  · rw [u 0 3 (by omega)] at hfc
    have := hC.2.1 f hf hfc
    have g : ∀ j, A1 (12 + 3 * f) j = A (12 + 3 * f) j := fun j => u _ _ (by omega)
    rw [g, g, g, g, g, g, g, g, u 0 1 (by omega)]
    exact this
  · have := hC.1 i hi
    rw [u (48 + 17 * i) 0 (by omega), u (48 + 17 * i) 1 (by omega)]
    refine ⟨this.1, this.2.1, ?_⟩
    by_cases cc : i = l
    · rw [cc, u5]
      exact Or.inr rfl
    · rw [u (48 + 17 * i) 5 (by omega)]
      exact this.2.2
  · rw [u 0 2 (by omega)] at hi2
    rw [u (48 + 17 * i) 0 (by omega), u (48 + 17 * i) 1 (by omega), u 0 1 (by omega)]
    exact hLE i hi hi2
  · rw [u (48 + 17 * i) 4 (by omega)]
    by_cases cc : i = l
    · rw [cc]
      exact hd
    · rw [u (48 + 17 * i) 5 (by omega)] at hi2
      exact hLD i hi hi2
  · rw [u (48 + 17 * i) 3 (by omega), u (48 + 17 * i) 4 (by omega)]
    exact hLV i hi
  · rw [u 0 2 (by omega)] at hi2
    rw [u (48 + 17 * i) 5 (by omega), u (50 + 17 * i) 2 (by omega), u (58 + 17 * i) 2 (by omega)]
    exact hdead i hi hi2
/-- a link's cost may change -/
theorem lz_coI {x : Int} {l : Nat} (h : nq_Inv St own A e) (hl : l < 14) : nq_Inv St own (ni_u2 A (48 + 17 * l) 2 x) e := by
  have u : ∀ s j, ¬ (s = 48 + 17 * l ∧ j = 2) → ni_u2 A (48 + 17 * l) 2 x s j = A s j := fun s j hs => ni_u2n (by omega)
  have hInv := h
  obtain ⟨hNI, hC, hLE, hLD, hLV, hlc', hLA, hRK, hRT, _, hdead⟩ := h
  revert u
  generalize ni_u2 A (48 + 17 * l) 2 x = A1
  intro u
  refine nq_InvL hInv (nq_NIg hNI (fun s hs => Or.inl (funext fun j => u s j (by omega))) (fun j _ _ => u 0 j (by omega)) (fun s h1 h2 h3 j => u s j (by omega)) (fun p hp => ?_)) (fun f hf hfc => ?_) (fun i hi => ?_) (fun i hi hi2 => ?_) (fun i hi hi2 => ?_) (fun i hi => ?_) (by rw [u 0 2 (by omega)]; exact hlc') (fun i hi hi2 => ?_) (nq_LAf hLA (fun s j hs => u s j (by unfold ni_isL at hs; omega))) (fun s j hs => u s j (by omega))
  · have hp' := hp
    unfold ni_po at hp'
    have hli : ni_li p = 48 + 17 * ((p - 48) / 17) := rfl
    refine nq_PIg (fun x hx => ?_) (u 0 0 (by omega)) (fun k hk j => u (p + k) j (by omega)) (u (ni_li p) 4 (by omega)) (fun h5 => ?_) (hNI.2.2.2.2.1 p hp)
    · obtain ⟨x1, x2, x3⟩ := hx
      have h12 := hNI.1.2
      unfold ni_PK
      rw [u 0 3 (by omega), u 0 0 (by omega), u (12 + 3 * _) 4 (by omega), u (12 + 3 * _) 5 (by omega)]
      exact ⟨x1, x2, x3⟩
    · rw [u (ni_li p) 5 (by omega)] at h5
      exact (hNI.2.2.2.2.1 p hp).2.2.2.2.2.2.2.2.2.2.2 h5
  · rw [u 0 3 (by omega)] at hfc
    have := hC.2.1 f hf hfc
    have g : ∀ j, A1 (12 + 3 * f) j = A (12 + 3 * f) j := fun j => u _ _ (by omega)
    rw [g, g, g, g, g, g, g, g, u 0 1 (by omega)]
    exact this
  · rw [u (48 + 17 * i) 0 (by omega), u (48 + 17 * i) 1 (by omega), u (48 + 17 * i) 5 (by omega)]
    exact hC.1 i hi
  · rw [u 0 2 (by omega)] at hi2
    rw [u (48 + 17 * i) 0 (by omega), u (48 + 17 * i) 1 (by omega), u 0 1 (by omega)]
    exact hLE i hi hi2
  · rw [u (48 + 17 * i) 5 (by omega)] at hi2
    rw [u (48 + 17 * i) 4 (by omega)]
    exact hLD i hi hi2
  · rw [u (48 + 17 * i) 3 (by omega), u (48 + 17 * i) 4 (by omega)]
    exact hLV i hi
  · rw [u 0 2 (by omega)] at hi2
    rw [u (48 + 17 * i) 5 (by omega), u (50 + 17 * i) 2 (by omega), u (58 + 17 * i) 2 (by omega)]
    exact hdead i hi hi2
section C
variable {l : Int}
theorem lm_raise (hS : lz_5 n nl nf la c z w kk E T M) (hc : c ≤ 99000) (hw : w ≤ 700000) (hl : 0 ≤ l ∧ l < nl) : wp_C xs 25 41 [.ref 0, ni_z l, ni_z 1] M (fun u M' => (∃ x : Int, u = some (ni_z x)) ∧ lz_5 n nl nf la (c + 6) (z + 86) (w + 2) (kk + 1) (E + 544) T M') := by
  obtain ⟨vs, St, own, A, B, e, hS, hLE, hH, h3, h8, hE, hT⟩ := hS
  obtain ⟨l', hl'⟩ := Int.eq_ofNat_of_zero_le hl.1
  subst hl'
  have hS' := hS
  obtain ⟨hR, hI, hCO, hown, hcn, hla, hvs⟩ := hS
  have h14 := hI.2.2.2.2.2.1.2
  obtain ⟨x, ws, v1, v2, v3, v4⟩ := hvs l' (by omega)
  have i1 := lz_upI hI (l := l') (by omega) (by omega) v4
  have u : ∀ s j, ¬ (s = 48 + 17 * l' ∧ j = 5) → ni_u2 A (48 + 17 * l') 5 1 s j = A s j := fun s j hs => ni_u2n (by omega)
  have co1 : nq_CO (ni_u2 A (48 + 17 * l') 5 1) := fun i hi hi2 => by
    rw [u 0 2 (by omega)] at hi2
    rw [u _ _ (by omega)]
    exact hCO i hi hi2
  refine lz_5X (k := 2) (P := fun A1 e1 => (A1 = ni_u2 A (48 + 17 * l') 5 1 ∨ A1 = A) ∧ e1 = e) hS' hLE hH h3 h8 hE hT (by omega) hc (fun rw cp hRep hlen => ?_) (fun A1 e1 h1 => ?_)
  · refine wp_mono (fx_raise (xs := xs) (m := 0) (n1 := 375) (ad := na_1) (lz_m hR).1 hRep (fun x => by have := hown x; omega) hlen hI hCO i1 co1 (by omega) (by omega) h14) ?_
    rintro q M' ⟨hu, hQ⟩
    rcases hQ with hQ | hQ
    · exact ⟨hu, _, e, ⟨Or.inl rfl, rfl⟩, hQ⟩
    · exact ⟨hu, _, e, ⟨Or.inr rfl, rfl⟩, hQ⟩
  · obtain ⟨r, re⟩ := h1
    rcases r with r | r
    · rw [r]
      refine ⟨co1, by omega, fun s j hs => u s j (by omega), fun i j hi h2 h5 => u _ _ (by omega), fun s j hd => u s j ?_⟩
      unfold nq_dead at hd
      omega
    · rw [r]
      exact ⟨hCO, by omega, fun _ _ _ => rfl, fun _ _ _ _ _ => rfl, fun _ _ _ => rfl⟩
theorem lm_cut (hS : lz_5 n nl nf la c z w kk E T M) (hc : c ≤ 99000) (hw : w ≤ 700000) (hl : 0 ≤ l ∧ l < nl) : wp_C xs 25 41 [.ref 0, ni_z l, ni_z 0] M (fun u M' => (∃ x : Int, u = some (ni_z x)) ∧ lz_5 n nl nf la (c + 6) (z + 86) (w + 2) (kk + 1) (E + 544) T M') := by
  obtain ⟨vs, St, own, A, B, e, hS, hLE, hH, h3, h8, hE, hT⟩ := hS
  obtain ⟨l', hl'⟩ := Int.eq_ofNat_of_zero_le hl.1
  subst hl'
  have hS' := hS
  obtain ⟨hR, hI, hCO, hown, hcn, hla, hvs⟩ := hS
  have h14 := hI.2.2.2.2.2.1.2
  have h12 := hI.1.1
  refine lz_5X (k := 2) (P := fun A1 e1 => nq_CO A1 ∧ e1 ≤ e + 544 ∧ (∀ s j, s < 12 → A1 s j = A s j) ∧ (∀ l j : Nat, l < 14 → j ≠ 2 → j ≠ 5 → A1 (48 + 17 * l) j = A (48 + 17 * l) j) ∧ ∀ s j, nq_dead A s → A1 s j = A s j) hS' hLE hH h3 h8 hE hT (by omega) hc (fun rw cp hRep hlen => ?_) (fun A1 e1 h1 => ⟨h1.1, by have := h1.2.1; omega, h1.2.2⟩)
  refine wp_mono (fx_cut (xs := xs) (m := 0) (n1 := 375) (ad := na_1) (lz_m hR).1 hRep (fun x => by have := hown x; omega) hlen hI hCO (by omega) (by omega) h14) ?_
  rintro q M' ⟨hu, hQ⟩
  rcases hQ with hQ | ⟨A3, ⟨g1, g2, g3, g4⟩, g5, hQ⟩
  · exact ⟨hu, A, e, ⟨hCO, by omega, fun _ _ _ => rfl, fun _ _ _ _ _ => rfl, fun _ _ _ => rfl⟩, hQ⟩
  · refine ⟨hu, A3, e + 544, ⟨g1, by omega, fun s j hs => g2 s j (by omega), fun i j hi h2 h5 => ?_, fun s j hd => ?_⟩, hQ⟩
    · by_cases cc : i = l'
      · rw [cc]
        exact g4 j h5
      · exact g3 _ _ (by omega) (by omega)
    · unfold nq_dead at hd
      by_cases c1 : 286 ≤ s
      · exact g2 s j (by omega)
      · by_cases c2 : 48 ≤ s
        · exact g3 s j c2 (by omega)
        · obtain ⟨f1, f2, f3⟩ := g5 ((s - 12) / 3) (by omega)
          have f3 := f3 (by omega)
          have : s = 12 + 3 * ((s - 12) / 3) ∨ s = 12 + 3 * ((s - 12) / 3) + 1 ∨ s = 12 + 3 * ((s - 12) / 3) + 2 := by omega
          rcases this with r | r | r
          · rw [r]; exact f1 j
          · rw [r]; exact f2 j
          · rw [r]; exact f3 j
theorem lm_cost {x : Int} (hS : lz_5 n nl nf la c z w kk E T M) (hc : c ≤ 99000) (hw : w ≤ 700000) (hl : 0 ≤ l ∧ l < nl) (hx : 1 ≤ x ∧ x ≤ 50) : wp_C xs 25 39 [.ref 0, ni_z l, ni_z x] M (fun u M' => (∃ x : Int, u = some (ni_z x)) ∧ lz_5 n nl nf la (c + 6) (z + 86) (w + 2) (kk + 1) (E + 544) T M') := by
  obtain ⟨vs, St, own, A, B, e, hS, hLE, hH, h3, h8, hE, hT⟩ := hS
  obtain ⟨l', hl'⟩ := Int.eq_ofNat_of_zero_le hl.1
  subst hl'
  have hS' := hS
  obtain ⟨hR, hI, hCO, hown, hcn, hla, hvs⟩ := hS
  have h14 := hI.2.2.2.2.2.1.2
  have i1 := lz_coI hI (l := l') (x := x) (by omega)
  have u : ∀ s j, ¬ (s = 48 + 17 * l' ∧ j = 2) → ni_u2 A (48 + 17 * l') 2 x s j = A s j := fun s j hs => ni_u2n (by omega)
  have co1 : nq_CO (ni_u2 A (48 + 17 * l') 2 x) := fun i hi hi2 => by
    rw [u 0 2 (by omega)] at hi2
    by_cases cc : i = l'
    · rw [cc, ni_u2e]
      exact hx
    · rw [u _ _ (by omega)]
      exact hCO i hi hi2
  refine lz_5X (k := 2) (P := fun A1 e1 => A1 = ni_u2 A (48 + 17 * l') 2 x ∧ e1 = e) hS' hLE hH h3 h8 hE hT (by omega) hc (fun rw cp hRep hlen => ?_) (fun A1 e1 h1 => ?_)
  · refine wp_mono (fx_setCost (xs := xs) (m := 0) (n1 := 375) (ad := na_1) (lz_m hR).1 hRep (fun x => by have := hown x; omega) hlen i1 co1 (hCO l' (by omega) (by omega)) hx (by omega) (by omega) h14) ?_
    rintro q M' ⟨hu, hQ⟩
    exact ⟨hu, _, e, ⟨rfl, rfl⟩, hQ⟩
  · obtain ⟨r, re⟩ := h1
    rw [r]
    refine ⟨co1, by omega, fun s j hs => u s j (by omega), fun i j hi h2 h5 => u _ _ (by omega), fun s j hd => u s j ?_⟩
    unfold nq_dead at hd
    omega
end C
end NMU2
