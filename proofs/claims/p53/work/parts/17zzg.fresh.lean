/-! WHAT HOLDS OF A NEW OBJECT -/
section NFR
variable {St : Nat → Option ni_C} {A A' : Nat → Nat → Int}
theorem na_kr : ∀ r : Nat, r < 8 → ni_kd (286 + 11 * r) = 7 ∧ ni_kd (286 + 11 * r + 4) = 104 ∧ ni_kd (286 + 11 * r + 5) = 100 ∧ ni_kd (286 + 11 * r + 6) = 100 ∧ ni_kd (286 + 11 * r + 7) = 8 := by decide +kernel
theorem na_kl : ∀ l : Nat, l < 14 → ni_kd (48 + 17 * l) = 3 ∧ ni_kd (49 + 17 * l) = 5 ∧ ni_kd (57 + 17 * l) = 5 ∧ ni_kd (50 + 17 * l) = 2 ∧ ni_kd (58 + 17 * l) = 2 := by decide +kernel
theorem na_kp : ∀ l : Nat, l < 14 → (ni_kd (49 + 17 * l + 4) = 100 ∧ ni_kd (49 + 17 * l + 5) = 100 ∧ ni_kd (49 + 17 * l + 6) = 100) ∧ ni_kd (57 + 17 * l + 4) = 100 ∧ ni_kd (57 + 17 * l + 5) = 100 ∧ ni_kd (57 + 17 * l + 6) = 100 := by decide +kernel
theorem na_kf : ∀ f : Nat, f < 12 → ni_kd (12 + 3 * f) = 0 ∧ ni_kd (12 + 3 * f + 1) = 100 ∧ ni_kd (12 + 3 * f + 2) = 100 := by decide +kernel
theorem na_e {c b s j : Nat} (h : ni_kd s = c) : na_A b s j = na_v c b s j := by
  unfold na_A
  rw [h]
theorem na_blt {a b : Nat} (h : a < b) : Nat.blt a b = true := Nat.ble_eq_true_of_le h
theorem na_nblt {a b : Nat} (h : b ≤ a) : Nat.blt a b = false := by
  cases hh : Nat.blt a b with
  | false => rfl
  | true => have := Nat.le_of_ble_eq_true hh; omega
theorem na_nbeq {a b : Nat} (h : a ≠ b) : Nat.beq a b = false := by
  cases hh : Nat.beq a b with
  | false => rfl
  | true => exact absurd (Nat.eq_of_beq_eq_true hh) h
theorem na_beq {a b : Nat} (h : a = b) : Nat.beq a b = true := by
  subst h
  exact Nat.beq_refl a
/-- rows of numbers -/
theorem na_row {b s j : Nat} (h : ni_kd s = 100) : na_A b s j = if s < 286 then (if s < 48 then 0 else if (s - 48) % 17 = 5 ∨ (s - 48) % 17 = 13 then -1 else if (s - 48) % 17 = 6 ∨ (s - 48) % 17 = 14 then 1 else 0) else if (s - 286) % 11 = 5 then (if j = (s - 286) / 11 then 0 else -1) else 0 := by
  rw [na_e h]
  show cond (Nat.blt s 286) (cond (Nat.blt s 48) 0 (cond (Nat.beq ((s - 48) % 17) 5 || Nat.beq ((s - 48) % 17) 13) (-1) (cond (Nat.beq ((s - 48) % 17) 6 || Nat.beq ((s - 48) % 17) 14) 1 0))) (cond (Nat.beq ((s - 286) % 11) 5) (cond (Nat.beq j ((s - 286) / 11)) 0 (-1)) 0) = _
  by_cases c1 : s < 286
  · rw [na_blt c1, cond_true, if_pos c1]
    by_cases c2 : s < 48
    · rw [na_blt c2, cond_true, if_pos c2]
    · rw [na_nblt (by omega), cond_false, if_neg c2]
      by_cases c3 : (s - 48) % 17 = 5 ∨ (s - 48) % 17 = 13
      · rw [if_pos c3]
        rcases c3 with c | c
        · rw [c]; rfl
        · rw [c]; rfl
      · rw [if_neg c3, na_nbeq (fun z => c3 (Or.inl z)), na_nbeq (fun z => c3 (Or.inr z)), Bool.false_or, cond_false]
        by_cases c4 : (s - 48) % 17 = 6 ∨ (s - 48) % 17 = 14
        · rw [if_pos c4]
          rcases c4 with c | c
          · rw [c]; rfl
          · rw [c]; rfl
        · rw [if_neg c4, na_nbeq (fun z => c4 (Or.inl z)), na_nbeq (fun z => c4 (Or.inr z)), Bool.false_or, cond_false]
  · rw [na_nblt (by omega), cond_false, if_neg c1]
    by_cases c2 : (s - 286) % 11 = 5
    · rw [na_beq c2, cond_true, if_pos c2]
      by_cases c3 : j = (s - 286) / 11
      · rw [na_beq c3, cond_true, if_pos c3]
      · rw [na_nbeq c3, cond_false, if_neg c3]
    · rw [na_nbeq c2, cond_false, if_neg c2]
/-- a port of a new object -/
theorem na_prF {b p : Nat} (hp : ni_po p) : ni_kd p = 5 ∧ ni_kd (p + 1) = 2 ∧ (∀ j, na_A b (p + 4) j = -1) ∧ (∀ j, na_A b (p + 5) j = 1) ∧ (∀ j, na_A b (p + 6) j = 0) := by
  have hp' := hp
  unfold ni_po at hp'
  obtain ⟨l, hl, hpl⟩ : ∃ l : Nat, l < 14 ∧ (p = 49 + 17 * l ∨ p = 57 + 17 * l) := ⟨(p - 48) / 17, by omega, by omega⟩
  have h1 := na_kl l hl
  have h2 := na_kp l hl
  rcases hpl with r | r
  · subst r
    refine ⟨h1.2.1, by rw [show 49 + 17 * l + 1 = 50 + 17 * l by omega]; exact h1.2.2.2.1, fun j => ?_, fun j => ?_, fun j => ?_⟩
    · rw [na_row h2.1.1, if_pos (by omega), if_neg (by omega), if_pos (by omega)]
    · rw [na_row h2.1.2.1, if_pos (by omega), if_neg (by omega), if_neg (by omega), if_pos (by omega)]
    · rw [na_row h2.1.2.2, if_pos (by omega), if_neg (by omega), if_neg (by omega), if_neg (by omega)]
  · subst r
    refine ⟨h1.2.2.1, by rw [show 57 + 17 * l + 1 = 58 + 17 * l by omega]; exact h1.2.2.2.2, fun j => ?_, fun j => ?_, fun j => ?_⟩
    · rw [na_row h2.2.1, if_pos (by omega), if_neg (by omega), if_pos (by omega)]
    · rw [na_row h2.2.2.1, if_pos (by omega), if_neg (by omega), if_neg (by omega), if_pos (by omega)]
    · rw [na_row h2.2.2.2, if_pos (by omega), if_neg (by omega), if_neg (by omega), if_neg (by omega)]
theorem na_PI {p : Nat} {e : Int} (hp : ni_po p) (h : ∀ k, k < 8 → k ≠ 2 → k ≠ 3 → k ≠ 7 → ∀ j, A (p + k) j = na_A 1 (p + k) j) (h0 : 0 ≤ A 0 0 ∧ A 0 0 ≤ 900000) (he : 0 ≤ e) : nq_PI A p 0 e ∧ A p 10 = 0 ∧ A p 12 = -1 ∧ (∀ j, A (p + 4) j = -1) := by
  obtain ⟨q1, q2, q4, q5, q6⟩ := na_prF (b := 1) hp
  have g : ∀ j, A p j = na_v 5 1 p j := fun j => (h 0 (by omega) (by omega) (by omega) (by omega) j).trans (na_e q1)
  have g1 : A (p + 1) 4 = 0 := (h 1 (by omega) (by omega) (by omega) (by omega) 4).trans ((na_e q2).trans rfl)
  have g4 : ∀ j, A (p + 4) j = -1 := fun j => (h 4 (by omega) (by omega) (by omega) (by omega) j).trans (q4 j)
  have g5 : ∀ j, A (p + 5) j = 1 := fun j => (h 5 (by omega) (by omega) (by omega) (by omega) j).trans (q5 j)
  have g6 : ∀ j, A (p + 6) j = 0 := fun j => (h 6 (by omega) (by omega) (by omega) (by omega) j).trans (q6 j)
  have e1 : A p 1 = 0 := (g 1).trans rfl
  have e2 : A p 2 = 2000 := (g 2).trans rfl
  have e3 : A p 3 = 0 := (g 3).trans rfl
  have e4 : A p 4 = 0 := (g 4).trans rfl
  have e7 : A p 7 = 0 := (g 7).trans rfl
  have e8 : A p 8 = 0 := (g 8).trans rfl
  have e10 : A p 10 = 0 := (g 10).trans rfl
  have e11 : A p 11 = 0 := (g 11).trans rfl
  have e12 : A p 12 = -1 := (g 12).trans rfl
  have e13 : A p 13 = 0 := (g 13).trans rfl
  refine ⟨⟨⟨by rw [e7]; omega, Or.inl e8, fun j hj => ?_⟩, by rw [e1]; omega, by rw [e2]; omega, Or.inl e3, by rw [e4]; omega, by rw [e10]; omega, fun j hj => by rw [e10] at hj; omega, by rw [e10, e11]; rfl, Or.inl ⟨e12, e13⟩, fun j hj => Or.inl (g4 j), ?_, fun _ => ⟨e10, e12, fun j _ => g4 j⟩⟩, e10, e12, g4⟩
  · rw [g5, g6, e8]
    refine ⟨by omega, by omega, ?_⟩
    rw [if_neg (by omega)]
    omega
  · rw [g1, ni_swC (g' := fun _ => -1) 21 (fun j _ => g4 j)]
    decide
/-- places that aren't in use are as the constructor left them -/
def na_Fr (A : Nat → Nat → Int) : Prop := ∀ s j, nq_dead A s → A s j = na_A 1 s j
def na_St (St : Nat → Option ni_C) : Prop := ∀ r : Nat, r < 8 → St (288 + 11 * r) = some (1, [ni_z (r : Int), ni_z 0, ni_z 0, .ref (289 + 11 * r), .ref (290 + 11 * r)]) ∧ St (289 + 11 * r) = some (100, List.replicate 14 (.int 0)) ∧ St (290 + 11 * r) = some (100, [])
theorem na_Inv (hS : na_St St) (h : ∀ s j, ¬ (s = 0 ∧ j = 1) → A s j = na_A 1 s j) (h1 : 0 ≤ A 0 1 ∧ A 0 1 ≤ 8) : nq_Inv St (fun _ => 0) A 0 := by
  have k0 : ni_kd 0 = 4 := by decide +kernel
  have k4 : ni_kd 4 = 6 := by decide +kernel
  have k8 : ni_kd 8 = 6 := by decide +kernel
  have z0 : ∀ j, j ≠ 1 → A 0 j = 0 := fun j hj => (h 0 j (by omega)).trans ((na_e k0).trans rfl)
  have z4 : A 4 3 = 0 := (h 4 3 (by omega)).trans ((na_e k4).trans rfl)
  have z8 : A 8 3 = 0 := (h 8 3 (by omega)).trans ((na_e k8).trans rfl)
  have zl : ∀ l : Nat, l < 14 → ∀ j, A (48 + 17 * l) j = 0 := fun l hl j => (h _ j (by omega)).trans ((na_e (na_kl l hl).1).trans rfl)
  have zp : ∀ p, ni_po p → nq_PI A p 0 0 ∧ A p 10 = 0 ∧ A p 12 = -1 ∧ (∀ j, A (p + 4) j = -1) := fun p hp => na_PI hp (fun k _ _ _ _ j => h _ j (by unfold ni_po at hp; omega)) (by rw [z0 0 (by omega)]; omega) (Int.le_refl _)
  have zi : ∀ p, ni_ln0 p → A p 2 = 0 := fun p hp => by
    unfold ni_ln0 at hp
    obtain ⟨l, hl, hpl⟩ : ∃ l : Nat, l < 14 ∧ (p = 50 + 17 * l ∨ p = 58 + 17 * l) := ⟨(p - 50) / 17, by omega, by omega⟩
    rw [h p 2 (by omega)]
    rcases hpl with r | r
    · rw [r, na_e (na_kl l hl).2.2.2.1]; rfl
    · rw [r, na_e (na_kl l hl).2.2.2.2]; rfl
  have zt : ∀ r : Nat, r < 8 → A (286 + 11 * r + 7) 3 = 0 := fun r hr => (h _ 3 (by omega)).trans ((na_e (na_kr r hr).2.2.2.2).trans rfl)
  have zT : ∀ r : Nat, r < 8 → ni_TI A (286 + 11 * r + 7) := fun r hr => ⟨by rw [zt r hr]; omega, fun i hi => by rw [zt r hr] at hi; omega⟩
  refine ⟨⟨by rw [z0 3 (by omega)]; omega, by rw [z0 0 (by omega)]; omega, Int.le_refl _, fun f hf hfc => by rw [z0 3 (by omega)] at hfc; omega, fun p hp => (zp p hp).1, fun f hf hfc => by rw [z0 3 (by omega)] at hfc; omega⟩, ⟨fun l hl => by rw [zl l hl, zl l hl, zl l hl]; omega, fun f hf hfc => by rw [z0 3 (by omega)] at hfc; omega, h1, fun r hr _ => zT r hr⟩, fun l hl hl2 => by rw [z0 2 (by omega)] at hl2; omega, fun l hl hl2 => absurd (zl l hl 5) hl2, fun l hl => by rw [zl l hl, zl l hl]; omega, by rw [z0 2 (by omega)]; omega, fun p hp => ?_, fun r hr hrc => ?_, fun r hr hrc => ?_, ⟨⟨by rw [z4]; omega, fun i hi => by rw [z4] at hi; omega⟩, ⟨by rw [z8]; omega, fun i hi => by rw [z8] at hi; omega⟩, fun i hi => by rw [z8] at hi; omega⟩, fun l hl _ => ⟨zl l hl 5, zi _ (by unfold ni_ln0; omega), zi _ (by unfold ni_ln0; omega)⟩⟩
  · unfold ni_LL
    rw [zi p hp]
    exact ⟨by omega, fun j hj => by omega⟩
  · obtain ⟨s1, s2, s3⟩ := hS r hr
    have ea : ∀ o, A (286 + 11 * r + 4) o = ((288 + 11 * r : Nat) : Int) := fun o => by
      rw [h _ o (by omega), na_e (na_kr r hr).2.1]
      show cond (Nat.blt (286 + 11 * r + 4) 286) 0 ((1 + (286 + 11 * r + 4) - 3 : Nat) : Int) = _
      rw [na_nblt (by omega), cond_false]
      congr 1
      omega
    have hLW : ni_LW St (288 + 11 * r) := ⟨(r : Int), 0, 0, _, _, _, _, s1, by omega, by omega, by omega, s2, fun k hk => ⟨0, by rw [List.getElem?_replicate_of_lt hk]; rfl, by omega, by omega, fun z => by rw [Int.zero_ediv] at z; omega⟩, s3, by simp, fun i hi => by simp at hi⟩
    have hno := ni_lnoE s1 (by unfold ni_R32; omega) (by unfold ni_R32; omega)
    refine ⟨fun o ho => ?_, ?_⟩
    · rw [ea, Int.toNat_natCast]
      exact ⟨by omega, ⟨hLW, by rw [hno.1]; exact Int.le_refl _⟩, Or.inr hno.1⟩
    · rw [ea, Int.toNat_natCast, hno.1]
  · have e0 : ∀ j, A (286 + 11 * r) j = na_v 7 1 (286 + 11 * r) j := fun j => (h _ j (by omega)).trans (na_e (na_kr r hr).1)
    have x0 : A (286 + 11 * r) 0 = r := by
      rw [e0]
      show (((286 + 11 * r - 286) / 11 : Nat) : Int) = r
      congr 1
      omega
    refine ⟨x0, Or.inr ((e0 5).trans rfl), ⟨x0, fun o ho => ?_⟩, ⟨zT r hr, fun i hi => by rw [zt r hr] at hi; omega⟩⟩
    have y5 : A (286 + 11 * r + 5) o = if o = r then 0 else -1 := by
      rw [h _ o (by omega), na_row (na_kr r hr).2.2.1, if_neg (by omega), if_pos (by omega)]
      by_cases c : o = r
      · rw [if_pos (by omega), if_pos c]
      · rw [if_neg (by omega), if_neg c]
    have y6 : A (286 + 11 * r + 6) o = 0 := by
      rw [h _ o (by omega), na_row (na_kr r hr).2.2.2.1, if_neg (by omega), if_neg (by omega)]
    rw [y5, y6]
    refine ⟨fun c => ⟨if_pos c, rfl⟩, fun c => Or.inl ⟨if_neg c, rfl⟩⟩
theorem na_Fr0 (h : ∀ s j, ¬ (s = 0 ∧ j = 1) → A s j = na_A 1 s j) (h1 : 0 ≤ A 0 1) (h2 : A 0 2 = 0) (h3 : A 0 3 = 0) : na_Fr A := fun s j hd => by
  refine h s j ?_
  unfold nq_dead at hd
  omega
theorem na_H (hF : na_Fr A) : np_H A (na_A 1) := by
  refine ⟨fun r hr => ?_, fun s j hd => (hF s j hd).symm⟩
  rw [na_e (na_kr r hr).1]
  show (((286 + 11 * r - 286) / 11 : Nat) : Int) = r
  congr 1
  omega
/-- a new link: all but its ends, cost, rate and delay is as the constructor left it -/
theorem na_link {own : Nat → Int} {e a b c d x : Int} {l : Nat} (h : nq_Inv St own A e) (hF : na_Fr A) (hl : l < 14) (hlc : A 0 2 = l) (ha : 0 ≤ a ∧ a < A 0 1) (hb : 0 ≤ b ∧ b < A 0 1) (hd : 0 ≤ d ∧ d ≤ 1000) (hx : 1 ≤ x ∧ x ≤ 20) (hA : ∀ s j, ¬ (s = 0 ∧ j = 2) → ¬ (s = 48 + 17 * l ∧ j < 6) → A' s j = A s j) (h2 : A' 0 2 = (l : Int) + 1) (g0 : A' (48 + 17 * l) 0 = a) (g1 : A' (48 + 17 * l) 1 = b) (g3 : A' (48 + 17 * l) 3 = d) (g4 : A' (48 + 17 * l) 4 = x) (g5 : A' (48 + 17 * l) 5 = 1) : nq_Inv St own A' e ∧ na_Fr A' := by
  have hInv := h
  obtain ⟨hNI, hC, hLE, hLD, hLV, hlc', hLA, hRK, hRT, ⟨hPN, hPS, hSS⟩, hdead⟩ := h
  have e0 : ∀ j, j ≠ 2 → A' 0 j = A 0 j := fun j hj => hA 0 j (by omega) (by omega)
  have gl : ∀ i j : Nat, i < 14 → i ≠ l → A' (48 + 17 * i) j = A (48 + 17 * i) j := fun i j hi hn => hA _ _ (by omega) (by omega)
  have ep : ∀ s j, 48 ≤ s → s < 286 → (s - 48) % 17 ≠ 0 → A' s j = A s j := fun s j h1 h2 h3 => hA s j (by omega) (by omega)
  have eL : ∀ s j, ni_isL s j → A' s j = A s j := fun s j hs => hA s j (by unfold ni_isL at hs; omega) (by unfold ni_isL at hs; omega)
  have h8 := hC.2.2.1
  refine ⟨nq_InvL hInv (nq_NIg hNI (fun s hs => ?_) (fun j _ hj => e0 j hj) (fun s h1 h2 h3 j => ep s j h1 h2 h3) (fun p hp => ?_)) (fun f hf hfc => ?_) (fun i hi => ?_) (fun i hi hi2 => ?_) (fun i hi hi2 => ?_) (fun i hi => ?_) (by rw [h2]; omega) (fun i hi hi2 => ?_) (nq_LAf hLA eL) (fun s j hs => hA s j (by omega) (by omega)), fun s j hd' => ?_⟩
  · by_cases c : s = 0
    · exact Or.inr c
    · exact Or.inl (funext fun j => hA s j (by omega) (by omega))
  · have hp' := hp
    unfold ni_po at hp'
    have hli : ni_li p = 48 + 17 * ((p - 48) / 17) := rfl
    by_cases c : (p - 48) / 17 = l
    · refine (na_PI hp (fun k hk k2 k3 k7 j => ?_) (by rw [e0 0 (by omega)]; exact hNI.2.1) hNI.2.2.1).1
      rw [ep (p + k) j (by omega) (by omega) (by omega)]
      refine hF (p + k) j ?_
      unfold nq_dead
      omega
    · refine nq_PIg (fun y hy => ?_) (e0 0 (by omega)) (fun k hk j => ep (p + k) j (by omega) (by omega) (by omega)) (by rw [hli]; exact gl _ _ (by omega) c) (fun h5 => ?_) (hNI.2.2.2.2.1 p hp)
      · obtain ⟨x1, x2, x3⟩ := hy
        unfold ni_PK
        rw [e0 3 (by omega), e0 0 (by omega), hA (12 + 3 * (y % 16).toNat) 4 (by omega) (by have := hNI.1.2; omega), hA (12 + 3 * (y % 16).toNat) 5 (by omega) (by have := hNI.1.2; omega)]
        exact ⟨x1, x2, x3⟩
      · rw [hli, gl _ _ (by omega) c, ← hli] at h5
        exact (hNI.2.2.2.2.1 p hp).2.2.2.2.2.2.2.2.2.2.2 h5
  · rw [e0 3 (by omega)] at hfc
    have := hC.2.1 f hf hfc
    have g : ∀ j, A' (12 + 3 * f) j = A (12 + 3 * f) j := fun j => hA _ _ (by omega) (by omega)
    rw [g, g, g, g, g, g, g, g, e0 1 (by omega)]
    exact this
  · by_cases c : i = l
    · rw [c, g0, g1, g5]
      omega
    · rw [gl i 0 hi c, gl i 1 hi c, gl i 5 hi c]
      exact hC.1 i hi
  · rw [h2] at hi2
    rw [e0 1 (by omega)]
    by_cases c : i = l
    · rw [c, g0, g1]
      exact ⟨ha.2, hb.2⟩
    · rw [gl i 0 hi c, gl i 1 hi c]
      exact hLE i hi (by omega)
  · by_cases c : i = l
    · rw [c, g4]
      exact hx.1
    · rw [gl i 5 hi c] at hi2
      rw [gl i 4 hi c]
      exact hLD i hi hi2
  · by_cases c : i = l
    · rw [c, g3, g4]
      omega
    · rw [gl i 3 hi c, gl i 4 hi c]
      exact hLV i hi
  · rw [h2] at hi2
    have c : i ≠ l := by omega
    rw [gl i 5 hi c, eL (50 + 17 * i) 2 (by unfold ni_isL; omega), eL (58 + 17 * i) 2 (by unfold ni_isL; omega)]
    exact hdead i hi (by omega)
  · have hd2 := hd'
    unfold nq_dead at hd2
    rw [e0 1 (by omega), h2, e0 3 (by omega)] at hd2
    have := hNI.1
    rw [hA s j (by omega) (by omega)]
    refine hF s j ?_
    unfold nq_dead
    omega
/-- a new flow -/
theorem na_flwI {own : Nat → Int} {e r a b c : Int} {f : Nat} (h : nq_Inv St own A e) (hF : na_Fr A) (hf : f < 12) (hfc : A 0 3 = f) (hr : 0 ≤ r ∧ r < A 0 1) (hb : 20 ≤ b ∧ b ≤ 500) (hc : 0 ≤ c ∧ c ≤ 3) (hA : A' = ni_u2 (ni_u2 (ni_u2 (ni_u2 (ni_u2 A (12 + 3 * f) 0 r) (12 + 3 * f) 1 a) (12 + 3 * f) 2 b) (12 + 3 * f) 3 c) 0 3 ((f : Int) + 1)) : nq_Inv St own A' e ∧ na_Fr A' ∧ A' (12 + 3 * f) 4 = -1 := by
  have hInv := h
  obtain ⟨hNI, hC, hLE, hLD, hLV, hlc', hLA, hRK, hRT, ⟨hPN, hPS, hSS⟩, hdead⟩ := h
  have u : ∀ s j, ¬ (s = 0 ∧ j = 3) → ¬ (s = 12 + 3 * f ∧ j < 4) → A' s j = A s j := fun s j g1 g2 => by rw [hA, ni_u2n (by omega), ni_u2n (by omega), ni_u2n (by omega), ni_u2n (by omega), ni_u2n (by omega)]
  have u3 : A' 0 3 = (f : Int) + 1 := by rw [hA]; exact ni_u2e
  have f0 : A' (12 + 3 * f) 0 = r := by rw [hA, ni_u2n (by omega), ni_u2n (by omega), ni_u2n (by omega), ni_u2n (by omega)]; exact ni_u2e
  have f2 : A' (12 + 3 * f) 2 = b := by rw [hA, ni_u2n (by omega), ni_u2n (by omega)]; exact ni_u2e
  have f3 : A' (12 + 3 * f) 3 = c := by rw [hA, ni_u2n (by omega)]; exact ni_u2e
  have kf := na_kf f hf
  have dd : ∀ k, k < 3 → nq_dead A (12 + 3 * f + k) := fun k hk => by
    unfold nq_dead
    omega
  have v : ∀ j, 4 ≤ j → A' (12 + 3 * f) j = na_v 0 1 (12 + 3 * f) j := fun j hj => by
    rw [u _ _ (by omega) (by omega), hF (12 + 3 * f) j (dd 0 (by omega)), na_e kf.1]
  have v1 : ∀ j, A' (12 + 3 * f + 1) j = 0 := fun j => by
    rw [u _ _ (by omega) (by omega), hF _ j (dd 1 (by omega)), na_row kf.2.1, if_pos (by omega), if_pos (by omega)]
  have v2 : ∀ j, A' (12 + 3 * f + 2) j = 0 := fun j => by
    rw [u _ _ (by omega) (by omega), hF _ j (dd 2 (by omega)), na_row kf.2.2, if_pos (by omega), if_pos (by omega)]
  have x4 : A' (12 + 3 * f) 4 = -1 := (v 4 (by omega)).trans rfl
  have x5 : A' (12 + 3 * f) 5 = 0 := (v 5 (by omega)).trans rfl
  have x6 : A' (12 + 3 * f) 6 = 0 := (v 6 (by omega)).trans rfl
  have x7 : A' (12 + 3 * f) 7 = 0 := (v 7 (by omega)).trans rfl
  have x8 : A' (12 + 3 * f) 8 = 0 := (v 8 (by omega)).trans rfl
  have x9 : A' (12 + 3 * f) 9 = 0 := (v 9 (by omega)).trans rfl
  have x11 : A' (12 + 3 * f) 11 = 0 := (v 11 (by omega)).trans rfl
  have x12 : A' (12 + 3 * f) 12 = 0 := (v 12 (by omega)).trans rfl
  have x13 : A' (12 + 3 * f) 13 = 0 := (v 13 (by omega)).trans rfl
  have x15 : A' (12 + 3 * f) 15 = 0 := (v 15 (by omega)).trans rfl
  have x16 : A' (12 + 3 * f) 16 = -1 := (v 16 (by omega)).trans rfl
  have x17 : A' (12 + 3 * f) 17 = -1 := (v 17 (by omega)).trans rfl
  have x18 : A' (12 + 3 * f) 18 = 0 := (v 18 (by omega)).trans rfl
  obtain ⟨n3, n0, ne, nF, nP, nB⟩ := hNI
  have hPK : ∀ x, ni_PK A x → ni_PK A' x := fun x hx => by
    obtain ⟨x1, x2, x3⟩ := hx
    unfold ni_PK
    rw [u3, u 0 0 (by omega) (by omega), u (12 + 3 * (x % 16).toNat) 4 (by omega) (by omega), u (12 + 3 * (x % 16).toNat) 5 (by omega) (by omega)]
    exact ⟨x1, by omega, x3⟩
  have hP' : ∀ p, ni_po p → nq_PI A' p 0 e := fun p hp => by
    have hp' := hp
    unfold ni_po at hp'
    have hli : ni_li p = 48 + 17 * ((p - 48) / 17) := rfl
    exact nq_PIg hPK (u 0 0 (by omega) (by omega)) (fun k hk j => u (p + k) j (by omega) (by omega)) (u (ni_li p) 4 (by omega) (by omega)) (fun h5 => (nP p hp).2.2.2.2.2.2.2.2.2.2.2 (by rw [← u (ni_li p) 5 (by omega) (by omega)]; exact h5)) (nP p hp)
  have zero : ∀ g n, (∀ i : Nat, i < n → g i = -1 ∨ ni_PK A (g i)) → ni_sw (ni_is f) g n = 0 := by
    intro g n
    induction n with
    | zero => intro _; rfl
    | succ n ih =>
      intro hh
      show ni_sw (ni_is f) g n + ni_is f (g n) = 0
      rw [ih (fun i hi => hh i (by omega))]
      rcases hh n (by omega) with z | z
      · rw [z, ni_isN hf]
        rfl
      · have := z.2.1
        unfold ni_is
        rw [if_neg (by omega)]
        rfl
  have hW : ∀ p, ni_po p → nq_W A' p f = 0 := fun p hp => by
    have hp' := hp
    unfold ni_po at hp'
    obtain ⟨z1, z2, z3, z4, z5, z6, z7, z8, z9, z10, z11, z12⟩ := nP p hp
    have ew : nq_W A' p f = nq_W A p f := ni_WC (u p 10 (by omega) (by omega)) (fun j => u (p + 7) j (by omega) (by omega)) (u p 12 (by omega) (by omega)) (fun j => u (p + 4) j (by omega) (by omega))
    rw [ew]
    unfold nq_W
    rw [zero _ _ (fun i hi => Or.inr (z7 i (by omega))), zero _ 21 (fun i hi => (z10 i hi).imp id (fun z => z.1))]
    have : ni_is f (A p 12) = 0 := by
      rcases z9 with z | z
      · rw [z.1, ni_isN hf]
      · have := z.1.2.1
        unfold ni_is
        rw [if_neg (by omega)]
    rw [this]
    rfl
  have hIn : ∀ n : Nat, n ≤ 14 → ni_In A' f n = 0 := by
    intro n
    induction n with
    | zero => intro _; rfl
    | succ n ih =>
      intro hn
      show ni_In A' f n + nq_W A' (49 + 17 * n) f + nq_W A' (57 + 17 * n) f = 0
      rw [ih (by omega), hW _ (by unfold ni_po; omega), hW _ (by unfold ni_po; omega)]
      rfl
  refine ⟨nq_InvL hInv ⟨by rw [u3]; omega, by rw [u 0 0 (by omega) (by omega)]; exact n0, ne, fun g hg hgc => ?_, hP', fun g hg hgc => ?_⟩ (fun g hg hgc => ?_) (ni_LBf hC.1 (fun l j hl => u _ _ (by omega) (by omega))) (fun i hi hi2 => ?_) (fun i hi hi2 => ?_) (ni_LVf hLV (fun l j hl => u _ _ (by omega) (by omega))) (by rw [u 0 2 (by omega) (by omega)]; exact hlc') (fun i hi hi2 => ?_) (nq_LAf hLA (fun s j hs => u s j (by unfold ni_isL at hs; omega) (by unfold ni_isL at hs; omega))) (fun s j hs => u s j (by omega) (by omega)), fun s j hd => ?_, x4⟩
  · rw [u3] at hgc
    by_cases cg : g = f
    · subst cg
      refine ⟨by rw [x9]; omega, by rw [x11]; omega, fun j hj => by rw [x11] at hj; omega, by rw [x12]; omega, by rw [x13]; omega, fun k hk => by rw [v2]; omega, Or.inl ⟨x13, x15, x16, x17, x18⟩⟩
    · obtain ⟨a1, a2, a3, a4, a5, a6, a7⟩ := nF g hg (by omega)
      have gf : ∀ j, A' (12 + 3 * g) j = A (12 + 3 * g) j := fun j => u _ _ (by omega) (by omega)
      have gf1 : ∀ j, A' (12 + 3 * g + 1) j = A (12 + 3 * g + 1) j := fun j => u _ _ (by omega) (by omega)
      have gf2 : ∀ j, A' (12 + 3 * g + 2) j = A (12 + 3 * g + 2) j := fun j => u _ _ (by omega) (by omega)
      unfold nq_FI nq_FS
      simp only [gf, gf1, gf2, u 0 0 (by omega) (by omega)]
      exact ⟨a1, a2, fun j hj => ⟨hPK _ (a3 j hj).1, (a3 j hj).2⟩, a4, a5, a6, a7⟩
  · rw [u3] at hgc
    by_cases cg : g = f
    · subst cg
      unfold nq_dr
      rw [x12, x13, x11, v2, v2, v2, v2, v2, v2, v2, hIn 14 (Nat.le_refl _)]
      rfl
    · have h1 := nB g hg (by omega)
      have h4 : ni_In A' g 14 = ni_In A g 14 := ni_InC 14 (fun l hl => ⟨ni_WC (u _ _ (by omega) (by omega)) (fun j => u _ _ (by omega) (by omega)) (u _ _ (by omega) (by omega)) (fun j => u _ _ (by omega) (by omega)), ni_WC (u _ _ (by omega) (by omega)) (fun j => u _ _ (by omega) (by omega)) (u _ _ (by omega) (by omega)) (fun j => u _ _ (by omega) (by omega))⟩)
      unfold nq_dr at h1 ⊢
      rw [h4, u (12 + 3 * g) 12 (by omega) (by omega), u (12 + 3 * g) 13 (by omega) (by omega), u (12 + 3 * g) 11 (by omega) (by omega), u (12 + 3 * g + 2) 0 (by omega) (by omega), u (12 + 3 * g + 2) 1 (by omega) (by omega), u (12 + 3 * g + 2) 2 (by omega) (by omega), u (12 + 3 * g + 2) 3 (by omega) (by omega), u (12 + 3 * g + 2) 4 (by omega) (by omega), u (12 + 3 * g + 2) 5 (by omega) (by omega), u (12 + 3 * g + 2) 6 (by omega) (by omega)]
      exact h1
  · rw [u3] at hgc
    rw [u 0 1 (by omega) (by omega)]
    by_cases cg : g = f
    · subst cg
      rw [f0, f2, f3, x4, x5, x6, x7, x8]
      omega
    · have := hC.2.1 g hg (by omega)
      have gf : ∀ j, A' (12 + 3 * g) j = A (12 + 3 * g) j := fun j => u _ _ (by omega) (by omega)
      rw [gf, gf, gf, gf, gf, gf, gf, gf]
      exact this
  · rw [u 0 2 (by omega) (by omega)] at hi2
    rw [u (48 + 17 * i) 0 (by omega) (by omega), u (48 + 17 * i) 1 (by omega) (by omega), u 0 1 (by omega) (by omega)]
    exact hLE i hi hi2
  · rw [u _ _ (by omega) (by omega)] at hi2
    rw [u _ _ (by omega) (by omega)]
    exact hLD i hi hi2
  · rw [u 0 2 (by omega) (by omega)] at hi2
    rw [u (48 + 17 * i) 5 (by omega) (by omega), u (50 + 17 * i) 2 (by omega) (by omega), u (58 + 17 * i) 2 (by omega) (by omega)]
    exact hdead i hi hi2
  · have hd2 := hd
    unfold nq_dead at hd2
    rw [u 0 1 (by omega) (by omega), u 0 2 (by omega) (by omega), u3] at hd2
    rw [u s j (by omega) (by omega)]
    refine hF s j ?_
    unfold nq_dead
    omega
end NFR
