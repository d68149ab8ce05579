/-! A PORT IN A TICK -/
section NPO
variable {xs : List Int32} {St : Nat → Option ni_C} {A A' : Nat → Nat → Int}
theorem nq_poS {p : Nat} (hp : ni_po p) : ni_us p = true ∧ ni_kd p = 5 ∧ ni_us (p + 1) = true ∧ ni_kd (p + 1) = 2 := by
  have h := List.all_eq_true.mp (show ((List.range 286).all fun p => !(Nat.ble 49 p && (Nat.beq ((p - 49) % 17) 0 || Nat.beq ((p - 49) % 17) 8)) || (ni_us p && Nat.beq (ni_kd p) 5 && ni_us (p + 1) && Nat.beq (ni_kd (p + 1)) 2)) = true by decide +kernel) p (List.mem_range.mpr hp.2.1)
  have e1 : Nat.ble 49 p = true := Nat.ble_eq_true_of_le hp.1
  have e2 : (Nat.beq ((p - 49) % 17) 0 || Nat.beq ((p - 49) % 17) 8) = true := by
    rw [Bool.or_eq_true, Nat.beq_eq, Nat.beq_eq]
    exact hp.2.2
  rw [e1, e2, Bool.and_self, Bool.not_true, Bool.false_or] at h
  simp only [Bool.and_eq_true, Nat.beq_eq] at h
  exact ⟨h.1.1.1, h.1.1.2, h.1.2, h.2⟩
theorem nq_PIlo {p : Nat} {lo lo' e : Int} (h : nq_PI A p lo e) (hw : ∀ j : Nat, j < 21 → A (p + 4) j ≠ -1 → min lo' 1 ≤ ((j : Int) - A 0 0) % 21 ∧ ((j : Int) - A 0 0) % 21 < A (ni_li p) 4 + (lo' - min lo' 1)) : nq_PI A p lo' e := by
  obtain ⟨a1, a2, a3, a4, a5, a6, a7, a8, a9, a10, a11, a12⟩ := h
  refine ⟨a1, a2, a3, a4, a5, a6, a7, a8, a9, fun j hj => ?_, a11, a12⟩
  by_cases e : A (p + 4) j = -1
  · exact Or.inl e
  · exact Or.inr ⟨((a10 j hj).resolve_left e).1, hw j hj e⟩
theorem nq_NIlo {e : Int} {lo lo' dl : Nat → Int} (h : nq_NI A e lo dl) (hw : ∀ p, ni_po p → nq_PI A p (lo' p) e) : nq_NI A e lo' dl := by
  obtain ⟨h3, h0, he0, hF, hP, hB⟩ := h
  exact ⟨h3, h0, he0, hF, hw, hB⟩
/-- a port takes what comes -/
theorem mt_takeM {e : Int} {lo lo' dl : Nat → Int} {p : Nat} (hNI : nq_NI A e lo dl) (hp : ni_po p) (hlo : lo p = 0) (hlo' : ∀ q, lo' q = if q = p then 1 else lo q) : ∃ (v : Int) (A2 : Nat → Nat → Int), ni_Dc xs St 2 68 (fun ad => [.ref (ad (p + 1)), ni_z (A 0 0)]) A (fun _ => some (ni_z v)) A2 ∧ (v = -1 ∨ ni_PK A2 v) ∧ ni_cs0 A A2 ∧ nq_frP A A2 ∧ nq_NI A2 e lo' (fun f => dl f + ni_is f v) := by
  have ht := hNI.2.1
  obtain ⟨q1, q2, q3, q4⟩ := nq_poS hp
  have hPI := hNI.2.2.2.2.1 p hp
  have hPI' := hPI
  obtain ⟨a1, a2, a3, a4, a5, a6, a7, a8, a9, a10, a11, a12⟩ := hPI
  rw [hlo] at a10
  by_cases hx : A (p + 1 + 3) (A 0 0 % 21).toNat = -1
  · refine ⟨-1, A, ?_, Or.inl rfl, nq_csR, nq_frPr, ?_⟩
    · have g := mt_take0 (xs := xs) (St := St) (A := A) (l := p + 1) (t := A 0 0) (by omega) hx q3 q4
      rw [hx] at g
      exact g
    · refine nq_NIlo (nq_NIm hNI (Int.le_refl _) (fun f hf => by rw [ni_isN hf]; omega)) (fun q hq => ?_)
      rw [hlo']
      by_cases eq : q = p
      · rw [if_pos eq, eq]
        refine nq_PIlo hPI' (fun j hj hj1 => ?_)
        have := ((a10 j hj).resolve_left hj1).2
        have ne : j ≠ (A 0 0 % 21).toNat := fun z => hj1 (by rw [z]; exact hx)
        omega
      · rw [if_neg eq]
        exact hNI.2.2.2.2.1 q hq
  · have hj0 : (A 0 0 % 21).toNat < 21 := by omega
    have hPK := ((a10 _ hj0).resolve_left hx).1
    have hup : A (ni_li p) 5 ≠ 0 := fun z => hx ((a12 z).2.2 _ hj0)
    have g := mt_take1 (xs := xs) (St := St) (A := A) (l := p + 1) (t := A 0 0) (by omega) hx (by have := hPK.1; exact ⟨by show -2147483648 ≤ A (p + 4) _; omega, by show A (p + 4) _ ≤ _; omega⟩) q3 q4
    generalize hA2 : ni_u2 (ni_u2 A (p + 1 + 3) (A 0 0 % 21).toNat (-1)) (p + 1) 4 (A (p + 1) 4 - 1) = A2 at g
    have gg : ∀ s j, ¬ (s = p + 1 ∧ j = 4) → ¬ (s = p + 4 ∧ j = (A 0 0 % 21).toNat) → A2 s j = A s j := fun s j h1 h2 => by
      rw [← hA2, ni_u2n (by omega), ni_u2n (by omega)]
    have g4 : A2 (p + 4) (A 0 0 % 21).toNat = -1 := by
      rw [← hA2, ni_u2n (by omega)]
      exact ni_u2e
    have g14 : A2 (p + 1) 4 = A (p + 1) 4 - 1 := by rw [← hA2, ni_u2e]
    have hfr : ∀ s j, ¬ nq_mP p s j → A2 s j = A s j := fun s j hm => by
      unfold nq_mP at hm
      exact gg s j (by omega) (by omega)
    have hc := nq_csP hp hfr
    have hli : ∀ j, A2 (ni_li p) j = A (ni_li p) j := fun j => hc.2.2.2.2.2 ((p - 48) / 17) (by unfold ni_po at hp; omega) j
    have gp (k : Nat) (hk : 5 ≤ k) : A2 (p + k) = A (p + k) := funext fun j => gg _ _ (by omega) (by omega)
    have hsw : ∀ w : Int → Int, ni_sw w (A2 (p + 4)) 21 = ni_sw w (A (p + 4)) 21 - w (A (p + 4) (A 0 0 % 21).toNat) + w (-1) := fun w => by
      rw [ni_swS (i := (A 0 0 % 21).toNat) 21 hj0 (fun j hj hn => gg (p + 4) j (by omega) (by omega)), g4]
    refine ⟨_, A2, g, Or.inr (ni_PKc hPK hc hNI.1.2), hc, nq_frPp hp hup hfr, ?_⟩
    refine nq_portU (c := fun f => - ni_is f (A (p + 4) (A 0 0 % 21).toNat)) hNI hp hfr (Int.le_refl _) ?_ (fun q hq => by rw [hlo', if_neg hq]) (fun f hf => ?_) (fun f hf => by show dl f + ni_is f (A (p + 4) _) = _; omega)
    · rw [hlo', if_pos rfl]
      unfold nq_PI ni_PT
      rw [gp 5 (by omega), gp 6 (by omega), gp 7 (by omega), hli, hli, hc.1, g14, hsw, gg p 1 (by omega) (by omega), gg p 2 (by omega) (by omega), gg p 3 (by omega) (by omega), gg p 4 (by omega) (by omega), gg p 7 (by omega) (by omega), gg p 8 (by omega) (by omega), gg p 10 (by omega) (by omega), gg p 11 (by omega) (by omega), gg p 12 (by omega) (by omega), gg p 13 (by omega) (by omega)]
      refine ⟨a1, a2, a3, a4, a5, a6, fun j hj => ni_PKc (a7 j hj) hc hNI.1.2, a8, a9.imp id (fun z => ⟨ni_PKc z.1 hc hNI.1.2, z.2⟩), fun j hj => ?_, ?_, fun z => absurd z hup⟩
      · by_cases ej : j = (A 0 0 % 21).toNat
        · exact Or.inl (by rw [ej]; exact g4)
        · rw [gg (p + 4) j (by omega) (by omega)]
          refine (a10 j hj).imp id (fun z => ⟨ni_PKc z.1 hc hNI.1.2, ?_⟩)
          have := z.2
          omega
      · rw [a11]
        have e1 : ni_an (A (p + 4) (A 0 0 % 21).toNat) = 1 := by
          unfold ni_an
          rw [if_neg hx]
        rw [e1]
        show _ = ni_sw ni_an (A (p + 4)) 21 - 1 + 0
        omega
    · unfold nq_W
      rw [gg p 10 (by omega) (by omega), gg p 12 (by omega) (by omega), gp 7 (by omega), hsw, ni_isN hf]
      omega
/-- a port takes the next of those that wait -/
theorem nq_took {e : Int} {lo dl : Nat → Int} {p v : Nat} {A2 : Nat → Nat → Int} (hNI : nq_NI A e lo dl) (hp : ni_po p) (hf : ni_fT A A2 p) (hPT : ni_PT A2 p) (h12 : A p 12 = -1) (hv : (v : Int) < A p 10) (hup : A (ni_li p) 5 ≠ 0) : nq_NI (ni_took A2 p v) e lo dl ∧ ∀ s j, ¬ nq_mP p s j → ni_took A2 p v s j = A s j := by
  have hPI := hNI.2.2.2.2.1 p hp
  obtain ⟨a1, a2, a3, a4, a5, a6, a7, a8, a9, a10, a11, a12⟩ := hPI
  obtain ⟨t10, t7, t11, t1, t2, t12, t13⟩ := ni_fTq hf
  obtain ⟨n, hn⟩ : ∃ n : Nat, A p 10 = n + 1 := ⟨(A p 10 - 1).toNat, by omega⟩
  have hkv := a7 v hv
  have gg : ∀ s j, s ≠ p → s ≠ p + 6 → s ≠ p + 7 → ni_took A2 p v s j = A s j := fun s j h1 h2 h3 => by
    unfold ni_took
    rw [ni_u2n (by omega), ni_sfN (by omega), ni_u2n (by omega), ni_u2n (by omega), ni_u2n (by omega)]
    exact hf s j h2 (by omega)
  have g0 : ∀ j, j ≠ 7 → j ≠ 8 → j ≠ 10 → j ≠ 11 → j ≠ 12 → j ≠ 13 → ni_took A2 p v p j = A p j := fun j h1 h2 h3 h4 h5 h6 => by
    unfold ni_took
    rw [ni_u2n (by omega), ni_sfN (by omega), ni_u2n (by omega), ni_u2n (by omega), ni_u2n (by omega)]
    exact hf p j (by omega) (by omega)
  have g10 : ni_took A2 p v p 10 = A p 10 - 1 := by
    unfold ni_took
    rw [ni_u2e, t10]
  have g11 : ni_took A2 p v p 11 = A p 11 - ni_by (A (p + 7) v) := by
    unfold ni_took
    rw [ni_u2n (by omega), ni_sfN (by omega), ni_u2e, t11, t7]
    rfl
  have g12 : ni_took A2 p v p 12 = A (p + 7) v := by
    unfold ni_took
    rw [ni_u2n (by omega), ni_sfN (by omega), ni_u2n (by omega), ni_u2n (by omega), ni_u2e, t7]
  have g13 : ni_took A2 p v p 13 = A (p + 7) v / 4096 % 512 := by
    unfold ni_took
    rw [ni_u2n (by omega), ni_sfN (by omega), ni_u2n (by omega), ni_u2e, t7]
  have g7 : ∀ j, j < n → ni_took A2 p v (p + 7) j = if j < v then A (p + 7) j else A (p + 7) (j + 1) := fun j hj => by
    unfold ni_took
    rw [ni_u2n (by omega)]
    unfold ni_sf
    by_cases g : j < v
    · rw [if_pos g, if_neg (by omega), ni_u2n (by omega), ni_u2n (by omega), ni_u2n (by omega), t7]
    · rw [if_neg g, if_pos ⟨rfl, by omega, by rw [t10]; omega⟩, ni_u2n (by omega), ni_u2n (by omega), ni_u2n (by omega), t7]
  have gPT : ∀ s j, s = p + 5 ∨ s = p + 6 → ni_took A2 p v s j = A2 s j := fun s j h => by
    unfold ni_took
    rw [ni_u2n (by omega), ni_sfN (by omega), ni_u2n (by omega), ni_u2n (by omega), ni_u2n (by omega)]
  have g78 : ni_took A2 p v p 7 = A2 p 7 ∧ ni_took A2 p v p 8 = A2 p 8 := by
    unfold ni_took
    rw [ni_u2n (by omega), ni_sfN (by omega), ni_u2n (by omega), ni_u2n (by omega), ni_u2n (by omega), ni_u2n (by omega), ni_sfN (by omega), ni_u2n (by omega), ni_u2n (by omega), ni_u2n (by omega)]
    exact ⟨rfl, rfl⟩
  have hfr : ∀ s j, ¬ nq_mP p s j → ni_took A2 p v s j = A s j := fun s j hm => by
    unfold nq_mP at hm
    by_cases es : s = p
    · rw [es]
      exact g0 j (by omega) (by omega) (by omega) (by omega) (by omega) (by omega)
    · exact gg s j es (by omega) (by omega)
  have hc := nq_csP hp hfr
  have hli : ∀ j, ni_took A2 p v (ni_li p) j = A (ni_li p) j := fun j => hc.2.2.2.2.2 ((p - 48) / 17) (by unfold ni_po at hp; omega) j
  have e4 : ni_took A2 p v (p + 4) = A (p + 4) := funext fun j => gg _ _ (by omega) (by omega) (by omega)
  have hsw : ∀ w : Int → Int, ni_sw w (ni_took A2 p v (p + 7)) n = ni_sw w (A (p + 7)) (n + 1) - w (A (p + 7) v) := fun w => ni_swH n (by omega) g7
  have en : (A p 10 - 1).toNat = n := by omega
  have en1 : (A p 10).toNat = n + 1 := by omega
  refine ⟨nq_portU (c := fun _ => 0) hNI hp hfr (Int.le_refl _) ?_ (fun _ _ => rfl) (fun f hf => ?_) (fun f hf => by omega), hfr⟩
  · unfold nq_PI
    have hPT' : ni_PT (ni_took A2 p v) p := by
      unfold ni_PT at hPT ⊢
      rw [g78.1, g78.2]
      refine ⟨hPT.1, hPT.2.1, fun j hj => ?_⟩
      rw [gPT _ _ (Or.inl rfl), gPT _ _ (Or.inr rfl)]
      exact hPT.2.2 j hj
    rw [e4, hli, hli, hc.1, gg (p + 1) 4 (by omega) (by omega) (by omega), g0 1 (by omega) (by omega) (by omega) (by omega) (by omega) (by omega), g0 2 (by omega) (by omega) (by omega) (by omega) (by omega) (by omega), g0 3 (by omega) (by omega) (by omega) (by omega) (by omega) (by omega), g0 4 (by omega) (by omega) (by omega) (by omega) (by omega) (by omega), g10, g11, g12, g13, en, hsw]
    refine ⟨hPT', a2, a3, a4, a5, ⟨by omega, by omega⟩, fun j hj => ?_, by rw [a8, en1], Or.inr ⟨ni_PKc hkv hc hNI.1.2, by have := hkv.2.2.1; omega, by omega⟩, fun j hj => (a10 j hj).imp id (fun z => ⟨ni_PKc z.1 hc hNI.1.2, z.2⟩), a11, fun z => absurd z hup⟩
    rw [g7 j (by omega)]
    split
    · exact ni_PKc (a7 j (by omega)) hc hNI.1.2
    · exact ni_PKc (a7 (j + 1) (by omega)) hc hNI.1.2
  · unfold nq_W
    rw [g10, g12, e4, en, hsw, en1, h12, ni_isN hf]
    omega
theorem nq_fTN {e : Int} {lo dl : Nat → Int} {p : Nat} {A2 : Nat → Nat → Int} (hNI : nq_NI A e lo dl) (hp : ni_po p) (hf : ni_fT A A2 p) (hPT : ni_PT A2 p) : nq_NI A2 e lo dl ∧ ∀ s j, ¬ nq_mP p s j → A2 s j = A s j := by
  have hPI := hNI.2.2.2.2.1 p hp
  obtain ⟨a1, a2, a3, a4, a5, a6, a7, a8, a9, a10, a11, a12⟩ := hPI
  have hfr : ∀ s j, ¬ nq_mP p s j → A2 s j = A s j := fun s j hm => by
    unfold nq_mP at hm
    exact hf s j (by omega) (by omega)
  have hc := nq_csP hp hfr
  have hli : ∀ j, A2 (ni_li p) j = A (ni_li p) j := fun j => hc.2.2.2.2.2 ((p - 48) / 17) (by unfold ni_po at hp; omega) j
  have e4 : A2 (p + 4) = A (p + 4) := funext fun j => hf _ _ (by omega) (by omega)
  have e7 : A2 (p + 7) = A (p + 7) := funext fun j => hf _ _ (by omega) (by omega)
  have g0 : ∀ j, j ≠ 7 → j ≠ 8 → A2 p j = A p j := fun j h1 h2 => hf p j (by omega) (by omega)
  refine ⟨nq_portU (c := fun _ => 0) hNI hp hfr (Int.le_refl _) ?_ (fun _ _ => rfl) (fun f hf' => ?_) (fun f hf' => by omega), hfr⟩
  · unfold nq_PI
    rw [e4, e7, hli, hli, hc.1, hf (p + 1) 4 (by omega) (by omega), g0 1 (by omega) (by omega), g0 2 (by omega) (by omega), g0 3 (by omega) (by omega), g0 4 (by omega) (by omega), g0 10 (by omega) (by omega), g0 11 (by omega) (by omega), g0 12 (by omega) (by omega), g0 13 (by omega) (by omega)]
    exact ⟨hPT, a2, a3, a4, a5, a6, fun j hj => ni_PKc (a7 j hj) hc hNI.1.2, a8, a9.imp id (fun z => ⟨ni_PKc z.1 hc hNI.1.2, z.2⟩), fun j hj => (a10 j hj).imp id (fun z => ⟨ni_PKc z.1 hc hNI.1.2, z.2⟩), a11, a12⟩
  · rw [ni_WC (g0 10 (by omega) (by omega)) (fun j => hf _ _ (by omega) (by omega)) (g0 12 (by omega) (by omega)) (fun j => hf _ _ (by omega) (by omega))]
    omega
/-- a port sends -/
theorem nq_sends {e r : Int} {lo lo' dl : Nat → Int} {p : Nat} (hNI : nq_NI A e lo dl) (hp : ni_po p) (hlo : lo p = 1) (hlo' : ∀ q, lo' q = if q = p then 2 else lo q) (hr : 0 ≤ r) (hd : 0 ≤ A (ni_li p) 4 ∧ A (ni_li p) 4 ≤ 20) (hd1 : A (ni_li p) 5 ≠ 0 → 1 ≤ A (ni_li p) 4) : nq_NI (ni_sends A p r (A 0 0 + A (ni_li p) 4)) e lo' dl ∧ ni_cs0 A (ni_sends A p r (A 0 0 + A (ni_li p) 4)) ∧ nq_frP A (ni_sends A p r (A 0 0 + A (ni_li p) 4)) := by
  have ht := hNI.2.1
  have hPI := hNI.2.2.2.2.1 p hp
  have hPI' := hPI
  obtain ⟨a1, a2, a3, a4, a5, a6, a7, a8, a9, a10, a11, a12⟩ := hPI
  rw [hlo] at a10 hPI'
  have hw2 : nq_PI A p 2 e := nq_PIlo hPI' (fun j hj hj1 => by have := ((a10 j hj).resolve_left hj1).2; omega)
  have hNI2 : nq_NI A e lo' dl := nq_NIlo hNI (fun q hq => by
    rw [hlo']
    by_cases eq : q = p
    · rw [if_pos eq, eq]
      exact hw2
    · rw [if_neg eq]
      exact hNI.2.2.2.2.1 q hq)
  unfold ni_sends
  by_cases h12 : A p 12 = -1
  · rw [if_pos h12]
    exact ⟨hNI2, nq_csR, nq_frPr⟩
  · rw [if_neg h12]
    obtain ⟨b1, b2, b3⟩ := a9.resolve_left (fun z => h12 z.1)
    have hup : A (ni_li p) 5 ≠ 0 := fun z => h12 (a12 z).2.1
    have hd2 := hd1 hup
    by_cases h13 : A p 13 - min r (A p 13) = 0
    · rw [if_pos h13]
      generalize hj0 : ((A 0 0 + A (ni_li p) 4) % 21).toNat = j0
      have hj21 : j0 < 21 := by omega
      have hfree : A (p + 4) j0 = -1 := by
        rcases a10 j0 hj21 with z | z
        · exact z
        · exfalso
          have := z.2
          omega
      generalize hA2 : ni_u2 (ni_u2 (ni_u2 (ni_u2 A p 13 (A p 13 - min r (A p 13))) (p + 1 + 3) j0 (A p 12)) (p + 1) 4 (A (p + 1) 4 + 1)) p 12 (-1) = A2
      have gg : ∀ s j, ¬ (s = p ∧ (j = 12 ∨ j = 13)) → ¬ (s = p + 1 ∧ j = 4) → ¬ (s = p + 4 ∧ j = j0) → A2 s j = A s j := fun s j h1 h2 h3 => by
        rw [← hA2, ni_u2n (by omega), ni_u2n (by omega), ni_u2n (by omega), ni_u2n (by omega)]
      have g12 : A2 p 12 = -1 := by rw [← hA2, ni_u2e]
      have g13 : A2 p 13 = 0 := by rw [← hA2, ni_u2n (by omega), ni_u2n (by omega), ni_u2n (by omega), ni_u2e, h13]
      have g14 : A2 (p + 1) 4 = A (p + 1) 4 + 1 := by rw [← hA2, ni_u2n (by omega), ni_u2e]
      have g4 : A2 (p + 4) j0 = A p 12 := by
        rw [← hA2, ni_u2n (by omega), ni_u2n (by omega)]
        exact ni_u2e
      have hfr : ∀ s j, ¬ nq_mP p s j → A2 s j = A s j := fun s j hm => by
        unfold nq_mP at hm
        exact gg s j (by omega) (by omega) (by omega)
      have hc := nq_csP hp hfr
      have hli : ∀ j, A2 (ni_li p) j = A (ni_li p) j := fun j => hc.2.2.2.2.2 ((p - 48) / 17) (by unfold ni_po at hp; omega) j
      have gp (k : Nat) (hk : 5 ≤ k) : A2 (p + k) = A (p + k) := funext fun j => gg _ _ (by omega) (by omega) (by omega)
      have hsw : ∀ w : Int → Int, ni_sw w (A2 (p + 4)) 21 = ni_sw w (A (p + 4)) 21 - w (-1) + w (A p 12) := fun w => by
        rw [ni_swS (i := j0) 21 hj21 (fun j hj hn => gg (p + 4) j (by omega) (by omega) (by omega)), g4, hfree]
      refine ⟨nq_portU (c := fun _ => 0) hNI hp hfr (Int.le_refl _) ?_ (fun q hq => by rw [hlo', if_neg hq]) (fun f hf => ?_) (fun f hf => by omega), hc, nq_frPp hp hup hfr⟩
      · rw [hlo', if_pos rfl]
        unfold nq_PI ni_PT
        rw [gp 5 (by omega), gp 6 (by omega), gp 7 (by omega), hli, hli, hc.1, g14, g12, g13, hsw, gg p 1 (by omega) (by omega) (by omega), gg p 2 (by omega) (by omega) (by omega), gg p 3 (by omega) (by omega) (by omega), gg p 4 (by omega) (by omega) (by omega), gg p 7 (by omega) (by omega) (by omega), gg p 8 (by omega) (by omega) (by omega), gg p 10 (by omega) (by omega) (by omega), gg p 11 (by omega) (by omega) (by omega)]
        refine ⟨a1, a2, a3, a4, a5, a6, fun j hj => ni_PKc (a7 j hj) hc hNI.1.2, a8, Or.inl ⟨rfl, rfl⟩, fun j hj => ?_, ?_, fun z => absurd z hup⟩
        · by_cases ej : j = j0
          · rw [ej, g4]
            exact Or.inr ⟨ni_PKc b1 hc hNI.1.2, by omega, by omega⟩
          · rw [gg (p + 4) j (by omega) (by omega) (by omega)]
            refine (a10 j hj).imp id (fun z => ⟨ni_PKc z.1 hc hNI.1.2, ?_⟩)
            have := z.2
            omega
        · rw [a11]
          have e1 : ni_an (A p 12) = 1 := by
            unfold ni_an
            rw [if_neg h12]
          rw [e1]
          show _ = ni_sw ni_an (A (p + 4)) 21 - 0 + 1
          omega
      · unfold nq_W
        rw [gg p 10 (by omega) (by omega) (by omega), g12, gp 7 (by omega), hsw, ni_isN hf]
        omega
    · rw [if_neg h13]
      generalize hA2 : ni_u2 A p 13 (A p 13 - min r (A p 13)) = A2
      have gg : ∀ s j, ¬ (s = p ∧ j = 13) → A2 s j = A s j := fun s j h1 => by rw [← hA2, ni_u2n (by omega)]
      have g13 : A2 p 13 = A p 13 - min r (A p 13) := by rw [← hA2, ni_u2e]
      have hfr : ∀ s j, ¬ nq_mP p s j → A2 s j = A s j := fun s j hm => by
        unfold nq_mP at hm
        exact gg s j (by omega)
      have hc := nq_csP hp hfr
      have hli : ∀ j, A2 (ni_li p) j = A (ni_li p) j := fun j => hc.2.2.2.2.2 ((p - 48) / 17) (by unfold ni_po at hp; omega) j
      have gp (k : Nat) (hk : 1 ≤ k) : A2 (p + k) = A (p + k) := funext fun j => gg _ _ (by omega)
      refine ⟨nq_portU (c := fun _ => 0) hNI2 hp hfr (Int.le_refl _) ?_ (fun q hq => rfl) (fun f hf => ?_) (fun f hf => by omega), hc, nq_frPp hp hup hfr⟩
      · rw [hlo', if_pos rfl]
        obtain ⟨c1, c2, c3, c4, c5, c6, c7, c8, c9, c10, c11, c12⟩ := hw2
        unfold nq_PI ni_PT
        rw [gp 1 (by omega), gp 4 (by omega), gp 5 (by omega), gp 6 (by omega), gp 7 (by omega), hli, hli, hc.1, g13, gg p 1 (by omega), gg p 2 (by omega), gg p 3 (by omega), gg p 4 (by omega), gg p 7 (by omega), gg p 8 (by omega), gg p 10 (by omega), gg p 11 (by omega), gg p 12 (by omega)]
        exact ⟨c1, c2, c3, c4, c5, c6, fun j hj => ni_PKc (c7 j hj) hc hNI.1.2, c8, Or.inr ⟨ni_PKc b1 hc hNI.1.2, by omega, by omega⟩, fun j hj => (c10 j hj).imp id (fun z => ⟨ni_PKc z.1 hc hNI.1.2, z.2⟩), c11, fun z => absurd z hup⟩
      · rw [ni_WC (gg p 10 (by omega)) (fun j => gg _ _ (by omega)) (gg p 12 (by omega)) (fun j => gg _ _ (by omega))]
        omega
theorem mt_sendM {e r : Int} {lo lo' dl : Nat → Int} {p : Nat} (hNI : nq_NI A e lo dl) (hp : ni_po p) (hlo : lo p = 1) (hlo' : ∀ q, lo' q = if q = p then 2 else lo q) (hr : 0 ≤ r ∧ r ≤ 1000) (hd : 0 ≤ A (ni_li p) 4 ∧ A (ni_li p) 4 ≤ 20) (hd1 : A (ni_li p) 5 ≠ 0 → 1 ≤ A (ni_li p) 4) : ni_M xs St 6 117 [ni_aP p, ni_aI r, ni_aI (A 0 0 + A (ni_li p) 4)] A (nq_DP A e lo' dl) := by
  have ht := hNI.2.1
  obtain ⟨q1, q2, q3, q4⟩ := nq_poS hp
  have hPI := hNI.2.2.2.2.1 p hp
  obtain ⟨a1, a2, a3, a4, a5, a6, a7, a8, a9, a10, a11, a12⟩ := hPI
  have hq : ∀ i : Nat, (i : Int) < A p 10 → 0 ≤ A (p + 7) i ∧ A (p + 7) i ≤ 2147483647 := fun i hi => (a7 i hi).1
  by_cases h12 : A p 12 = -1
  · have h13 : A p 13 = 0 := by
      rcases a9 with z | z
      · exact z.2
      · have := z.1.1
        omega
    by_cases h10 : A p 10 = 0
    · obtain ⟨n1, n2, n3⟩ := nq_sends hNI hp hlo hlo' hr.1 hd hd1
      exact ⟨none, _, ⟨rfl, n2, n3, n1⟩, mt_send2 q1 q2 (by omega) (by omega) h12 h10 (by omega)⟩
    · have hup : A (ni_li p) 5 ≠ 0 := fun z => h10 (a12 z).1
      obtain ⟨A2, A3, hDc, hf, hPT, hA3⟩ := mt_takeNext (xs := xs) (St := St) q1 q2 a1 (by omega) hq a2
      have key : nq_NI A3 e lo dl ∧ ∀ s j, ¬ nq_mP p s j → A3 s j = A s j := by
        rcases hA3 with hA3 | ⟨v, hv, hA3⟩
        · rw [hA3]
          exact nq_fTN hNI hp hf hPT
        · rw [hA3]
          exact nq_took hNI hp hf hPT h12 hv hup
      obtain ⟨k1, k2⟩ := key
      have hc := nq_csP hp k2
      have hli : ∀ j, A3 (ni_li p) j = A (ni_li p) j := fun j => hc.2.2.2.2.2 ((p - 48) / 17) (by unfold ni_po at hp; omega) j
      obtain ⟨n1, n2, n3⟩ := nq_sends k1 hp hlo hlo' hr.1 (by rw [hli]; exact hd) (by rw [hli, hli]; exact hd1)
      have hP3 := k1.2.2.2.2.1 p hp
      obtain ⟨b1, b2, b3, b4, b5, b6, b7, b8, b9, b10, b11, b12⟩ := hP3
      rw [hli, hc.1] at n1 n2 n3
      refine ⟨none, _, ⟨rfl, nq_csT hc n2, nq_frPt (nq_frPp hp hup k2) hc n3, n1⟩, mt_send3 (A3 := A3) q1 q2 (by omega) (by omega) h12 (by omega) hDc ?_ ?_⟩
      · rcases b9 with z | z
        · omega
        · have := z.1.1
          omega
      · rcases b9 with z | z <;> omega
  · obtain ⟨b1, b2, b3⟩ := a9.resolve_left (fun z => h12 z.1)
    have := b1.1
    obtain ⟨n1, n2, n3⟩ := nq_sends hNI hp hlo hlo' hr.1 hd hd1
    exact ⟨none, _, ⟨rfl, n2, n3, n1⟩, mt_send1 q1 q2 (by omega) (by omega) (by omega) (by omega)⟩
end NPO
