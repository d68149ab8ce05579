/-! LETTERS THAT CAME ARE TAKEN AWAY -/
section MRM
variable {xs : List Int32} {St : Nat → Option ni_C} {A : Nat → Nat → Int}
/-- both rows of a line moved on by d, as far as i -/
def ni_mv (A : Nat → Nat → Int) (l d i : Nat) : Nat → Nat → Int := fun s j => if (s = l + 1 ∨ s = l + 2) ∧ j + d < i then A s (j + d) else A s j
theorem ni_mvN {l d i s j : Nat} (h : (s ≠ l + 1 ∧ s ≠ l + 2) ∨ i ≤ j + d) : ni_mv A l d i s j = A s j := by
  unfold ni_mv
  rw [if_neg (by omega)]
theorem ni_mvS {l d i J : Nat} {x1 x2 : Int} (hd : d ≤ i) (hJ : J = i - d) (h1 : x1 = A (l + 1) i) (h2 : x2 = A (l + 2) i) : ni_u2 (ni_u2 (ni_mv A l d i) (l + 1) J x1) (l + 2) J x2 = ni_mv A l d (i + 1) := by
  subst hJ h1 h2
  funext s j
  by_cases e2 : s = l + 2 ∧ j = i - d
  · rw [e2.1, e2.2, ni_u2e]
    unfold ni_mv
    rw [if_pos ⟨Or.inr rfl, by omega⟩, show i - d + d = i by omega]
  · rw [ni_u2n (by omega)]
    by_cases e1 : s = l + 1 ∧ j = i - d
    · rw [e1.1, e1.2, ni_u2e]
      unfold ni_mv
      rw [if_pos ⟨Or.inl rfl, by omega⟩, show i - d + d = i by omega]
    · rw [ni_u2n (by omega)]
      unfold ni_mv
      by_cases g : (s = l + 1 ∨ s = l + 2) ∧ j + d < i
      · rw [if_pos g, if_pos ⟨g.1, by omega⟩]
      · rw [if_neg g, if_neg (by omega)]
theorem mt_remL {l n d : Nat} (hs : ni_us l = true) (hk : ni_kd l = 2) (hn : A l 2 = n) (hn1 : n ≤ 2048) (hL : ∀ i : Nat, i < n → 0 ≤ A (l + 1) i ∧ ∃ c, St (A (l + 1) i).toNat = some c ∧ c.1 = 1) : ∀ k i : Nat, i + k = n → d ≤ i → ni_Dr xs St 0 67 2 (fun ad => [.ref (ad l), ni_z (d : Int), ni_z (i : Int)]) (ni_mv A l d i) (fun _ => none) (ni_u2 (ni_mv A l d n) l 2 (A l 2 - d)) := by
  have h374 := (ni_usT hs).1
  intro k
  induction k with
  | zero =>
    intro i hi hdi
    have hin : i = n := by omega
    subst hin
    have e2 : (ni_mv A l d i) l 2 = A l 2 := ni_mvN (Or.inl ⟨by omega, by omega⟩)
    intro M0 ad rw cp hR
    have h0 : ni_Sx St M0 ad rw cp M0 rw cp (ni_mv A l d i) (ni_live (ni_mv A l d i)) := ⟨hR, ni_KpR⟩
    have c0 := ni_clR (ni_mv A l d i)
    refine wp_Ld rfl rfl rfl ?_
    refine wp_Ld rfl rfl rfl ?_
    refine ws_Get (v := ni_z ((ni_mv A l d i) (l) 2)) rfl h0 hs hk rfl rfl rfl ?_
    refine wp_Ic true rfl (zc_ge_t ⟨by omega, by omega⟩ ⟨by omega, by omega⟩ (by omega)) ?_
    refine wp_Ld rfl rfl rfl ?_
    refine wp_P (g := ni_gDup 46) rfl rfl ?_
    refine ws_Get (v := ni_z ((ni_mv A l d i) (l) 2)) rfl h0 hs hk rfl rfl rfl ?_
    refine wp_Ld rfl rfl rfl ?_
    refine wp_P rfl wp_sub ?_
    refine ws_Put rfl h0 hs hk rfl rfl (fun _ => rfl) rfl (fun _ _ => (by have := h0.1.2.2.2.1 l (ni_lnsC hs hk); omega)) ?_
    intro M1 h1
    have c1 := ni_clC (j := 2) (x := ((ni_mv A l d i) (l) 2) - ((d : Int))) c0 hs (by omega) (fun s' hs' e' => by rw [ni_liveC e' (by omega)]; omega)
    clear h0 c0
    rw [e2] at h1 c1
    exact ws_Rv (v := fun _ => none) rfl rfl h1 c1 rfl
  | succ k ih =>
    intro i hi hdi
    have e2 : (ni_mv A l d i) l 2 = A l 2 := ni_mvN (Or.inl ⟨by omega, by omega⟩)
    have e7 : (ni_mv A l d i) (l + 1) i = A (l + 1) i := ni_mvN (Or.inr (by omega))
    have e8 : (ni_mv A l d i) (l + 2) i = A (l + 2) i := ni_mvN (Or.inr (by omega))
    obtain ⟨hc0, c, hc1, hc2⟩ := hL i (by omega)
    rw [← e7] at hc1
    intro M0 ad rw cp hR
    have h0 : ni_Sx St M0 ad rw cp M0 rw cp (ni_mv A l d i) (ni_live (ni_mv A l d i)) := ⟨hR, ni_KpR⟩
    have c0 := ni_clR (ni_mv A l d i)
    have q0 : ∀ j : Nat, (j : Int) < (ni_mv A l d i) l 2 → j < cp (l + 1) ∧ j < cp (l + 2) ∧ j < 1000000 := fun j hj => ni_cpJ h0 hs hk hj
    refine wp_Ld rfl rfl rfl ?_
    refine wp_Ld rfl rfl rfl ?_
    refine ws_Get (v := ni_z ((ni_mv A l d i) (l) 2)) rfl h0 hs hk rfl rfl rfl ?_
    refine wp_Ic false rfl (zc_ge_f ⟨by omega, by omega⟩ ⟨by omega, by omega⟩ (by omega)) ?_
    refine wp_Ld rfl rfl rfl ?_
    refine ws_Get (v := .ref (rw (l + 1))) rfl h0 hs hk rfl rfl rfl ?_
    refine wp_Ld rfl rfl rfl ?_
    refine wp_Ld rfl rfl rfl ?_
    refine wp_P rfl wp_sub ?_
    refine wp_Ld rfl rfl rfl ?_
    refine ws_Get (v := .ref (rw (l + 1))) rfl h0 hs hk rfl rfl rfl ?_
    refine wp_Ld rfl rfl rfl ?_
    refine ws_QldR (j := i) (v := .ref ((ni_mv A l d i) (l + 1) (i)).toNat) rfl h0 (ni_o2_1 hs hk).1 (ni_o2_1 hs hk).2.1 (ni_lrO (ni_o2_1 hs hk).2.2.1) ⟨by decide, rfl⟩ rfl (q0 (i) (by omega)).1 (q0 (i) (by omega)).2.2 (ni_LQ (ni_o2_1 hs hk).2.2.2 (by omega) (by omega)) rfl rfl ?_
    refine ws_Qst (j := (((i : Int)) - ((d : Int))).toNat) (b := ((ni_mv A l d i) (l + 1) (i)).toNat) rfl h0 (ni_o2_1 hs hk).1 (ni_o2_1 hs hk).2.1 (ni_plR (ni_lrO (ni_o2_1 hs hk).2.2.1)) (by omega) (q0 ((((i : Int)) - ((d : Int))).toNat) (by omega)).1 (q0 ((((i : Int)) - ((d : Int))).toNat) (by omega)).2.2 hc1 hc2 (Or.inl rfl) ?_
    intro M1 h1
    have c1 := ni_clU (j := (((i : Int)) - ((d : Int))).toNat) (x := ((((ni_mv A l d i) (l + 1) (i)).toNat : Nat) : Int)) c0 (ni_o2_1 hs hk).1 (ni_o2_1 hs hk).2.1 rfl
    clear h0 c0
    refine wp_Ld rfl rfl rfl ?_
    refine ws_Get (v := .ref (rw (l + 2))) rfl h1 hs hk rfl rfl rfl ?_
    refine wp_Ld rfl rfl rfl ?_
    refine wp_Ld rfl rfl rfl ?_
    refine wp_P rfl wp_sub ?_
    refine wp_Ld rfl rfl rfl ?_
    refine ws_Get (v := .ref (rw (l + 2))) rfl h1 hs hk rfl rfl rfl ?_
    refine wp_Ld rfl rfl rfl ?_
    refine ws_AldR (j := i) (v := ni_z ((ni_mv A l d i) (l + 2) (i))) rfl h1 (ni_o2_2 hs hk).1 (ni_o2_2 hs hk).2.1 (ni_lrO (ni_o2_2 hs hk).2.2.1) ⟨by decide, rfl⟩ rfl (q0 (i) (by omega)).2.1 (q0 (i) (by omega)).2.2 (ni_LQ (ni_o2_2 hs hk).2.2.2 (by omega) (by omega)) (congrArg ni_z (ni_u2n (Or.inl (by omega)))) rfl ?_
    refine ws_AstR (t := 100) (j := (((i : Int)) - ((d : Int))).toNat) (x := (ni_mv A l d i) (l + 2) (i)) rfl h1 (ni_o2_2 hs hk).1 (ni_o2_2 hs hk).2.1 (ni_lrO (ni_o2_2 hs hk).2.2.1) (by omega) (q0 ((((i : Int)) - ((d : Int))).toNat) (by omega)).2.1 (q0 ((((i : Int)) - ((d : Int))).toNat) (by omega)).2.2 (Or.inl rfl) ?_
    intro M2 h2
    have c2 := ni_clU (j := (((i : Int)) - ((d : Int))).toNat) (x := (ni_mv A l d i) (l + 2) (i)) c1 (ni_o2_2 hs hk).1 (ni_o2_2 hs hk).2.1 rfl
    clear h1 c1
    refine wp_Inc (ls' := [.ref (ad (l)), ni_z ((d : Int)), ni_z ((i : Int) + 1)]) (x' := (i : Int) + 1) rfl rfl (zi_inc (z := 1) rfl) rfl ?_
    refine wp_P (g := ni_gGo 2) rfl rfl ?_
    rw [ni_mvS hdi (by omega) (by rw [e7]; omega) e8] at h2 c2
    exact ws_Dg h2 c2 (ih (i + 1) (by omega) (by omega)) rfl
theorem ni_mv0 {l d : Nat} : ni_mv A l d d = A := by
  funext s j
  exact ni_mvN (Or.inr (by omega))
theorem mt_rem {l d : Nat} (hs : ni_us l = true) (hk : ni_kd l = 2) (hn1 : A l 2 ≤ 2048) (hd : (d : Int) ≤ A l 2) (hL : ∀ i : Nat, (i : Int) < A l 2 → 0 ≤ A (l + 1) i ∧ ∃ c, St (A (l + 1) i).toNat = some c ∧ c.1 = 1) : ni_Dc xs St 1 67 (fun ad => [.ref (ad l), ni_z (d : Int)]) A (fun _ => none) (ni_u2 (ni_mv A l d (A l 2).toNat) l 2 (A l 2 - d)) := by
  have g := mt_remL (xs := xs) (St := St) (d := d) hs hk (n := (A l 2).toNat) (by omega) (by omega) (fun i hi => hL i (by omega)) ((A l 2).toNat - d) d (by omega) (Nat.le_refl _)
  rw [ni_mv0] at g
  refine ni_Dw (fun _ => Nat.le_of_ble_eq_true rfl) (fun _ => rfl) ?_
  intro M0 ad rw cp hR
  have h0 : ni_Sx St M0 ad rw cp M0 rw cp A (ni_live A) := ⟨hR, ni_KpR⟩
  have c0 := ni_clR A
  refine wp_Ld rfl rfl rfl ?_
  refine wp_St (ls' := [.ref (ad (l)), ni_z ((d : Int)), ni_z ((d : Int))]) rfl rfl rfl ?_
  exact ws_Dg h0 c0 g rfl
end MRM
