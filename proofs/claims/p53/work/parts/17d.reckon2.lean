/-! A ROUTER RECKONS ITS WAYS, ITS TABLE -/
section NRL
variable {Z : (Nat → Nat) → Prop} {xs : List Int32} {St : Nat → Option ni_C} {A : Nat → Nat → Int}
/-- the ends of links -/
def ni_LB (A : Nat → Nat → Int) : Prop := ∀ l : Nat, l < 14 → (0 ≤ A (48 + 17 * l) 0 ∧ A (48 + 17 * l) 0 < 8) ∧ (0 ≤ A (48 + 17 * l) 1 ∧ A (48 + 17 * l) 1 < 8) ∧ (A (48 + 17 * l) 5 = 0 ∨ A (48 + 17 * l) 5 = 1)
/-- a router's letters -/
def ni_LK (St : Nat → Option ni_C) (A : Nat → Nat → Int) (s : Nat) : Prop := ∀ o : Nat, o < 8 → 0 ≤ A (s + 4) o ∧ ni_LW St (A (s + 4) o).toNat
theorem ni_rd0 {r o : Nat} {D : Int} {A : Nat → Nat → Int} {s : Nat} (h : ni_rd r o D (A (s + 5) o) (A (s + 6) o)) (hD : D ≤ 100000) : (-1 ≤ A (s + 5) o ∧ A (s + 5) o ≤ 100000 ∧ 0 ≤ A (s + 6) o ∧ A (s + 6) o < 16384) := by
  unfold ni_rd at h
  by_cases e : o = r
  · have := h.1 e
    omega
  · have := h.2 e
    omega
theorem mt_rw1 {s r : Nat} {P : Option ni_a → (Nat → Nat → Int) → Prop} (hs : ni_us s = true) (hk : ni_kd s = 7) (hr8 : r < 8) (hct : ni_ct (s + 4) = (998, r)) : ∀ k i : Nat, i + k = 8 → ∀ A : Nat → Nat → Int, i ≤ 8 → A s 0 = r → (∀ o : Nat, o < i → ni_rd r o 0 (A (s + 5) o) (A (s + 6) o)) → (∀ A2 : Nat → Nat → Int, A2 s 0 = r → (∀ o : Nat, o < 8 → ni_rd r o 0 (A2 (s + 5) o) (A2 (s + 6) o)) → ni_fr56 A A2 s → ni_E xs St Z 2 140 40 [ni_aP (s), ni_aP (2), ni_aI (((8 : Nat) : Int)), .inl ni_J, .inl ni_J, .inl ni_J] [] A2 (ni_live A2) P) → ni_E xs St Z 2 140 2 [ni_aP (s), ni_aP (2), ni_aI ((i : Int)), .inl ni_J, .inl ni_J, .inl ni_J] [] A (ni_live A) P := by
  have h374 := (ni_usT hs).1
  intro k
  induction k with
  | zero =>
    intro i hi A hi8 hnum hlo hK
    refine E_Ld (q := 3) rfl rfl (fun _ _ => rfl) ?_
    refine E_push (q := 5) (c := 8) (z := 8) rfl rfl ?_
    refine E_Ic true rfl (zc_ge_t ⟨by omega, by omega⟩ ⟨by omega, by omega⟩ (by omega)) ?_
    rw [show i = 8 by omega] at hlo ⊢
    exact hK _ hnum hlo ni_fr56r
  | succ k ih =>
    intro i hi A hi8 hnum hlo hK
    unfold ni_rd at ih hlo hK
    refine E_Ld (q := 3) rfl rfl (fun _ _ => rfl) ?_
    refine E_push (q := 5) (c := 8) (z := 8) rfl rfl ?_
    refine E_Ic false rfl (zc_ge_f ⟨by omega, by omega⟩ ⟨by omega, by omega⟩ (by omega)) ?_
    refine E_Ld (q := 9) rfl rfl (fun _ _ => rfl) ?_
    refine E_Get (q := 12) (v := ni_aP (s + 5)) rfl hs hk rfl rfl (fun _ _ => rfl) ?_
    refine E_Ld (q := 13) rfl rfl (fun _ _ => rfl) ?_
    refine E_Ld (q := 14) rfl rfl (fun _ _ => rfl) ?_
    refine E_Ld (q := 15) rfl rfl (fun _ _ => rfl) ?_
    refine E_GetI (q := 18) (e := A (s) 0) rfl hs hk rfl rfl (fun _ _ => rfl) ?_
    by_cases g18 : ¬ ((i : Int)) = (A (s) 0)
    · refine E_Ic true rfl (zc_ne_t ⟨by omega, by omega⟩ ⟨by omega, by omega⟩ g18) ?_
      refine E_push (q := 26) (c := -1) (z := -1) rfl rfl ?_
      refine E_Ast (q := 27) (j := i) rfl (ni_o7_5 hs hk).1 (ni_o7_5 hs hk).2.1 (ni_o7_5 hs hk).2.2.1 rfl (by omega) (by decide) ?_
      refine E_Ld (q := 28) rfl rfl (fun _ _ => rfl) ?_
      refine E_Get (q := 31) (v := ni_aP (s + 6)) rfl hs hk rfl rfl (fun _ _ => rfl) ?_
      refine E_Ld (q := 32) rfl rfl (fun _ _ => rfl) ?_
      refine E_push (q := 33) (c := 0) (z := 0) rfl rfl ?_
      refine E_Ast (q := 34) (j := i) rfl (ni_o7_6 hs hk).1 (ni_o7_6 hs hk).2.1 (ni_o7_6 hs hk).2.2.1 rfl (by omega) (by decide) ?_
      refine E_Inc (q := 37) (ls' := [ni_aP (s), ni_aP (2), ni_aI ((i : Int) + 1), .inl ni_J, .inl ni_J, .inl ni_J]) (z := 1) rfl rfl rfl (fun _ _ => rfl) ?_
      refine E_Go (q := 2) rfl ?_
      refine ni_Eh (ih (i + 1) (by omega) (ni_u2 (ni_u2 A (s + 5) (i) ((-1))) (s + 6) (i) (0)) (by omega) (by rw [ni_u2n (by omega), ni_u2n (by omega)]; exact hnum) (fun o ho => ?_) (fun A2 h1 h2 h3 => hK A2 h1 h2 (fun s' j g1 g2 => (h3 s' j g1 g2).trans (by rw [ni_u2n (Or.inl g2), ni_u2n (Or.inl g1)]))))
      by_cases e : o = i
      · rw [e, ni_u2n (by omega), ni_u2e, ni_u2e]
        exact ⟨fun _ => by omega, fun _ => by omega⟩
      · rw [ni_u2n (by omega), ni_u2n (by omega), ni_u2n (by omega), ni_u2n (by omega)]
        exact hlo o (by omega)
    · refine E_Ic false rfl (zc_ne_f ⟨by omega, by omega⟩ ⟨by omega, by omega⟩ g18) ?_
      refine E_push (q := 22) (c := 0) (z := 0) rfl rfl ?_
      refine E_Go (q := 26) rfl ?_
      refine E_Ast (q := 27) (j := i) rfl (ni_o7_5 hs hk).1 (ni_o7_5 hs hk).2.1 (ni_o7_5 hs hk).2.2.1 rfl (by omega) (by decide) ?_
      refine E_Ld (q := 28) rfl rfl (fun _ _ => rfl) ?_
      refine E_Get (q := 31) (v := ni_aP (s + 6)) rfl hs hk rfl rfl (fun _ _ => rfl) ?_
      refine E_Ld (q := 32) rfl rfl (fun _ _ => rfl) ?_
      refine E_push (q := 33) (c := 0) (z := 0) rfl rfl ?_
      refine E_Ast (q := 34) (j := i) rfl (ni_o7_6 hs hk).1 (ni_o7_6 hs hk).2.1 (ni_o7_6 hs hk).2.2.1 rfl (by omega) (by decide) ?_
      refine E_Inc (q := 37) (ls' := [ni_aP (s), ni_aP (2), ni_aI ((i : Int) + 1), .inl ni_J, .inl ni_J, .inl ni_J]) (z := 1) rfl rfl rfl (fun _ _ => rfl) ?_
      refine E_Go (q := 2) rfl ?_
      refine ni_Eh (ih (i + 1) (by omega) (ni_u2 (ni_u2 A (s + 5) (i) (0)) (s + 6) (i) (0)) (by omega) (by rw [ni_u2n (by omega), ni_u2n (by omega)]; exact hnum) (fun o ho => ?_) (fun A2 h1 h2 h3 => hK A2 h1 h2 (fun s' j g1 g2 => (h3 s' j g1 g2).trans (by rw [ni_u2n (Or.inl g2), ni_u2n (Or.inl g1)]))))
      by_cases e : o = i
      · rw [e, ni_u2n (by omega), ni_u2e, ni_u2e]
        exact ⟨fun _ => by omega, fun _ => by omega⟩
      · rw [ni_u2n (by omega), ni_u2n (by omega), ni_u2n (by omega), ni_u2n (by omega)]
        exact hlo o (by omega)
theorem mt_rw3 {s r f : Nat} {dn rd : Int} {P : Option ni_a → (Nat → Nat → Int) → Prop} (hs : ni_us s = true) (hk : ni_kd s = 7) (hr8 : r < 8) (hct : ni_ct (s + 4) = (998, r)) (hf : f < 8) (hsl : ∀ l : Nat, l < 14 → 48 + 17 * l ≠ s + 5 ∧ 48 + 17 * l ≠ s + 6) : ∀ k i : Nat, i + k = 14 → ∀ (A : Nat → Nat → Int) (D : Int), ni_RD A s r D → (0 ≤ D ∧ D + 50 * k ≤ 100000) → ¬ A (s + 5) f = -1 → (r : Int) < A 0 1 → ni_LB A → ni_LK St A s → (∀ A2 : Nat → Nat → Int, ni_RD A2 s r (D + 50 * k) → ¬ A2 (s + 5) f = -1 → ni_fr56 A A2 s → ni_E xs St Z 2 140 119 [ni_aP (s), ni_aP (2), ni_aI (dn), ni_aI (rd), ni_aI ((f : Int)), ni_aI (((14 : Nat) : Int))] [] A2 (ni_live A2) P) → ni_E xs St Z 2 140 74 [ni_aP (s), ni_aP (2), ni_aI (dn), ni_aI (rd), ni_aI ((f : Int)), ni_aI ((i : Int))] [] A (ni_live A) P := by
  have h374 := (ni_usT hs).1
  have hne := fun l hl => (hsl l hl).1
  have hne2 := fun l hl => (hsl l hl).2
  intro k
  induction k with
  | zero =>
    intro i hi A D hRD hD hfd hrc hLB hLK hK
    refine E_Ld (q := 76) rfl rfl (fun _ _ => rfl) ?_
    refine E_Ld (q := 77) rfl rfl (fun _ _ => rfl) ?_
    refine E_Len (q := 78) (n := 14) rfl (show ni_us 2 = true by decide +kernel) (show ni_kd 2 = 102 by decide +kernel) (show ni_ln 2 = 14 by decide +kernel) (by decide) (by decide) ?_
    refine E_Ic true rfl (zc_ge_t ⟨by omega, by omega⟩ ⟨by omega, by omega⟩ (by omega)) ?_
    rw [show i = 14 by omega]
    exact hK A (ni_RDm hRD (by omega)) hfd ni_fr56r
  | succ k ih =>
    intro i hi A D hRD hD hfd hrc hLB hLK hK
    have hD' : 0 ≤ D ∧ D ≤ 100000 := by omega
    obtain ⟨o1, n1, s1, ca1, na1, cs1, ns1, hbf, _, _, hs1, hca, hcs1, _⟩ := (hLK f hf).2
    refine E_Ld (q := 76) rfl rfl (fun _ _ => rfl) ?_
    refine E_Ld (q := 77) rfl rfl (fun _ _ => rfl) ?_
    refine E_Len (q := 78) (n := 14) rfl (show ni_us 2 = true by decide +kernel) (show ni_kd 2 = 102 by decide +kernel) (show ni_ln 2 = 14 by decide +kernel) (by decide) (by decide) ?_
    refine E_Ic false rfl (zc_ge_f ⟨by omega, by omega⟩ ⟨by omega, by omega⟩ (by omega)) ?_
    refine E_Ld (q := 82) rfl rfl (fun _ _ => rfl) ?_
    refine E_Get (q := 85) (v := ni_aP (s + 4)) rfl hs hk rfl rfl (fun _ _ => rfl) ?_
    refine E_Ld (q := 87) rfl rfl (fun _ _ => rfl) ?_
    refine E_Qld (q := 88) (j := f) (v := ni_aL (A (s + 4) (f)).toNat) rfl (ni_o7_4 hs hk).1 (ni_o7_4 hs hk).2.1 (ni_o7_4 hs hk).2.2.1 ⟨by decide, rfl⟩ rfl (by omega) (by decide) (ni_L7 (ni_o7_4 hs hk).1 hct hrc hf) (fun _ _ => rfl) (fun _ _ => rfl) ?_
    refine E_Ld (q := 90) rfl rfl (fun _ _ => rfl) ?_
    refine E_VS (q := 93) (w := some (ni_aI (s1 / 2 ^ i % 2))) rfl rfl rfl hbf (Nat.le_of_ble_eq_true rfl) (fun _ _ _ => rfl) (ni_Dup (mt_hasLink (k := i) hbf (by omega) hs1) (by decide)) (fun _ _ => rfl) (fun _ _ => rfl) ?_
    by_cases g93 : (s1 / 2 ^ i % 2) = 0
    · refine E_If true rfl (zf_eq_t ⟨by omega, by omega⟩ g93) ?_
      refine E_Inc (q := 116) (ls' := [ni_aP (s), ni_aP (2), ni_aI (dn), ni_aI (rd), ni_aI ((f : Int)), ni_aI ((i : Int) + 1)]) (z := 1) rfl rfl rfl (fun _ _ => rfl) ?_
      refine E_Go (q := 74) rfl ?_
      exact ih (i + 1) (by omega) A D hRD (by omega) hfd hrc hLB hLK (fun A3 g1 g2 g3 => hK A3 (ni_RDm g1 (by omega)) g2 g3)
    · refine E_If false rfl (zf_eq_f ⟨by omega, by omega⟩ g93) ?_
      refine E_Ld (q := 97) rfl rfl (fun _ _ => rfl) ?_
      refine E_Ld (q := 99) rfl rfl (fun _ _ => rfl) ?_
      refine E_Ld (q := 101) rfl rfl (fun _ _ => rfl) ?_
      refine E_Ld (q := 102) rfl rfl (fun _ _ => rfl) ?_
      refine E_Ld (q := 104) rfl rfl (fun _ _ => rfl) ?_
      refine E_Qld (q := 105) (j := i) (v := ni_aP (48 + 17 * i)) rfl (show ni_us 2 = true by decide +kernel) (show ni_kd 2 = 102 by decide +kernel) (show ni_ln 2 = 14 by decide +kernel) ⟨by decide, rfl⟩ rfl (by omega) (by decide) (ni_L9 (show ni_us 2 = true by decide +kernel) (by decide +kernel) (by omega)) (fun _ _ => rfl) (fun _ _ => rfl) ?_
      refine E_Ld (q := 107) rfl rfl (fun _ _ => rfl) ?_
      obtain ⟨t, ht, hot⟩ := mt_other (xs := xs) (St := St) (A := A) (l := 48 + 17 * i) (r := (f : Int)) (by omega) (hLB i (by omega)).1 (hLB i (by omega)).2.1 (ni_liS i (by omega)).1 (ni_liS i (by omega)).2
      refine E_V (q := 110) (w := some (ni_aI ((t : Int)))) rfl rfl rfl (ni_liS i (by omega)).1 (ni_liS i (by omega)).2 rfl (Nat.le_of_ble_eq_true rfl) (fun _ _ _ => rfl) (ni_Dup hot (by decide)) (fun _ _ => rfl) (fun _ _ => rfl) ?_
      obtain ⟨c, hcs, c0, c50, c1⟩ := hcs1 i (by omega)
      obtain ⟨o2, n2, s2, ca2, na2, cs2, ns2, hbt, _, _, hs2, _⟩ := (hLK t ht).2
      obtain ⟨v, A2, ⟨hv, hfr, hRD2, hkeep⟩, hDc⟩ := mt_goOn (xs := xs) (St := St) hs hk hr8 hct hrc hf ht (show i < 14 by omega) hRD hD' hfd hbf hca hcs ⟨c1 (by omega), c50⟩ hbt hs2
      subst hv
      refine E_V (q := 113) (w := none) rfl rfl rfl hs hk rfl (Nat.le_of_ble_eq_true rfl) (fun _ _ _ => rfl) (hDc) (fun _ _ => rfl) (fun _ _ => rfl) ?_
      refine E_Inc (q := 116) (ls' := [ni_aP (s), ni_aP (2), ni_aI (dn), ni_aI (rd), ni_aI ((f : Int)), ni_aI ((i : Int) + 1)]) (z := 1) rfl rfl rfl (fun _ _ => rfl) ?_
      refine E_Go (q := 74) rfl ?_
      refine ih (i + 1) (by omega) A2 (D + 50) hRD2 (by omega) (hkeep f hf hfd) (by rw [hfr _ _ (by omega) (by omega)]; exact hrc) (fun l hl => ?_) (fun o ho => ?_) (fun A3 g1 g2 g3 => hK A3 (by rw [show D + 50 * ((k + 1 : Nat) : Int) = D + 50 + 50 * (k : Int) by omega]; exact g1) g2 (ni_fr56t hfr g3))
      · have := hLB l hl
        rw [hfr _ _ (hne l hl) (hne2 l hl), hfr _ _ (hne l hl) (hne2 l hl), hfr _ _ (hne l hl) (hne2 l hl)]
        exact this
      · rw [hfr _ _ (by omega) (by omega)]
        exact hLK o ho
theorem mt_rw2 {s r : Nat} {P : Option ni_a → (Nat → Nat → Int) → Prop} (hs : ni_us s = true) (hk : ni_kd s = 7) (hr8 : r < 8) (hct : ni_ct (s + 4) = (998, r)) (hsl : ∀ l : Nat, l < 14 → 48 + 17 * l ≠ s + 5 ∧ 48 + 17 * l ≠ s + 6) : ∀ k i : Nat, i + k = 8 → ∀ (A : Nat → Nat → Int) (D dn : Int) (w4 w5 : Value), ni_RD A s r D → (0 ≤ D ∧ D + 700 * k ≤ 10000) → (r : Int) < A 0 1 → ni_LB A → ni_LK St A s → (∀ A2 : Nat → Nat → Int, ni_RD A2 s r 10000 → ni_fr56 A A2 s → P none A2) → ni_E xs St Z 2 140 44 [ni_aP (s), ni_aP (2), ni_aI (dn), ni_aI ((i : Int)), .inl w4, .inl w5] [] A (ni_live A) P := by
  have h374 := (ni_usT hs).1
  intro k
  induction k with
  | zero =>
    intro i hi A D dn w4 w5 hRD hD hrc hLB hLK hP
    refine E_Ld (q := 45) rfl rfl (fun _ _ => rfl) ?_
    refine E_push (q := 47) (c := 8) (z := 8) rfl rfl ?_
    refine E_Ic true rfl (zc_ge_t ⟨by omega, by omega⟩ ⟨by omega, by omega⟩ (by omega)) ?_
    refine E_Rv rfl rfl ?_
    exact hP A (ni_RDm hRD (by omega)) ni_fr56r
  | succ k ih =>
    intro i hi A D dn w4 w5 hRD hD hrc hLB hLK hP
    refine E_Ld (q := 45) rfl rfl (fun _ _ => rfl) ?_
    refine E_push (q := 47) (c := 8) (z := 8) rfl rfl ?_
    refine E_Ic false rfl (zc_ge_f ⟨by omega, by omega⟩ ⟨by omega, by omega⟩ (by omega)) ?_
    refine E_Ld (q := 51) rfl rfl (fun _ _ => rfl) ?_
    refine E_Ld (q := 52) rfl rfl (fun _ _ => rfl) ?_
    obtain ⟨v, A2, ⟨b, hv, hA, hb⟩, hDc⟩ := mt_near (xs := xs) (St := St) (A := A) (dn := dn) hs hk (fun o ho => by have := ni_rd0 (hRD.2 o ho) (by omega); omega)
    subst hv hA
    refine E_V (q := 55) (w := some (ni_aI (b))) rfl rfl rfl hs hk rfl (Nat.le_of_ble_eq_true rfl) (fun _ _ _ => rfl) (ni_Dup hDc (by decide)) (fun _ _ => rfl) (fun _ _ => rfl) ?_
    refine E_St (q := 57) (ls' := [ni_aP (s), ni_aP (2), ni_aI (dn), ni_aI ((i : Int)), ni_aI (b), .inl w5]) rfl (fun _ _ => rfl) (fun _ _ => rfl) ?_
    refine E_Ld (q := 59) rfl rfl (fun _ _ => rfl) ?_
    refine E_push (q := 60) (c := -1) (z := -1) rfl rfl ?_
    by_cases g60 : ¬ b = ((-1))
    · refine E_Ic true rfl (zc_ne_t ⟨by omega, by omega⟩ ⟨by omega, by omega⟩ g60) ?_
      obtain ⟨f, rfl⟩ := Int.eq_ofNat_of_zero_le (show 0 ≤ b by omega)
      refine E_Ld (q := 65) rfl rfl (fun _ _ => rfl) ?_
      refine E_push (q := 66) (c := 1) (z := 1) rfl rfl ?_
      refine E_Ld (q := 68) rfl rfl (fun _ _ => rfl) ?_
      obtain ⟨c1, h1, g1⟩ := zi_ex (Int32.ofInt 1 <<< (Int32.ofInt (f : Int) &&& 31))
      obtain ⟨c2, h2, g2⟩ := zi_ex (Int32.ofInt dn ||| Int32.ofInt c1)
      refine E_I (q := 69) (c := c1) rfl h1 ?_
      refine E_I (q := 70) (c := c2) rfl h2 ?_
      refine E_St (q := 71) (ls' := [ni_aP (s), ni_aP (2), ni_aI (c2), ni_aI ((i : Int)), ni_aI ((f : Int)), .inl w5]) rfl (fun _ _ => rfl) (fun _ _ => rfl) ?_
      refine E_push (q := 72) (c := 0) (z := 0) rfl rfl ?_
      refine E_St (q := 74) (ls' := [ni_aP (s), ni_aP (2), ni_aI (c2), ni_aI ((i : Int)), ni_aI ((f : Int)), ni_aI (0)]) rfl (fun _ _ => rfl) (fun _ _ => rfl) ?_
      refine mt_rw3 hs hk hr8 hct (by omega) hsl 14 0 (by omega) A2 D hRD (by omega) (by rw [Int.toNat_natCast] at hb; omega) hrc hLB hLK (fun A3 g1 g2 g3 => ?_)
      refine E_Inc (q := 122) (ls' := [ni_aP (s), ni_aP (2), ni_aI (c2), ni_aI ((i : Int) + 1), ni_aI ((f : Int)), ni_aI (((14 : Nat) : Int))]) (z := 1) rfl rfl rfl (fun _ _ => rfl) ?_
      refine E_Go (q := 44) rfl ?_
      refine ih (i + 1) (by omega) A3 _ c2 _ _ g1 (by omega) (by rw [g3 _ _ (by omega) (by omega)]; exact hrc) (fun l hl => ?_) (fun o ho => ?_) (fun A4 e1 e2 => hP A4 e1 (ni_fr56t g3 e2))
      · have := hLB l hl
        rw [g3 _ _ (hsl l hl).1 (hsl l hl).2, g3 _ _ (hsl l hl).1 (hsl l hl).2, g3 _ _ (hsl l hl).1 (hsl l hl).2]
        exact this
      · rw [g3 _ _ (by omega) (by omega)]
        exact hLK o ho
    · refine E_Ic false rfl (zc_ne_f ⟨by omega, by omega⟩ ⟨by omega, by omega⟩ g60) ?_
      refine E_Rv rfl rfl ?_
      exact hP A2 (ni_RDm hRD (by omega)) ni_fr56r
end NRL
