/-! A ROUTER RECKONS: THE WHOLE -/
section NRM
variable {Z : (Nat → Nat) → Prop} {xs : List Int32} {St : Nat → Option ni_C} {A : Nat → Nat → Int}
theorem mt_ways {s r : Nat} (hs : ni_us s = true) (hk : ni_kd s = 7) (hr8 : r < 8) (hse : s = 286 + 11 * r) (hrc : (r : Int) < A 0 1) (hnum : A s 0 = r) (hLB : ni_LB A) (hLK : ni_LK St A s) : ni_M xs St 3 140 [ni_aP s, ni_aP 2] A (fun v A' => v = none ∧ ni_fr56 A A' s ∧ ni_RD A' s r 10000) := by
  have h374 := (ni_usT hs).1
  have hct : ni_ct (s + 4) = (998, r) := by rw [hse]; exact ni_ctR r hr8
  refine ni_Min (ls := [ni_aP (s), ni_aP (2), .inl ni_J, .inl ni_J, .inl ni_J, .inl ni_J]) (fun _ => Nat.le_of_ble_eq_true rfl) (fun _ _ => rfl) ?_
  refine E_push (q := 1) (c := 0) (z := 0) rfl rfl ?_
  refine E_St (q := 2) (ls' := [ni_aP (s), ni_aP (2), ni_aI (0), .inl ni_J, .inl ni_J, .inl ni_J]) rfl (fun _ _ => rfl) (fun _ _ => rfl) ?_
  refine mt_rw1 hs hk hr8 hct 8 0 (by omega) A (by omega) hnum (fun o ho => absurd ho (Nat.not_lt_zero o)) (fun A2 h1 h2 h3 => ?_)
  refine E_push (q := 41) (c := 0) (z := 0) rfl rfl ?_
  refine E_St (q := 42) (ls' := [ni_aP (s), ni_aP (2), ni_aI (0), .inl ni_J, .inl ni_J, .inl ni_J]) rfl (fun _ _ => rfl) (fun _ _ => rfl) ?_
  refine E_push (q := 43) (c := 0) (z := 0) rfl rfl ?_
  refine E_St (q := 44) (ls' := [ni_aP (s), ni_aP (2), ni_aI (0), ni_aI (0), .inl ni_J, .inl ni_J]) rfl (fun _ _ => rfl) (fun _ _ => rfl) ?_
  refine mt_rw2 hs hk hr8 hct (fun l hl => by omega) 8 0 (by omega) A2 0 _ _ _ ⟨h1, h2⟩ (by omega) (by rw [h3 _ _ (by omega) (by omega)]; exact hrc) (fun l hl => ?_) (fun o ho => ?_) (fun A3 e1 e2 => ⟨rfl, ni_fr56t h3 e2, e1⟩)
  · have := hLB l hl
    rw [h3 _ _ (by omega) (by omega), h3 _ _ (by omega) (by omega), h3 _ _ (by omega) (by omega)]
    exact this
  · rw [h3 _ _ (by omega) (by omega)]
    exact hLK o ho
/-- a list of prefixes -/
def ni_PL (A : Nat → Nat → Int) (p : Nat) : Prop := (0 ≤ A p 3 ∧ A p 3 ≤ 24) ∧ ∀ i : Nat, (i : Int) < A p 3 → (0 ≤ A (p + 1) i ∧ A (p + 1) i < 8) ∧ (0 ≤ A (p + 2) i ∧ A (p + 2) i < 2097152 ∧ A (p + 2) i % 32 ≤ 16) ∧ (-1 ≤ A (p + 3) i ∧ A (p + 3) i < 14)
theorem ni_PLf {A A2 : Nat → Nat → Int} {p : Nat} (h : ni_PL A p) (hf : ∀ j, j < 4 → ∀ i, A2 (p + j) i = A (p + j) i) : ni_PL A2 p := by
  have h0 := hf 0 (by omega)
  have h1 := hf 1 (by omega)
  have h2 := hf 2 (by omega)
  have h3 := hf 3 (by omega)
  rw [Nat.add_zero] at h0
  unfold ni_PL
  rw [h0]
  refine ⟨h.1, fun i hi => ?_⟩
  rw [h1, h2, h3]
  exact h.2 i hi
theorem mt_eN {s r : Nat} {P : Option ni_a → (Nat → Nat → Int) → Prop} (hs : ni_us s = true) (hk : ni_kd s = 7) (hr8 : r < 8) (hse : s = 286 + 11 * r) : ∀ k i : Nat, ∀ A : Nat → Nat → Int, ((i : Int) + k = A 4 3) → A s 0 = r → ni_TS A (s + 7) → ni_PL A 4 → (∀ A2 : Nat → Nat → Int, ni_TS A2 (s + 7) → ni_frT A A2 (s + 7) → P none A2) → ni_E xs St Z 1 134 2 [ni_aP (s), ni_aP (4), ni_aI ((i : Int))] [] A (ni_live A) P := by
  have h374 := (ni_usT hs).1
  intro k
  induction k with
  | zero =>
    intro i A hi hnum hT hPL hP
    have hPL1 := hPL.1
    refine E_Ld (q := 3) rfl rfl (fun _ _ => rfl) ?_
    refine E_Ld (q := 4) rfl rfl (fun _ _ => rfl) ?_
    refine E_GetI (q := 7) (e := A (4) 3) rfl (show ni_us 4 = true by decide +kernel) (show ni_kd 4 = 6 by decide +kernel) rfl rfl (fun _ _ => rfl) ?_
    refine E_Ic true rfl (zc_ge_t ⟨by omega, by omega⟩ ⟨by omega, by omega⟩ (by omega)) ?_
    refine E_Rv rfl rfl ?_
    exact hP A hT ni_frTr
  | succ k ih =>
    intro i A hi hnum hT hPL hP
    have hPL1 := hPL.1
    have hPL2 := hPL.2 i (by omega)
    have hPL3 := hT.1.1
    refine E_Ld (q := 3) rfl rfl (fun _ _ => rfl) ?_
    refine E_Ld (q := 4) rfl rfl (fun _ _ => rfl) ?_
    refine E_GetI (q := 7) (e := A (4) 3) rfl (show ni_us 4 = true by decide +kernel) (show ni_kd 4 = 6 by decide +kernel) rfl rfl (fun _ _ => rfl) ?_
    refine E_Ic false rfl (zc_ge_f ⟨by omega, by omega⟩ ⟨by omega, by omega⟩ (by omega)) ?_
    refine E_Ld (q := 11) rfl rfl (fun _ _ => rfl) ?_
    refine E_Get (q := 14) (v := ni_aP (4 + 1)) rfl (show ni_us 4 = true by decide +kernel) (show ni_kd 4 = 6 by decide +kernel) rfl rfl (fun _ _ => rfl) ?_
    refine E_Ld (q := 15) rfl rfl (fun _ _ => rfl) ?_
    refine E_Ald (q := 16) (j := i) (e := A (4 + 1) (i)) rfl (ni_o6_1 (show ni_us 4 = true by decide +kernel) (show ni_kd 4 = 6 by decide +kernel)).1 (ni_o6_1 (show ni_us 4 = true by decide +kernel) (show ni_kd 4 = 6 by decide +kernel)).2.1 (ni_o6_1 (show ni_us 4 = true by decide +kernel) (show ni_kd 4 = 6 by decide +kernel)).2.2.1 rfl (by omega) (by decide) (ni_L8 (ni_o6_1 (show ni_us 4 = true by decide +kernel) (show ni_kd 4 = 6 by decide +kernel)).1 (ni_o6_1 (show ni_us 4 = true by decide +kernel) (show ni_kd 4 = 6 by decide +kernel)).2.2.2 (by omega) (by omega)) (fun _ _ => rfl) ?_
    refine E_Ld (q := 17) rfl rfl (fun _ _ => rfl) ?_
    refine E_GetI (q := 20) (e := A (s) 0) rfl hs hk rfl rfl (fun _ _ => rfl) ?_
    by_cases g20 : ¬ (A (4 + 1) (i)) = (A (s) 0)
    · refine E_Ic true rfl (zc_ne_t ⟨by omega, by omega⟩ ⟨by omega, by omega⟩ g20) ?_
      refine E_Inc (q := 41) (ls' := [ni_aP (s), ni_aP (4), ni_aI ((i : Int) + 1)]) (z := 1) rfl rfl rfl (fun _ _ => rfl) ?_
      refine E_Go (q := 2) rfl ?_
      exact ih (i + 1) A (by omega) hnum hT hPL hP
    · refine E_Ic false rfl (zc_ne_f ⟨by omega, by omega⟩ ⟨by omega, by omega⟩ g20) ?_
      refine E_Ld (q := 24) rfl rfl (fun _ _ => rfl) ?_
      refine E_Get (q := 27) (v := ni_aP (s + 7)) rfl hs hk rfl rfl (fun _ _ => rfl) ?_
      refine E_Ld (q := 28) rfl rfl (fun _ _ => rfl) ?_
      refine E_Get (q := 31) (v := ni_aP (4 + 2)) rfl (show ni_us 4 = true by decide +kernel) (show ni_kd 4 = 6 by decide +kernel) rfl rfl (fun _ _ => rfl) ?_
      refine E_Ld (q := 32) rfl rfl (fun _ _ => rfl) ?_
      refine E_Ald (q := 33) (j := i) (e := A (4 + 2) (i)) rfl (ni_o6_2 (show ni_us 4 = true by decide +kernel) (show ni_kd 4 = 6 by decide +kernel)).1 (ni_o6_2 (show ni_us 4 = true by decide +kernel) (show ni_kd 4 = 6 by decide +kernel)).2.1 (ni_o6_2 (show ni_us 4 = true by decide +kernel) (show ni_kd 4 = 6 by decide +kernel)).2.2.1 rfl (by omega) (by decide) (ni_L8 (ni_o6_2 (show ni_us 4 = true by decide +kernel) (show ni_kd 4 = 6 by decide +kernel)).1 (ni_o6_2 (show ni_us 4 = true by decide +kernel) (show ni_kd 4 = 6 by decide +kernel)).2.2.2 (by omega) (by omega)) (fun _ _ => rfl) ?_
      refine E_push (q := 34) (c := 0) (z := 0) rfl rfl ?_
      refine E_push (q := 35) (c := 0) (z := 0) rfl rfl ?_
      obtain ⟨v, A2, ⟨hv, hfr, hT2⟩, hDc⟩ := mt_enter (xs := xs) (St := St) (A := A) (t := s + 7) (x := A (4 + 2) (i)) (so := 0) (li := 0) (ni_o7_7 hs hk).1 (ni_o7_7 hs hk).2.1 hT (by omega) (by omega) (by omega)
      subst hv
      refine E_V (q := 38) (w := none) rfl rfl rfl (ni_o7_7 hs hk).1 (ni_o7_7 hs hk).2.1 rfl (Nat.le_of_ble_eq_true rfl) (fun _ _ _ => rfl) (ni_Dup hDc (by decide)) (fun _ _ => rfl) (fun _ _ => rfl) ?_
      refine E_Inc (q := 41) (ls' := [ni_aP (s), ni_aP (4), ni_aI ((i : Int) + 1)]) (z := 1) rfl rfl rfl (fun _ _ => rfl) ?_
      refine E_Go (q := 2) rfl ?_
      exact ih (i + 1) A2 (by rw [hfr _ _ (by omega) (by omega) (by omega) (by omega)]; omega) (by rw [hfr _ _ (by omega) (by omega) (by omega) (by omega)]; exact hnum) hT2 (ni_PLf hPL (fun j hj i => hfr _ _ (by omega) (by omega) (by omega) (by omega))) (fun A3 e1 e2 => hP A3 e1 (ni_frTt hfr e2))
theorem mt_entN {s r : Nat} (hs : ni_us s = true) (hk : ni_kd s = 7) (hr8 : r < 8) (hse : s = 286 + 11 * r) (hnum : A s 0 = r) (hT : ni_TS A (s + 7)) (hPL : ni_PL A 4) : ni_M xs St 2 134 [ni_aP s, ni_aP 4] A (fun v A' => v = none ∧ ni_frT A A' (s + 7) ∧ ni_TS A' (s + 7)) := by
  have hPL1 := hPL.1
  refine ni_Min (ls := [ni_aP (s), ni_aP (4), .inl ni_J]) (fun _ => Nat.le_of_ble_eq_true rfl) (fun _ _ => rfl) ?_
  refine E_push (q := 1) (c := 0) (z := 0) rfl rfl ?_
  refine E_St (q := 2) (ls' := [ni_aP (s), ni_aP (4), ni_aI (0)]) rfl (fun _ _ => rfl) (fun _ _ => rfl) ?_
  exact mt_eN hs hk hr8 hse (A 4 3).toNat 0 A (by omega) hnum hT hPL (fun A2 h1 h2 => ⟨rfl, h2, h1⟩)
theorem mt_eS {s r : Nat} {P : Option ni_a → (Nat → Nat → Int) → Prop} (hs : ni_us s = true) (hk : ni_kd s = 7) (hr8 : r < 8) (hse : s = 286 + 11 * r) : ∀ k i : Nat, ∀ A : Nat → Nat → Int, ((i : Int) + k = A 8 3) → ∀ w4 : Value, A s 0 = r → ni_TS A (s + 7) → ni_PL A 8 → (∀ i : Nat, (i : Int) < A 8 3 → 0 ≤ A (8 + 3) i) → ni_LB A → (∀ A2 : Nat → Nat → Int, ni_TS A2 (s + 7) → ni_frT A A2 (s + 7) → P none A2) → ni_E xs St Z 1 135 2 [ni_aP (s), ni_aP (8), ni_aP (2), ni_aI ((i : Int)), .inl w4] [] A (ni_live A) P := by
  have h374 := (ni_usT hs).1
  intro k
  induction k with
  | zero =>
    intro i A hi w4 hnum hT hPL hS hLB hP
    have hPL1 := hPL.1
    refine E_Ld (q := 3) rfl rfl (fun _ _ => rfl) ?_
    refine E_Ld (q := 4) rfl rfl (fun _ _ => rfl) ?_
    refine E_GetI (q := 7) (e := A (8) 3) rfl (show ni_us 8 = true by decide +kernel) (show ni_kd 8 = 6 by decide +kernel) rfl rfl (fun _ _ => rfl) ?_
    refine E_Ic true rfl (zc_ge_t ⟨by omega, by omega⟩ ⟨by omega, by omega⟩ (by omega)) ?_
    refine E_Rv rfl rfl ?_
    exact hP A hT ni_frTr
  | succ k ih =>
    intro i A hi w4 hnum hT hPL hS hLB hP
    have hPL1 := hPL.1
    have hPL2 := hPL.2 i (by omega)
    have hPL3 := hT.1.1
    obtain ⟨m, hm⟩ := Int.eq_ofNat_of_zero_le (hS i (by omega))
    have hm14 : m < 14 := by omega
    have hLm := (hLB m hm14).2.2
    obtain ⟨q2, h2, g2⟩ := ni_sh1 hm14
    rw [← hm] at h2
    refine E_Ld (q := 3) rfl rfl (fun _ _ => rfl) ?_
    refine E_Ld (q := 4) rfl rfl (fun _ _ => rfl) ?_
    refine E_GetI (q := 7) (e := A (8) 3) rfl (show ni_us 8 = true by decide +kernel) (show ni_kd 8 = 6 by decide +kernel) rfl rfl (fun _ _ => rfl) ?_
    refine E_Ic false rfl (zc_ge_f ⟨by omega, by omega⟩ ⟨by omega, by omega⟩ (by omega)) ?_
    refine E_Ld (q := 11) rfl rfl (fun _ _ => rfl) ?_
    refine E_Get (q := 14) (v := ni_aP (8 + 3)) rfl (show ni_us 8 = true by decide +kernel) (show ni_kd 8 = 6 by decide +kernel) rfl rfl (fun _ _ => rfl) ?_
    refine E_Ld (q := 15) rfl rfl (fun _ _ => rfl) ?_
    refine E_Ald (q := 16) (j := i) (e := A (8 + 3) (i)) rfl (ni_o6_3 (show ni_us 8 = true by decide +kernel) (show ni_kd 8 = 6 by decide +kernel)).1 (ni_o6_3 (show ni_us 8 = true by decide +kernel) (show ni_kd 8 = 6 by decide +kernel)).2.1 (ni_o6_3 (show ni_us 8 = true by decide +kernel) (show ni_kd 8 = 6 by decide +kernel)).2.2.1 rfl (by omega) (by decide) (ni_L8 (ni_o6_3 (show ni_us 8 = true by decide +kernel) (show ni_kd 8 = 6 by decide +kernel)).1 (ni_o6_3 (show ni_us 8 = true by decide +kernel) (show ni_kd 8 = 6 by decide +kernel)).2.2.2 (by omega) (by omega)) (fun _ _ => rfl) ?_
    refine E_St (q := 18) (ls' := [ni_aP (s), ni_aP (8), ni_aP (2), ni_aI ((i : Int)), ni_aI (A (8 + 3) (i))]) rfl (fun _ _ => rfl) (fun _ _ => rfl) ?_
    refine E_Ld (q := 19) rfl rfl (fun _ _ => rfl) ?_
    refine E_Get (q := 22) (v := ni_aP (8 + 1)) rfl (show ni_us 8 = true by decide +kernel) (show ni_kd 8 = 6 by decide +kernel) rfl rfl (fun _ _ => rfl) ?_
    refine E_Ld (q := 23) rfl rfl (fun _ _ => rfl) ?_
    refine E_Ald (q := 24) (j := i) (e := A (8 + 1) (i)) rfl (ni_o6_1 (show ni_us 8 = true by decide +kernel) (show ni_kd 8 = 6 by decide +kernel)).1 (ni_o6_1 (show ni_us 8 = true by decide +kernel) (show ni_kd 8 = 6 by decide +kernel)).2.1 (ni_o6_1 (show ni_us 8 = true by decide +kernel) (show ni_kd 8 = 6 by decide +kernel)).2.2.1 rfl (by omega) (by decide) (ni_L8 (ni_o6_1 (show ni_us 8 = true by decide +kernel) (show ni_kd 8 = 6 by decide +kernel)).1 (ni_o6_1 (show ni_us 8 = true by decide +kernel) (show ni_kd 8 = 6 by decide +kernel)).2.2.2 (by omega) (by omega)) (fun _ _ => rfl) ?_
    refine E_Ld (q := 25) rfl rfl (fun _ _ => rfl) ?_
    refine E_GetI (q := 28) (e := A (s) 0) rfl hs hk rfl rfl (fun _ _ => rfl) ?_
    by_cases g28 : ¬ (A (8 + 1) (i)) = (A (s) 0)
    · refine E_Ic true rfl (zc_ne_t ⟨by omega, by omega⟩ ⟨by omega, by omega⟩ g28) ?_
      refine E_Inc (q := 62) (ls' := [ni_aP (s), ni_aP (8), ni_aP (2), ni_aI ((i : Int) + 1), ni_aI (A (8 + 3) (i))]) (z := 1) rfl rfl rfl (fun _ _ => rfl) ?_
      refine E_Go (q := 2) rfl ?_
      exact ih (i + 1) A (by omega) _ hnum hT hPL hS hLB hP
    · refine E_Ic false rfl (zc_ne_f ⟨by omega, by omega⟩ ⟨by omega, by omega⟩ g28) ?_
      refine E_Ld (q := 32) rfl rfl (fun _ _ => rfl) ?_
      refine E_Ld (q := 34) rfl rfl (fun _ _ => rfl) ?_
      refine E_Qld (q := 35) (j := m) (v := ni_aP (48 + 17 * m)) rfl (show ni_us 2 = true by decide +kernel) (show ni_kd 2 = 102 by decide +kernel) (show ni_ln 2 = 14 by decide +kernel) ⟨by decide, rfl⟩ hm (by omega) (by decide) (ni_L9 (show ni_us 2 = true by decide +kernel) (by decide +kernel) (by omega)) (fun _ _ => rfl) (fun _ _ => rfl) ?_
      refine E_GetI (q := 38) (e := A (48 + 17 * m) 5) rfl (ni_liS m (by omega)).1 (ni_liS m (by omega)).2 rfl rfl (fun _ _ => rfl) ?_
      by_cases g38 : (A (48 + 17 * m) 5) = 0
      · refine E_If true rfl (zf_eq_t ⟨by omega, by omega⟩ g38) ?_
        refine E_Inc (q := 62) (ls' := [ni_aP (s), ni_aP (8), ni_aP (2), ni_aI ((i : Int) + 1), ni_aI (A (8 + 3) (i))]) (z := 1) rfl rfl rfl (fun _ _ => rfl) ?_
        refine E_Go (q := 2) rfl ?_
        exact ih (i + 1) A (by omega) _ hnum hT hPL hS hLB hP
      · refine E_If false rfl (zf_eq_f ⟨by omega, by omega⟩ g38) ?_
        refine E_Ld (q := 42) rfl rfl (fun _ _ => rfl) ?_
        refine E_Get (q := 45) (v := ni_aP (s + 7)) rfl hs hk rfl rfl (fun _ _ => rfl) ?_
        refine E_Ld (q := 46) rfl rfl (fun _ _ => rfl) ?_
        refine E_Get (q := 49) (v := ni_aP (8 + 2)) rfl (show ni_us 8 = true by decide +kernel) (show ni_kd 8 = 6 by decide +kernel) rfl rfl (fun _ _ => rfl) ?_
        refine E_Ld (q := 50) rfl rfl (fun _ _ => rfl) ?_
        refine E_Ald (q := 51) (j := i) (e := A (8 + 2) (i)) rfl (ni_o6_2 (show ni_us 8 = true by decide +kernel) (show ni_kd 8 = 6 by decide +kernel)).1 (ni_o6_2 (show ni_us 8 = true by decide +kernel) (show ni_kd 8 = 6 by decide +kernel)).2.1 (ni_o6_2 (show ni_us 8 = true by decide +kernel) (show ni_kd 8 = 6 by decide +kernel)).2.2.1 rfl (by omega) (by decide) (ni_L8 (ni_o6_2 (show ni_us 8 = true by decide +kernel) (show ni_kd 8 = 6 by decide +kernel)).1 (ni_o6_2 (show ni_us 8 = true by decide +kernel) (show ni_kd 8 = 6 by decide +kernel)).2.2.2 (by omega) (by omega)) (fun _ _ => rfl) ?_
        refine E_push (q := 52) (c := 1) (z := 1) rfl rfl ?_
        refine E_push (q := 53) (c := 1) (z := 1) rfl rfl ?_
        refine E_Ld (q := 55) rfl rfl (fun _ _ => rfl) ?_
        refine E_I (q := 56) (c := q2) rfl h2 ?_
        obtain ⟨v, A2, ⟨hv, hfr, hT2⟩, hDc⟩ := mt_enter (xs := xs) (St := St) (A := A) (t := s + 7) (x := A (8 + 2) (i)) (so := 1) (li := q2) (ni_o7_7 hs hk).1 (ni_o7_7 hs hk).2.1 hT (by omega) (by omega) (by omega)
        subst hv
        refine E_V (q := 59) (w := none) rfl rfl rfl (ni_o7_7 hs hk).1 (ni_o7_7 hs hk).2.1 rfl (Nat.le_of_ble_eq_true rfl) (fun _ _ _ => rfl) (ni_Dup hDc (by decide)) (fun _ _ => rfl) (fun _ _ => rfl) ?_
        refine E_Inc (q := 62) (ls' := [ni_aP (s), ni_aP (8), ni_aP (2), ni_aI ((i : Int) + 1), ni_aI (A (8 + 3) (i))]) (z := 1) rfl rfl rfl (fun _ _ => rfl) ?_
        refine E_Go (q := 2) rfl ?_
        refine ih (i + 1) A2 (by rw [hfr _ _ (by omega) (by omega) (by omega) (by omega)]; omega) _ (by rw [hfr _ _ (by omega) (by omega) (by omega) (by omega)]; exact hnum) hT2 (ni_PLf hPL (fun j hj i => hfr _ _ (by omega) (by omega) (by omega) (by omega))) (fun i hi => ?_) (fun l hl => ?_) (fun A3 e1 e2 => hP A3 e1 (ni_frTt hfr e2))
        · rw [hfr _ _ (by omega) (by omega) (by omega) (by omega)]
          rw [hfr _ _ (by omega) (by omega) (by omega) (by omega)] at hi
          exact hS i hi
        · have := hLB l hl
          rw [hfr _ _ (by omega) (by omega) (by omega) (by omega), hfr _ _ (by omega) (by omega) (by omega) (by omega), hfr _ _ (by omega) (by omega) (by omega) (by omega)]
          exact this
theorem mt_entS {s r : Nat} (hs : ni_us s = true) (hk : ni_kd s = 7) (hr8 : r < 8) (hse : s = 286 + 11 * r) (hnum : A s 0 = r) (hT : ni_TS A (s + 7)) (hPL : ni_PL A 8) (hS : ∀ i : Nat, (i : Int) < A 8 3 → 0 ≤ A (8 + 3) i) (hLB : ni_LB A) : ni_M xs St 2 135 [ni_aP s, ni_aP 8, ni_aP 2] A (fun v A' => v = none ∧ ni_frT A A' (s + 7) ∧ ni_TS A' (s + 7)) := by
  have hPL1 := hPL.1
  refine ni_Min (ls := [ni_aP (s), ni_aP (8), ni_aP (2), .inl ni_J, .inl ni_J]) (fun _ => Nat.le_of_ble_eq_true rfl) (fun _ _ => rfl) ?_
  refine E_push (q := 1) (c := 0) (z := 0) rfl rfl ?_
  refine E_St (q := 2) (ls' := [ni_aP (s), ni_aP (8), ni_aP (2), ni_aI (0), .inl ni_J]) rfl (fun _ _ => rfl) (fun _ _ => rfl) ?_
  exact mt_eS hs hk hr8 hse (A 8 3).toNat 0 A (by omega) _ hnum hT hPL hS hLB (fun A2 h1 h2 => ⟨rfl, h2, h1⟩)
theorem mt_eL3 {s r f na1 : Nat} {dn rd : Int} {ns1 : List Value} {P : Option ni_a → (Nat → Nat → Int) → Prop} (hs : ni_us s = true) (hk : ni_kd s = 7) (hr8 : r < 8) (hse : s = 286 + 11 * r) (hf : f < 8) (hna : St na1 = some (100, ns1)) (hnl : ns1.length ≤ 24) (hns : ∀ i : Nat, i < ns1.length → ∃ c : Int, ns1[i]? = some (ni_z c) ∧ 0 ≤ c ∧ c < 2097152 ∧ c % 32 ≤ 16) : ∀ k i : Nat, ∀ A : Nat → Nat → Int, i + k = ns1.length → ni_TS A (s + 7) → (0 ≤ A (s + 6) f ∧ A (s + 6) f < 16384) → (∀ A2 : Nat → Nat → Int, ni_TS A2 (s + 7) → ni_frT A A2 (s + 7) → ni_E xs St Z 1 133 80 [ni_aP (s), ni_aI (dn), ni_aI (rd), ni_aI ((f : Int)), ni_aL (na1), ni_aI ((ns1.length : Int))] [] A2 (ni_live A2) P) → ni_E xs St Z 1 133 47 [ni_aP (s), ni_aI (dn), ni_aI (rd), ni_aI ((f : Int)), ni_aL (na1), ni_aI ((i : Int))] [] A (ni_live A) P := by
  have h374 := (ni_usT hs).1
  intro k
  induction k with
  | zero =>
    intro i A hi hT hb hK
    refine E_Ld (q := 49) rfl rfl (fun _ _ => rfl) ?_
    refine E_Ld (q := 51) rfl rfl (fun _ _ => rfl) ?_
    refine E_LenS (q := 52) (x := (ns1.length : Int)) rfl hna rfl ?_
    refine E_Ic true rfl (zc_ge_t ⟨by omega, by omega⟩ ⟨by omega, by omega⟩ (by omega)) ?_
    rw [show i = ns1.length by omega]
    exact hK A hT ni_frTr
  | succ k ih =>
    intro i A hi hT hb hK
    refine E_Ld (q := 49) rfl rfl (fun _ _ => rfl) ?_
    refine E_Ld (q := 51) rfl rfl (fun _ _ => rfl) ?_
    refine E_LenS (q := 52) (x := (ns1.length : Int)) rfl hna rfl ?_
    refine E_Ic false rfl (zc_ge_f ⟨by omega, by omega⟩ ⟨by omega, by omega⟩ (by omega)) ?_
    refine E_Ld (q := 56) rfl rfl (fun _ _ => rfl) ?_
    refine E_Get (q := 59) (v := ni_aP (s + 7)) rfl hs hk rfl rfl (fun _ _ => rfl) ?_
    refine E_Ld (q := 61) rfl rfl (fun _ _ => rfl) ?_
    refine E_Ld (q := 63) rfl rfl (fun _ _ => rfl) ?_
    obtain ⟨c, hc, hc0⟩ := hns i (by omega)
    refine E_AldS (q := 64) (j := i) (e := c) rfl hna rfl (by omega) hc ?_
    refine E_push (q := 65) (c := 2) (z := 2) rfl rfl ?_
    refine E_Ld (q := 66) rfl rfl (fun _ _ => rfl) ?_
    refine E_Get (q := 69) (v := ni_aP (s + 6)) rfl hs hk rfl rfl (fun _ _ => rfl) ?_
    refine E_Ld (q := 70) rfl rfl (fun _ _ => rfl) ?_
    refine E_Ald (q := 71) (j := f) (e := A (s + 6) (f)) rfl (ni_o7_6 hs hk).1 (ni_o7_6 hs hk).2.1 (ni_o7_6 hs hk).2.2.1 rfl (by omega) (by decide) (ni_L9 (ni_o7_6 hs hk).1 (ni_o7_6 hs hk).2.2.2 (by omega)) (fun _ _ => rfl) ?_
    obtain ⟨v, A2, ⟨hv, hfr, hT2⟩, hDc⟩ := mt_enter (xs := xs) (St := St) (A := A) (t := s + 7) (x := c) (so := 2) (li := A (s + 6) (f)) (ni_o7_7 hs hk).1 (ni_o7_7 hs hk).2.1 hT (by omega) (by omega) (by omega)
    subst hv
    refine E_V (q := 74) (w := none) rfl rfl rfl (ni_o7_7 hs hk).1 (ni_o7_7 hs hk).2.1 rfl (Nat.le_of_ble_eq_true rfl) (fun _ _ _ => rfl) (ni_Dup hDc (by decide)) (fun _ _ => rfl) (fun _ _ => rfl) ?_
    refine E_Inc (q := 77) (ls' := [ni_aP (s), ni_aI (dn), ni_aI (rd), ni_aI ((f : Int)), ni_aL (na1), ni_aI ((i : Int) + 1)]) (z := 1) rfl rfl rfl (fun _ _ => rfl) ?_
    refine E_Go (q := 47) rfl ?_
    exact ih (i + 1) A2 (by omega) hT2 (by rw [hfr _ _ (by omega) (by omega) (by omega) (by omega)]; exact hb) (fun A3 e1 e2 => hK A3 e1 (ni_frTt hfr e2))
theorem mt_eL2 {s r : Nat} {P : Option ni_a → (Nat → Nat → Int) → Prop} (hs : ni_us s = true) (hk : ni_kd s = 7) (hr8 : r < 8) (hse : s = 286 + 11 * r) : ∀ k i : Nat, i + k = 8 → ∀ (A : Nat → Nat → Int) (dn : Int) (w3 w4 w5 : Value), ni_TS A (s + 7) → ni_RD A s r 10000 → (r : Int) < A 0 1 → ni_LK St A s → (∀ A2 : Nat → Nat → Int, ni_TS A2 (s + 7) → ni_frT A A2 (s + 7) → P none A2) → ni_E xs St Z 1 133 9 [ni_aP (s), ni_aI (dn), ni_aI ((i : Int)), .inl w3, .inl w4, .inl w5] [] A (ni_live A) P := by
  have h374 := (ni_usT hs).1
  have hct : ni_ct (s + 4) = (998, r) := by rw [hse]; exact ni_ctR r hr8
  intro k
  induction k with
  | zero =>
    intro i hi A dn w3 w4 w5 hT hRD hrc hLK hP
    refine E_Ld (q := 10) rfl rfl (fun _ _ => rfl) ?_
    refine E_push (q := 12) (c := 8) (z := 8) rfl rfl ?_
    refine E_Ic true rfl (zc_ge_t ⟨by omega, by omega⟩ ⟨by omega, by omega⟩ (by omega)) ?_
    refine E_Rv rfl rfl ?_
    exact hP A hT ni_frTr
  | succ k ih =>
    intro i hi A dn w3 w4 w5 hT hRD hrc hLK hP
    refine E_Ld (q := 10) rfl rfl (fun _ _ => rfl) ?_
    refine E_push (q := 12) (c := 8) (z := 8) rfl rfl ?_
    refine E_Ic false rfl (zc_ge_f ⟨by omega, by omega⟩ ⟨by omega, by omega⟩ (by omega)) ?_
    refine E_Ld (q := 16) rfl rfl (fun _ _ => rfl) ?_
    refine E_Ld (q := 17) rfl rfl (fun _ _ => rfl) ?_
    obtain ⟨v, A2, ⟨b, hv, hA, hb⟩, hDc⟩ := mt_near (xs := xs) (St := St) (A := A) (dn := dn) hs hk (fun o ho => by have := ni_rd0 (hRD.2 o ho) (by omega); omega)
    subst hv hA
    refine E_V (q := 20) (w := some (ni_aI (b))) rfl rfl rfl hs hk rfl (Nat.le_of_ble_eq_true rfl) (fun _ _ _ => rfl) (ni_Dup hDc (by decide)) (fun _ _ => rfl) (fun _ _ => rfl) ?_
    refine E_St (q := 21) (ls' := [ni_aP (s), ni_aI (dn), ni_aI ((i : Int)), ni_aI (b), .inl w4, .inl w5]) rfl (fun _ _ => rfl) (fun _ _ => rfl) ?_
    refine E_Ld (q := 22) rfl rfl (fun _ _ => rfl) ?_
    refine E_push (q := 23) (c := -1) (z := -1) rfl rfl ?_
    by_cases g23 : ¬ b = ((-1))
    · refine E_Ic true rfl (zc_ne_t ⟨by omega, by omega⟩ ⟨by omega, by omega⟩ g23) ?_
      obtain ⟨f, rfl⟩ := Int.eq_ofNat_of_zero_le (show 0 ≤ b by omega)
      have hf : f < 8 := by omega
      obtain ⟨o1, n1, s1, ca1, na1, cs1, ns1, hbf, _, _, _, _, _, hna, hnl, hns⟩ := (hLK f hf).2
      have hb6 := ni_rd0 (hRD.2 f hf) (by omega)
      refine E_Ld (q := 28) rfl rfl (fun _ _ => rfl) ?_
      refine E_push (q := 29) (c := 1) (z := 1) rfl rfl ?_
      refine E_Ld (q := 30) rfl rfl (fun _ _ => rfl) ?_
      obtain ⟨c1, h1, g1⟩ := zi_ex (Int32.ofInt 1 <<< (Int32.ofInt (f : Int) &&& 31))
      obtain ⟨c2, h2, g2⟩ := zi_ex (Int32.ofInt dn ||| Int32.ofInt c1)
      refine E_I (q := 31) (c := c1) rfl h1 ?_
      refine E_I (q := 32) (c := c2) rfl h2 ?_
      refine E_St (q := 33) (ls' := [ni_aP (s), ni_aI (c2), ni_aI ((i : Int)), ni_aI ((f : Int)), .inl w4, .inl w5]) rfl (fun _ _ => rfl) (fun _ _ => rfl) ?_
      refine E_Ld (q := 34) rfl rfl (fun _ _ => rfl) ?_
      refine E_Get (q := 37) (v := ni_aP (s + 4)) rfl hs hk rfl rfl (fun _ _ => rfl) ?_
      refine E_Ld (q := 38) rfl rfl (fun _ _ => rfl) ?_
      refine E_Qld (q := 39) (j := f) (v := ni_aL (A2 (s + 4) (f)).toNat) rfl (ni_o7_4 hs hk).1 (ni_o7_4 hs hk).2.1 (ni_o7_4 hs hk).2.2.1 ⟨by decide, rfl⟩ rfl (by omega) (by decide) (ni_L7 (ni_o7_4 hs hk).1 hct hrc hf) (fun _ _ => rfl) (fun _ _ => rfl) ?_
      refine E_GetS (q := 42) (v := ni_aL (na1)) rfl hbf (fun _ _ => rfl) ?_
      refine E_St (q := 44) (ls' := [ni_aP (s), ni_aI (c2), ni_aI ((i : Int)), ni_aI ((f : Int)), ni_aL (na1), .inl w5]) rfl (fun _ _ => rfl) (fun _ _ => rfl) ?_
      refine E_push (q := 45) (c := 0) (z := 0) rfl rfl ?_
      refine E_St (q := 47) (ls' := [ni_aP (s), ni_aI (c2), ni_aI ((i : Int)), ni_aI ((f : Int)), ni_aL (na1), ni_aI (0)]) rfl (fun _ _ => rfl) (fun _ _ => rfl) ?_
      refine mt_eL3 hs hk hr8 hse hf hna hnl hns ns1.length 0 _ (by omega) hT (by omega) (fun A3 g1 g3 => ?_)
      refine E_Inc (q := 83) (ls' := [ni_aP (s), ni_aI (c2), ni_aI ((i : Int) + 1), ni_aI ((f : Int)), ni_aL (na1), ni_aI ((ns1.length : Int))]) (z := 1) rfl rfl rfl (fun _ _ => rfl) ?_
      refine E_Go (q := 9) rfl ?_
      refine ih (i + 1) (by omega) A3 c2 _ _ _ g1 ⟨by rw [g3 _ _ (by omega) (by omega) (by omega) (by omega)]; exact hRD.1, fun o ho => by rw [g3 _ _ (by omega) (by omega) (by omega) (by omega), g3 _ _ (by omega) (by omega) (by omega) (by omega)]; exact hRD.2 o ho⟩ (by rw [g3 _ _ (by omega) (by omega) (by omega) (by omega)]; exact hrc) (fun o ho => ?_) (fun A4 e1 e2 => hP A4 e1 (ni_frTt g3 e2))
      rw [g3 _ _ (by omega) (by omega) (by omega) (by omega)]
      exact hLK o ho
    · refine E_Ic false rfl (zc_ne_f ⟨by omega, by omega⟩ ⟨by omega, by omega⟩ g23) ?_
      refine E_Rv rfl rfl ?_
      exact hP A2 hT ni_frTr
theorem mt_entL {s r : Nat} (hs : ni_us s = true) (hk : ni_kd s = 7) (hr8 : r < 8) (hse : s = 286 + 11 * r) (hT : ni_TS A (s + 7)) (hRD : ni_RD A s r 10000) (hrc : (r : Int) < A 0 1) (hLK : ni_LK St A s) : ni_M xs St 2 133 [ni_aP s] A (fun v A' => v = none ∧ ni_frT A A' (s + 7) ∧ ni_TS A' (s + 7)) := by
  refine ni_Min (ls := [ni_aP (s), .inl ni_J, .inl ni_J, .inl ni_J, .inl ni_J, .inl ni_J]) (fun _ => Nat.le_of_ble_eq_true rfl) (fun _ _ => rfl) ?_
  refine E_push (q := 1) (c := 1) (z := 1) rfl rfl ?_
  refine E_Ld (q := 2) rfl rfl (fun _ _ => rfl) ?_
  refine E_GetI (q := 5) (e := A (s) 0) rfl hs hk rfl rfl (fun _ _ => rfl) ?_
  obtain ⟨c0, h0, g0⟩ := zi_ex (Int32.ofInt 1 <<< (Int32.ofInt (A s 0) &&& 31))
  refine E_I (q := 6) (c := c0) rfl h0 ?_
  refine E_St (q := 7) (ls' := [ni_aP (s), ni_aI (c0), .inl ni_J, .inl ni_J, .inl ni_J, .inl ni_J]) rfl (fun _ _ => rfl) (fun _ _ => rfl) ?_
  refine E_push (q := 8) (c := 0) (z := 0) rfl rfl ?_
  refine E_St (q := 9) (ls' := [ni_aP (s), ni_aI (c0), ni_aI (0), .inl ni_J, .inl ni_J, .inl ni_J]) rfl (fun _ _ => rfl) (fun _ _ => rfl) ?_
  exact mt_eL2 hs hk hr8 hse 8 0 (by omega) A _ _ _ _ hT hRD hrc hLK (fun A2 h1 h2 => ⟨rfl, h2, h1⟩)
/-- what a router reckons anew, alone -/
def ni_frK (A A' : Nat → Nat → Int) (s : Nat) : Prop := ∀ s' j, ¬ (s' = s ∧ j = 5) → (s' < s + 5 ∨ s + 10 < s') → A' s' j = A s' j
theorem mt_reckon {s r : Nat} (hs : ni_us s = true) (hk : ni_kd s = 7) (hr8 : r < 8) (hse : s = 286 + 11 * r) (h5 : A s 5 = 0 ∨ A s 5 = 1) (hrc : (r : Int) < A 0 1) (hnum : A s 0 = r) (hLB : ni_LB A) (hLK : ni_LK St A s) (hPN : ni_PL A 4) (hPS : ni_PL A 8) (hSS : ∀ i : Nat, (i : Int) < A 8 3 → 0 ≤ A (8 + 3) i) (hRD : A s 5 = 0 → ni_RD A s r 10000) (hTS : A s 5 = 0 → ni_TS A (s + 7)) : ni_M xs St 4 139 [ni_aP s, ni_aP 2, ni_aP 4, ni_aP 8] A (fun v A' => v = none ∧ ni_frK A A' s ∧ ni_RD A' s r 10000 ∧ ni_TS A' (s + 7) ∧ A' s 5 = 0) := by
  have h374 := (ni_usT hs).1
  refine ni_Min (ls := [ni_aP (s), ni_aP (2), ni_aP (4), ni_aP (8)]) (fun _ => Nat.le_of_ble_eq_true rfl) (fun _ _ => rfl) ?_
  refine E_Ld (q := 1) rfl rfl (fun _ _ => rfl) ?_
  refine E_GetI (q := 4) (e := A (s) 5) rfl hs hk rfl rfl (fun _ _ => rfl) ?_
  by_cases g4 : ¬ (A (s) 5) = 0
  · refine E_If true rfl (zf_ne_t ⟨by omega, by omega⟩ g4) ?_
    refine E_Ld (q := 9) rfl rfl (fun _ _ => rfl) ?_
    refine E_push (q := 10) (c := 0) (z := 0) rfl rfl ?_
    refine E_Put (q := 13) rfl hs hk rfl rfl (fun _ _ _ => rfl) rfl rfl ?_
    refine E_Ld (q := 14) rfl rfl (fun _ _ => rfl) ?_
    refine E_Ld (q := 15) rfl rfl (fun _ _ => rfl) ?_
    have e1 : ∀ s' j, ¬ (s' = s ∧ j = 5) → ni_u2 A s 5 0 s' j = A s' j := fun s' j h => ni_u2n (by omega)
    obtain ⟨v, A2, ⟨hv, f2, hRD2⟩, hDc⟩ := mt_ways (xs := xs) (St := St) (A := ni_u2 A s 5 0) hs hk hr8 hse (by rw [e1 _ _ (by omega)]; exact hrc) (by rw [e1 _ _ (by omega)]; exact hnum) (fun l hl => by have := hLB l hl; rw [e1 _ _ (by omega), e1 _ _ (by omega), e1 _ _ (by omega)]; exact this) (fun o ho => by rw [e1 _ _ (by omega)]; exact hLK o ho)
    subst hv
    refine E_V (q := 18) (w := none) rfl rfl rfl hs hk rfl (Nat.le_of_ble_eq_true rfl) (fun _ _ _ => rfl) (hDc) (fun _ _ => rfl) (fun _ _ => rfl) ?_
    refine E_Ld (q := 19) rfl rfl (fun _ _ => rfl) ?_
    refine E_Get (q := 22) (v := ni_aP (s + 7)) rfl hs hk rfl rfl (fun _ _ => rfl) ?_
    refine E_push (q := 23) (c := 0) (z := 0) rfl rfl ?_
    refine E_PutC (q := 26) rfl (ni_o7_7 hs hk).1 (ni_o7_7 hs hk).2.1 rfl rfl (fun _ _ _ => rfl) (by omega) (by decide) (fun _ _ s' hs' e' => Nat.zero_le _) ?_
    refine E_Ld (q := 27) rfl rfl (fun _ _ => rfl) ?_
    refine E_Ld (q := 28) rfl rfl (fun _ _ => rfl) ?_
    have e2 : ∀ s' j, ¬ (s' = s ∧ j = 5) → s' ≠ s + 5 → s' ≠ s + 6 → ¬ (s' = s + 7 ∧ j = 3) → ni_u2 A2 (s + 7) 3 0 s' j = A s' j := fun s' j h h5 h6 h7 => by rw [ni_u2n (by omega), f2 _ _ h5 h6, e1 _ _ h]
    obtain ⟨v, A3, ⟨hv, f3, hT3⟩, hDc⟩ := mt_entN (xs := xs) (St := St) (A := ni_u2 A2 (s + 7) 3 0) hs hk hr8 hse (by rw [e2 _ _ (by omega) (by omega) (by omega) (by omega)]; exact hnum) ⟨⟨by rw [ni_u2e]; omega, fun i hi => by rw [ni_u2e] at hi; omega⟩, fun i hi => by rw [ni_u2e] at hi; omega⟩ (ni_PLf hPN (fun j hj i => e2 _ _ (by omega) (by omega) (by omega) (by omega)))
    subst hv
    refine E_V (q := 31) (w := none) rfl rfl rfl hs hk rfl (Nat.le_of_ble_eq_true rfl) (fun _ _ _ => rfl) (ni_Dup hDc (by decide)) (fun _ _ => rfl) (fun _ _ => rfl) ?_
    refine E_Ld (q := 32) rfl rfl (fun _ _ => rfl) ?_
    refine E_Ld (q := 33) rfl rfl (fun _ _ => rfl) ?_
    refine E_Ld (q := 34) rfl rfl (fun _ _ => rfl) ?_
    have e3 : ∀ s' j, ¬ (s' = s ∧ j = 5) → s' ≠ s + 5 → s' ≠ s + 6 → s' ≠ s + 7 → s' ≠ s + 8 → s' ≠ s + 9 → s' ≠ s + 10 → A3 s' j = A s' j := fun s' j h h5 h6 h7 h8 h9 h10 => by rw [f3 _ _ (by omega) (by omega) (by omega) (by omega), e2 _ _ h h5 h6 (by omega)]
    obtain ⟨v, A4, ⟨hv, f4, hT4⟩, hDc⟩ := mt_entS (xs := xs) (St := St) (A := A3) hs hk hr8 hse (by rw [e3 _ _ (by omega) (by omega) (by omega) (by omega) (by omega) (by omega) (by omega)]; exact hnum) hT3 (ni_PLf hPS (fun j hj i => e3 _ _ (by omega) (by omega) (by omega) (by omega) (by omega) (by omega) (by omega))) (fun i hi => by
      rw [e3 _ _ (by omega) (by omega) (by omega) (by omega) (by omega) (by omega) (by omega)]
      rw [e3 _ _ (by omega) (by omega) (by omega) (by omega) (by omega) (by omega) (by omega)] at hi
      exact hSS i hi) (fun l hl => by
      have := hLB l hl
      rw [e3 _ _ (by omega) (by omega) (by omega) (by omega) (by omega) (by omega) (by omega), e3 _ _ (by omega) (by omega) (by omega) (by omega) (by omega) (by omega) (by omega), e3 _ _ (by omega) (by omega) (by omega) (by omega) (by omega) (by omega) (by omega)]
      exact this)
    subst hv
    refine E_V (q := 37) (w := none) rfl rfl rfl hs hk rfl (Nat.le_of_ble_eq_true rfl) (fun _ _ _ => rfl) (ni_Dup hDc (by decide)) (fun _ _ => rfl) (fun _ _ => rfl) ?_
    refine E_Ld (q := 38) rfl rfl (fun _ _ => rfl) ?_
    have e4 : ∀ s' j, ¬ (s' = s ∧ j = 5) → s' ≠ s + 5 → s' ≠ s + 6 → s' ≠ s + 7 → s' ≠ s + 8 → s' ≠ s + 9 → s' ≠ s + 10 → A4 s' j = A s' j := fun s' j h h5 h6 h7 h8 h9 h10 => by rw [f4 _ _ (by omega) (by omega) (by omega) (by omega), e3 _ _ h h5 h6 h7 h8 h9 h10]
    have e5 : ∀ s' j, s' ≠ s + 7 → s' ≠ s + 8 → s' ≠ s + 9 → s' ≠ s + 10 → A4 s' j = A2 s' j := fun s' j h7 h8 h9 h10 => by rw [f4 _ _ (by omega) (by omega) (by omega) (by omega), f3 _ _ (by omega) (by omega) (by omega) (by omega), ni_u2n (by omega)]
    have hRD4 : ni_RD A4 s r 10000 := ⟨by rw [e5 _ _ (by omega) (by omega) (by omega) (by omega)]; exact hRD2.1, fun o ho => by rw [e5 _ _ (by omega) (by omega) (by omega) (by omega), e5 _ _ (by omega) (by omega) (by omega) (by omega)]; exact hRD2.2 o ho⟩
    obtain ⟨v, A5, ⟨hv, f5, hT5⟩, hDc⟩ := mt_entL (xs := xs) (St := St) (A := A4) hs hk hr8 hse hT4 hRD4 (by rw [e4 _ _ (by omega) (by omega) (by omega) (by omega) (by omega) (by omega) (by omega)]; exact hrc) (fun o ho => by rw [e4 _ _ (by omega) (by omega) (by omega) (by omega) (by omega) (by omega) (by omega)]; exact hLK o ho)
    have hRD5 : ni_RD A5 s r 10000 := ⟨by rw [f5 _ _ (by omega) (by omega) (by omega) (by omega)]; exact hRD4.1, fun o ho => by rw [f5 _ _ (by omega) (by omega) (by omega) (by omega), f5 _ _ (by omega) (by omega) (by omega) (by omega)]; exact hRD4.2 o ho⟩
    subst hv
    refine E_V (q := 41) (w := none) rfl rfl rfl hs hk rfl (Nat.le_of_ble_eq_true rfl) (fun _ _ _ => rfl) (ni_Dup hDc (by decide)) (fun _ _ => rfl) (fun _ _ => rfl) ?_
    refine E_Rv rfl rfl ?_
    exact ⟨rfl, fun s' j q1 q2 => by rw [f5 _ _ (by omega) (by omega) (by omega) (by omega), f4 _ _ (by omega) (by omega) (by omega) (by omega), f3 _ _ (by omega) (by omega) (by omega) (by omega), ni_u2n (by omega), f2 _ _ (by omega) (by omega), ni_u2n (by omega)], hRD5, hT5, by rw [f5 _ _ (by omega) (by omega) (by omega) (by omega), f4 _ _ (by omega) (by omega) (by omega) (by omega), f3 _ _ (by omega) (by omega) (by omega) (by omega), ni_u2n (by omega), f2 _ _ (by omega) (by omega), ni_u2e]⟩
  · refine E_If false rfl (zf_ne_f ⟨by omega, by omega⟩ g4) ?_
    refine E_Rv rfl rfl ?_
    exact ⟨rfl, fun _ _ _ _ => rfl, hRD (by omega), hTS (by omega), by omega⟩
end NRM
