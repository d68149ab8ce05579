/-! A TICK: PACKETS, FLOWS -/
section NTJ
variable {Z : (Nat → Nat) → Prop} {xs : List Int32} {St : Nat → Option ni_C} {A : Nat → Nat → Int}
theorem nq_PIe {p : Nat} {lo e e' : Int} (h : nq_PI A p lo e) (he : e ≤ e') : nq_PI A p lo e' := by
  obtain ⟨a1, a2, a3, a4, a5, a6⟩ := h
  exact ⟨a1, a2, a3, a4, ⟨a5.1, by omega⟩, a6⟩
theorem nq_loC {i : Nat} {n : Int} {e : Int} {dl : Nat → Int} (hn : (i : Int) = n) (h : nq_NI A e (fun q => if q < 48 + 17 * i then 1 else 0) dl) : nq_NI A e (fun q => if (q : Int) < 48 + 17 * n then 1 else 0) dl := nq_NIlo h (fun q hq => by
  have := h.2.2.2.2.1 q hq
  dsimp only at this ⊢
  by_cases g : q < 48 + 17 * i
  · rw [if_pos g] at this
    rw [if_pos (by omega)]
    exact this
  · rw [if_neg g] at this
    rw [if_neg (by omega)]
    exact this)
theorem mt_tk2 {n : Int} {P : Option ni_a → (Nat → Nat → Int) → Prop} : ∀ k i : Nat, ∀ (A : Nat → Nat → Int) (e : Int), ((i : Int) + k = n) → A 0 2 = n → nq_NI A e (fun q => if q < 48 + 17 * i then 1 else 0) (fun _ => 0) → nq_C A → nq_LE A → (n ≤ 14 ∧ e + 4 * k ≤ 800000) → (∀ A2 : Nat → Nat → Int, ni_cs0 A A2 → nq_frP A A2 → nq_NI A2 (e + 4 * k) (fun q => if (q : Int) < 48 + 17 * n then 1 else 0) (fun _ => 0) → ni_E xs St Z 6 96 148 [ni_aP (0), ni_aI (n)] [] A2 (ni_live A2) P) → ni_E xs St Z 6 96 70 [ni_aP (0), ni_aI ((i : Int))] [] A (ni_live A) P := by
  intro k
  induction k with
  | zero =>
    intro i A e hi hn hN hC hLE he hK
    have hNi := nq_loC (n := n) (by omega) hN
    refine E_Ld (q := 71) rfl rfl (fun _ _ => rfl) ?_
    refine E_Ld (q := 72) rfl rfl (fun _ _ => rfl) ?_
    refine E_GetI (q := 75) (e := A (0) 2) rfl (show ni_us 0 = true by decide +kernel) (show ni_kd 0 = 4 by decide +kernel) rfl rfl (fun _ _ => rfl) ?_
    refine E_Ic true rfl (zc_ge_t ⟨by omega, by omega⟩ ⟨by omega, by omega⟩ (by omega)) ?_
    rw [show (i : Int) = n by omega]
    exact hK A nq_csR nq_frPr (nq_NIm hNi (by omega) (fun _ _ => rfl))
  | succ k ih =>
    intro i A e hi hn hN hC hLE he hK
    have hi14 : i < 14 := by omega
    have hB := hC.1 i hi14
    obtain ⟨a, ha⟩ := Int.eq_ofNat_of_zero_le hB.1.1
    obtain ⟨b, hb⟩ := Int.eq_ofNat_of_zero_le hB.2.1.1
    have hE := hLE i hi14 (by omega)
    have ha8 : a < 8 := by omega
    have hb8 : b < 8 := by omega
    have hac : (a : Int) < A 0 1 := by omega
    have hbc : (b : Int) < A 0 1 := by omega
    refine E_Ld (q := 71) rfl rfl (fun _ _ => rfl) ?_
    refine E_Ld (q := 72) rfl rfl (fun _ _ => rfl) ?_
    refine E_GetI (q := 75) (e := A (0) 2) rfl (show ni_us 0 = true by decide +kernel) (show ni_kd 0 = 4 by decide +kernel) rfl rfl (fun _ _ => rfl) ?_
    refine E_Ic false rfl (zc_ge_f ⟨by omega, by omega⟩ ⟨by omega, by omega⟩ (by omega)) ?_
    refine E_Ld (q := 79) rfl rfl (fun _ _ => rfl) ?_
    refine E_Ld (q := 80) rfl rfl (fun _ _ => rfl) ?_
    refine E_Get (q := 83) (v := ni_aP 2) rfl (show ni_us 0 = true by decide +kernel) (show ni_kd 0 = 4 by decide +kernel) rfl rfl (fun _ _ => rfl) ?_
    refine E_Ld (q := 84) rfl rfl (fun _ _ => rfl) ?_
    refine E_Qld (q := 85) (j := i) (v := ni_aP (48 + 17 * i)) rfl (show ni_us 2 = true by decide +kernel) (show ni_kd 2 = 102 by decide +kernel) (show ni_ln 2 = 14 by decide +kernel) ⟨by decide, rfl⟩ rfl (by omega) (by decide) (ni_L9 (show ni_us 2 = true by decide +kernel) (by decide +kernel) (by omega)) (fun _ _ => rfl) (fun _ _ => rfl) ?_
    refine E_GetI (q := 88) (e := A (48 + 17 * i) 1) rfl (ni_liS i hi14).1 (ni_liS i hi14).2 rfl rfl (fun _ _ => rfl) ?_
    rw [hb]
    refine E_Ld (q := 89) rfl rfl (fun _ _ => rfl) ?_
    refine E_Get (q := 92) (v := ni_aP 2) rfl (show ni_us 0 = true by decide +kernel) (show ni_kd 0 = 4 by decide +kernel) rfl rfl (fun _ _ => rfl) ?_
    refine E_Ld (q := 93) rfl rfl (fun _ _ => rfl) ?_
    refine E_Qld (q := 94) (j := i) (v := ni_aP (48 + 17 * i)) rfl (show ni_us 2 = true by decide +kernel) (show ni_kd 2 = 102 by decide +kernel) (show ni_ln 2 = 14 by decide +kernel) ⟨by decide, rfl⟩ rfl (by omega) (by decide) (ni_L9 (show ni_us 2 = true by decide +kernel) (by decide +kernel) (by omega)) (fun _ _ => rfl) (fun _ _ => rfl) ?_
    refine E_Get (q := 97) (v := ni_aP (48 + 17 * i + 1)) rfl (ni_liS i hi14).1 (ni_liS i hi14).2 rfl rfl (fun _ _ => rfl) ?_
    refine E_Get (q := 100) (v := ni_aP (48 + 17 * i + 1 + 1)) rfl (ni_o3_1 (ni_liS i hi14).1 (ni_liS i hi14).2).1 (ni_o3_1 (ni_liS i hi14).1 (ni_liS i hi14).2).2.1 rfl rfl (fun _ _ => rfl) ?_
    refine E_Ld (q := 101) rfl rfl (fun _ _ => rfl) ?_
    refine E_GetI (q := 104) (e := A (0) 0) rfl (show ni_us 0 = true by decide +kernel) (show ni_kd 0 = 4 by decide +kernel) rfl rfl (fun _ _ => rfl) ?_
    obtain ⟨x1, B1, hDt1, hx1, hc1, hf1, hN1⟩ := mt_takeM (xs := xs) (St := St) (lo' := (fun q => if q = 48 + 17 * i + 1 then 1 else if q < 48 + 17 * i then 1 else 0)) (p := 48 + 17 * i + 1) hN (by unfold ni_po; omega) (if_neg (by omega)) (fun q => rfl)
    have hC1 := nq_Cf hC hc1 hf1
    refine E_V (q := 107) (w := some (ni_aI (x1))) rfl rfl rfl (ni_o5_1 (ni_o3_1 (ni_liS i hi14).1 (ni_liS i hi14).2).1 (ni_o3_1 (ni_liS i hi14).1 (ni_liS i hi14).2).2.1).1 (ni_o5_1 (ni_o3_1 (ni_liS i hi14).1 (ni_liS i hi14).2).1 (ni_o3_1 (ni_liS i hi14).1 (ni_liS i hi14).2).2.1).2.1 rfl (Nat.le_of_ble_eq_true rfl) (fun _ _ _ => rfl) (ni_Dup hDt1 (by decide)) (fun _ _ => rfl) (fun _ _ => rfl) ?_
    obtain ⟨v1, A2, ⟨hv1, hcd1, hfd1, hND1⟩, hDd1⟩ := mt_dealM (xs := xs) (St := St) (r := b) (dl' := fun _ => 0) hb8 (hC1.2.2.2 b hb8 (by rw [hc1.2.1]; exact hbc)) hC1.1 hC1.2.1 hN1 (by omega) hx1 (fun f hf => by omega)
    subst hv1
    have hCD1 := nq_Cf hC1 hcd1 hfd1
    have hcT1 := nq_csT hc1 hcd1
    have hfT1 := nq_frPt hf1 hc1 hfd1
    refine E_V (q := 110) (w := none) rfl rfl rfl (show ni_us 0 = true by decide +kernel) (show ni_kd 0 = 4 by decide +kernel) rfl (Nat.le_of_ble_eq_true rfl) (fun _ _ _ => rfl) (ni_Dup hDd1 (by decide)) (fun _ _ => rfl) (fun _ _ => rfl) ?_
    refine E_Ld (q := 111) rfl rfl (fun _ _ => rfl) ?_
    refine E_Ld (q := 112) rfl rfl (fun _ _ => rfl) ?_
    refine E_Get (q := 115) (v := ni_aP 2) rfl (show ni_us 0 = true by decide +kernel) (show ni_kd 0 = 4 by decide +kernel) rfl rfl (fun _ _ => rfl) ?_
    refine E_Ld (q := 116) rfl rfl (fun _ _ => rfl) ?_
    refine E_Qld (q := 117) (j := i) (v := ni_aP (48 + 17 * i)) rfl (show ni_us 2 = true by decide +kernel) (show ni_kd 2 = 102 by decide +kernel) (show ni_ln 2 = 14 by decide +kernel) ⟨by decide, rfl⟩ rfl (by omega) (by decide) (ni_L9 (show ni_us 2 = true by decide +kernel) (by decide +kernel) (by omega)) (fun _ _ => rfl) (fun _ _ => rfl) ?_
    refine E_GetI (q := 120) (e := A2 (48 + 17 * i) 0) rfl (ni_liS i hi14).1 (ni_liS i hi14).2 rfl rfl (fun _ _ => rfl) ?_
    rw [show A2 (48 + 17 * i) 0 = (a : Int) by rw [hcT1.2.2.2.2.2 i hi14]; exact ha]
    refine E_Ld (q := 121) rfl rfl (fun _ _ => rfl) ?_
    refine E_Get (q := 124) (v := ni_aP 2) rfl (show ni_us 0 = true by decide +kernel) (show ni_kd 0 = 4 by decide +kernel) rfl rfl (fun _ _ => rfl) ?_
    refine E_Ld (q := 125) rfl rfl (fun _ _ => rfl) ?_
    refine E_Qld (q := 126) (j := i) (v := ni_aP (48 + 17 * i)) rfl (show ni_us 2 = true by decide +kernel) (show ni_kd 2 = 102 by decide +kernel) (show ni_ln 2 = 14 by decide +kernel) ⟨by decide, rfl⟩ rfl (by omega) (by decide) (ni_L9 (show ni_us 2 = true by decide +kernel) (by decide +kernel) (by omega)) (fun _ _ => rfl) (fun _ _ => rfl) ?_
    refine E_Get (q := 129) (v := ni_aP (48 + 17 * i + 9)) rfl (ni_liS i hi14).1 (ni_liS i hi14).2 rfl rfl (fun _ _ => rfl) ?_
    refine E_Get (q := 132) (v := ni_aP (48 + 17 * i + 9 + 1)) rfl (ni_o3_9 (ni_liS i hi14).1 (ni_liS i hi14).2).1 (ni_o3_9 (ni_liS i hi14).1 (ni_liS i hi14).2).2.1 rfl rfl (fun _ _ => rfl) ?_
    refine E_Ld (q := 133) rfl rfl (fun _ _ => rfl) ?_
    refine E_GetI (q := 136) (e := A2 (0) 0) rfl (show ni_us 0 = true by decide +kernel) (show ni_kd 0 = 4 by decide +kernel) rfl rfl (fun _ _ => rfl) ?_
    obtain ⟨x2, B2, hDt2, hx2, hc2, hf2, hN2⟩ := mt_takeM (xs := xs) (St := St) (lo' := (fun q => if q = 48 + 17 * i + 9 then 1 else if q = 48 + 17 * i + 1 then 1 else if q < 48 + 17 * i then 1 else 0)) (p := 48 + 17 * i + 9) hND1 (by unfold ni_po; omega) (by rw [if_neg (by omega), if_neg (by omega)]) (fun q => rfl)
    have hC2 := nq_Cf hCD1 hc2 hf2
    refine E_V (q := 139) (w := some (ni_aI (x2))) rfl rfl rfl (ni_o5_1 (ni_o3_9 (ni_liS i hi14).1 (ni_liS i hi14).2).1 (ni_o3_9 (ni_liS i hi14).1 (ni_liS i hi14).2).2.1).1 (ni_o5_1 (ni_o3_9 (ni_liS i hi14).1 (ni_liS i hi14).2).1 (ni_o3_9 (ni_liS i hi14).1 (ni_liS i hi14).2).2.1).2.1 rfl (Nat.le_of_ble_eq_true rfl) (fun _ _ _ => rfl) (ni_Dup hDt2 (by decide)) (fun _ _ => rfl) (fun _ _ => rfl) ?_
    obtain ⟨v2, A3, ⟨hv2, hcd2, hfd2, hND2⟩, hDd2⟩ := mt_dealM (xs := xs) (St := St) (r := a) (dl' := fun _ => 0) ha8 (hC2.2.2.2 a ha8 (by rw [hc2.2.1, hcT1.2.1]; exact hac)) hC2.1 hC2.2.1 hN2 (by omega) hx2 (fun f hf => by omega)
    subst hv2
    have hCD2 := nq_Cf hC2 hcd2 hfd2
    have hcT2 := nq_csT hcT1 (nq_csT hc2 hcd2)
    have hfT2 := nq_frPt hfT1 hcT1 (nq_frPt hf2 hc2 hfd2)
    refine E_V (q := 142) (w := none) rfl rfl rfl (show ni_us 0 = true by decide +kernel) (show ni_kd 0 = 4 by decide +kernel) rfl (Nat.le_of_ble_eq_true rfl) (fun _ _ _ => rfl) (ni_Dup hDd2 (by decide)) (fun _ _ => rfl) (fun _ _ => rfl) ?_
    refine E_Inc (q := 145) (ls' := [ni_aP (0), ni_aI ((i : Int) + 1)]) (z := 1) rfl rfl rfl (fun _ _ => rfl) ?_
    refine E_Go (q := 70) rfl ?_
    refine ih (i + 1) A3 (e + 4) (by omega) (by rw [hcT2.2.2.1]; exact hn) (nq_NIlo (nq_NIm hND2 (by omega) (fun _ _ => rfl)) (fun q hq => ?_)) hCD2 (fun l hl hl2 => ?_) (by omega) (fun A4 e1 e2 e3 => hK A4 (nq_csT hcT2 e1) (nq_frPt hfT2 hcT2 e2) (by rw [show e + 4 * ((k + 1 : Nat) : Int) = e + 4 + 4 * (k : Int) by omega]; exact e3))
    · have := hND2.2.2.2.2.1 q hq
      dsimp only at this
      unfold ni_po at hq
      by_cases g : q < 48 + 17 * (i + 1)
      · rw [if_pos g]
        by_cases g9 : q = 48 + 17 * i + 9
        · rw [if_pos g9] at this
          exact nq_PIe this (by omega)
        · rw [if_neg g9] at this
          by_cases g1 : q = 48 + 17 * i + 1
          · rw [if_pos g1] at this
            exact nq_PIe this (by omega)
          · rw [if_neg g1, if_pos (by omega)] at this
            exact nq_PIe this (by omega)
      · rw [if_neg g]
        rw [if_neg (by omega), if_neg (by omega), if_neg (by omega)] at this
        exact nq_PIe this (by omega)
    · rw [hcT2.2.2.1] at hl2
      rw [hcT2.2.2.2.2.2 l hl, hcT2.2.2.2.2.2 l hl, hcT2.2.1]
      exact hLE l hl hl2
theorem mt_tk3 {n : Int} {lo : Nat → Int} {P : Option ni_a → (Nat → Nat → Int) → Prop} : ∀ k i : Nat, ∀ (A : Nat → Nat → Int) (e : Int), ((i : Int) + k = n) → A 0 3 = n → nq_NI A e lo (fun _ => 0) → nq_C A → (e + 23 * k ≤ 700000) → (∀ A2 : Nat → Nat → Int, ni_cs0 A A2 → nq_frP A A2 → nq_NI A2 (e + 23 * k) lo (fun _ => 0) → ni_E xs St Z 6 96 169 [ni_aP (0), ni_aI (n)] [] A2 (ni_live A2) P) → ni_E xs St Z 6 96 150 [ni_aP (0), ni_aI ((i : Int))] [] A (ni_live A) P := by
  intro k
  induction k with
  | zero =>
    intro i A e hi hn hN hC he hK
    have h12 := hN.1
    refine E_Ld (q := 151) rfl rfl (fun _ _ => rfl) ?_
    refine E_Ld (q := 152) rfl rfl (fun _ _ => rfl) ?_
    refine E_GetI (q := 155) (e := A (0) 3) rfl (show ni_us 0 = true by decide +kernel) (show ni_kd 0 = 4 by decide +kernel) rfl rfl (fun _ _ => rfl) ?_
    refine E_Ic true rfl (zc_ge_t ⟨by omega, by omega⟩ ⟨by omega, by omega⟩ (by omega)) ?_
    rw [show (i : Int) = n by omega]
    exact hK A nq_csR nq_frPr (nq_NIm hN (by omega) (fun _ _ => rfl))
  | succ k ih =>
    intro i A e hi hn hN hC he hK
    have h12 := hN.1
    refine E_Ld (q := 151) rfl rfl (fun _ _ => rfl) ?_
    refine E_Ld (q := 152) rfl rfl (fun _ _ => rfl) ?_
    refine E_GetI (q := 155) (e := A (0) 3) rfl (show ni_us 0 = true by decide +kernel) (show ni_kd 0 = 4 by decide +kernel) rfl rfl (fun _ _ => rfl) ?_
    refine E_Ic false rfl (zc_ge_f ⟨by omega, by omega⟩ ⟨by omega, by omega⟩ (by omega)) ?_
    refine E_Ld (q := 159) rfl rfl (fun _ _ => rfl) ?_
    refine E_Ld (q := 160) rfl rfl (fun _ _ => rfl) ?_
    obtain ⟨v1, A2, ⟨hv1, hc1, hf1, hN1⟩, hD1⟩ := mt_runF (xs := xs) (St := St) (f := i) (by omega) (by omega) hN hC (by omega)
    subst hv1
    refine E_V (q := 163) (w := none) rfl rfl rfl (show ni_us 0 = true by decide +kernel) (show ni_kd 0 = 4 by decide +kernel) rfl (Nat.le_of_ble_eq_true rfl) (fun _ _ _ => rfl) (hD1) (fun _ _ => rfl) (fun _ _ => rfl) ?_
    refine E_Inc (q := 166) (ls' := [ni_aP (0), ni_aI ((i : Int) + 1)]) (z := 1) rfl rfl rfl (fun _ _ => rfl) ?_
    refine E_Go (q := 150) rfl ?_
    exact ih (i + 1) A2 (e + 23) (by omega) (by rw [hc1.2.2.2.1]; exact hn) hN1 (nq_Cf hC hc1 hf1) (by omega) (fun A4 e1 e2 e3 => hK A4 (nq_csT hc1 e1) (nq_frPt hf1 hc1 e2) (by rw [show e + 23 * ((k + 1 : Nat) : Int) = e + 23 + 23 * (k : Int) by omega]; exact e3))
theorem nq_loD {i : Nat} {n : Int} {e : Int} {dl : Nat → Int} (hn : (i : Int) = n) (h : nq_NI A e (fun q => if q < 48 + 17 * i then 2 else 1) dl) : nq_NI A e (fun q => if (q : Int) < 48 + 17 * n then 2 else 1) dl := nq_NIlo h (fun q hq => by
  have := h.2.2.2.2.1 q hq
  dsimp only at this ⊢
  by_cases g : q < 48 + 17 * i
  · rw [if_pos g] at this
    rw [if_pos (by omega)]
    exact this
  · rw [if_neg g] at this
    rw [if_neg (by omega)]
    exact this)
theorem mt_tk5 {n e : Int} {P : Option ni_a → (Nat → Nat → Int) → Prop} : ∀ k i : Nat, ∀ (A : Nat → Nat → Int), ((i : Int) + k = n) → A 0 2 = n → nq_NI A e (fun q => if q < 48 + 17 * i then 2 else 1) (fun _ => 0) → ni_LV A → nq_LD A → n ≤ 14 → (∀ A2 : Nat → Nat → Int, ni_cs0 A A2 → nq_frP A A2 → nq_NI A2 e (fun q => if (q : Int) < 48 + 17 * n then 2 else 1) (fun _ => 0) → ni_E xs St Z 6 96 292 [ni_aP (0), ni_aI (n)] [] A2 (ni_live A2) P) → ni_E xs St Z 6 96 208 [ni_aP (0), ni_aI ((i : Int))] [] A (ni_live A) P := by
  intro k
  induction k with
  | zero =>
    intro i A hi hn hN hLV hLD h14 hK
    have hNi := nq_loD (n := n) (by omega) hN
    refine E_Ld (q := 209) rfl rfl (fun _ _ => rfl) ?_
    refine E_Ld (q := 210) rfl rfl (fun _ _ => rfl) ?_
    refine E_GetI (q := 213) (e := A (0) 2) rfl (show ni_us 0 = true by decide +kernel) (show ni_kd 0 = 4 by decide +kernel) rfl rfl (fun _ _ => rfl) ?_
    refine E_Ic true rfl (zc_ge_t ⟨by omega, by omega⟩ ⟨by omega, by omega⟩ (by omega)) ?_
    rw [show (i : Int) = n by omega]
    exact hK A nq_csR nq_frPr hNi
  | succ k ih =>
    intro i A hi hn hN hLV hLD h14 hK
    have hi14 : i < 14 := by omega
    have hV := hLV i hi14
    have hd1 := hLD i hi14
    refine E_Ld (q := 209) rfl rfl (fun _ _ => rfl) ?_
    refine E_Ld (q := 210) rfl rfl (fun _ _ => rfl) ?_
    refine E_GetI (q := 213) (e := A (0) 2) rfl (show ni_us 0 = true by decide +kernel) (show ni_kd 0 = 4 by decide +kernel) rfl rfl (fun _ _ => rfl) ?_
    refine E_Ic false rfl (zc_ge_f ⟨by omega, by omega⟩ ⟨by omega, by omega⟩ (by omega)) ?_
    refine E_Ld (q := 217) rfl rfl (fun _ _ => rfl) ?_
    refine E_Get (q := 220) (v := ni_aP 2) rfl (show ni_us 0 = true by decide +kernel) (show ni_kd 0 = 4 by decide +kernel) rfl rfl (fun _ _ => rfl) ?_
    refine E_Ld (q := 221) rfl rfl (fun _ _ => rfl) ?_
    refine E_Qld (q := 222) (j := i) (v := ni_aP (48 + 17 * i)) rfl (show ni_us 2 = true by decide +kernel) (show ni_kd 2 = 102 by decide +kernel) (show ni_ln 2 = 14 by decide +kernel) ⟨by decide, rfl⟩ rfl (by omega) (by decide) (ni_L9 (show ni_us 2 = true by decide +kernel) (by decide +kernel) (by omega)) (fun _ _ => rfl) (fun _ _ => rfl) ?_
    refine E_Get (q := 225) (v := ni_aP (48 + 17 * i + 1)) rfl (ni_liS i hi14).1 (ni_liS i hi14).2 rfl rfl (fun _ _ => rfl) ?_
    refine E_Ld (q := 226) rfl rfl (fun _ _ => rfl) ?_
    refine E_Get (q := 229) (v := ni_aP 2) rfl (show ni_us 0 = true by decide +kernel) (show ni_kd 0 = 4 by decide +kernel) rfl rfl (fun _ _ => rfl) ?_
    refine E_Ld (q := 230) rfl rfl (fun _ _ => rfl) ?_
    refine E_Qld (q := 231) (j := i) (v := ni_aP (48 + 17 * i)) rfl (show ni_us 2 = true by decide +kernel) (show ni_kd 2 = 102 by decide +kernel) (show ni_ln 2 = 14 by decide +kernel) ⟨by decide, rfl⟩ rfl (by omega) (by decide) (ni_L9 (show ni_us 2 = true by decide +kernel) (by decide +kernel) (by omega)) (fun _ _ => rfl) (fun _ _ => rfl) ?_
    refine E_GetI (q := 234) (e := A (48 + 17 * i) 3) rfl (ni_liS i hi14).1 (ni_liS i hi14).2 rfl rfl (fun _ _ => rfl) ?_
    refine E_Ld (q := 235) rfl rfl (fun _ _ => rfl) ?_
    refine E_GetI (q := 238) (e := A (0) 0) rfl (show ni_us 0 = true by decide +kernel) (show ni_kd 0 = 4 by decide +kernel) rfl rfl (fun _ _ => rfl) ?_
    refine E_Ld (q := 239) rfl rfl (fun _ _ => rfl) ?_
    refine E_Get (q := 242) (v := ni_aP 2) rfl (show ni_us 0 = true by decide +kernel) (show ni_kd 0 = 4 by decide +kernel) rfl rfl (fun _ _ => rfl) ?_
    refine E_Ld (q := 243) rfl rfl (fun _ _ => rfl) ?_
    refine E_Qld (q := 244) (j := i) (v := ni_aP (48 + 17 * i)) rfl (show ni_us 2 = true by decide +kernel) (show ni_kd 2 = 102 by decide +kernel) (show ni_ln 2 = 14 by decide +kernel) ⟨by decide, rfl⟩ rfl (by omega) (by decide) (ni_L9 (show ni_us 2 = true by decide +kernel) (by decide +kernel) (by omega)) (fun _ _ => rfl) (fun _ _ => rfl) ?_
    refine E_GetI (q := 247) (e := A (48 + 17 * i) 4) rfl (ni_liS i hi14).1 (ni_liS i hi14).2 rfl rfl (fun _ _ => rfl) ?_
    refine E_add (q := 248) rfl ?_
    have hli1 : ni_li (48 + 17 * i + 1) = 48 + 17 * i := by unfold ni_li; omega
    obtain ⟨v1, A2, ⟨hv1, hc1, hf1, hN1⟩, hD1⟩ := mt_sendM (xs := xs) (St := St) (A := A) (lo' := fun q => if q = 48 + 17 * i + 1 then 2 else if q < 48 + 17 * i then 2 else 1) (r := A (48 + 17 * i) 3) (p := 48 + 17 * i + 1) hN (by unfold ni_po; omega) (by rw [if_neg (by omega)]) (fun q => rfl) (by omega) (by rw [hli1]; omega) (by rw [hli1]; exact hd1)
    subst hv1
    rw [hli1] at hD1
    refine E_V (q := 251) (w := none) rfl rfl rfl (ni_o3_1 (ni_liS i hi14).1 (ni_liS i hi14).2).1 (ni_o3_1 (ni_liS i hi14).1 (ni_liS i hi14).2).2.1 rfl (Nat.le_of_ble_eq_true rfl) (fun _ _ _ => rfl) (hD1) (fun _ _ => rfl) (fun _ _ => rfl) ?_
    refine E_Ld (q := 252) rfl rfl (fun _ _ => rfl) ?_
    refine E_Get (q := 255) (v := ni_aP 2) rfl (show ni_us 0 = true by decide +kernel) (show ni_kd 0 = 4 by decide +kernel) rfl rfl (fun _ _ => rfl) ?_
    refine E_Ld (q := 256) rfl rfl (fun _ _ => rfl) ?_
    refine E_Qld (q := 257) (j := i) (v := ni_aP (48 + 17 * i)) rfl (show ni_us 2 = true by decide +kernel) (show ni_kd 2 = 102 by decide +kernel) (show ni_ln 2 = 14 by decide +kernel) ⟨by decide, rfl⟩ rfl (by omega) (by decide) (ni_L9 (show ni_us 2 = true by decide +kernel) (by decide +kernel) (by omega)) (fun _ _ => rfl) (fun _ _ => rfl) ?_
    refine E_Get (q := 260) (v := ni_aP (48 + 17 * i + 9)) rfl (ni_liS i hi14).1 (ni_liS i hi14).2 rfl rfl (fun _ _ => rfl) ?_
    refine E_Ld (q := 261) rfl rfl (fun _ _ => rfl) ?_
    refine E_Get (q := 264) (v := ni_aP 2) rfl (show ni_us 0 = true by decide +kernel) (show ni_kd 0 = 4 by decide +kernel) rfl rfl (fun _ _ => rfl) ?_
    refine E_Ld (q := 265) rfl rfl (fun _ _ => rfl) ?_
    refine E_Qld (q := 266) (j := i) (v := ni_aP (48 + 17 * i)) rfl (show ni_us 2 = true by decide +kernel) (show ni_kd 2 = 102 by decide +kernel) (show ni_ln 2 = 14 by decide +kernel) ⟨by decide, rfl⟩ rfl (by omega) (by decide) (ni_L9 (show ni_us 2 = true by decide +kernel) (by decide +kernel) (by omega)) (fun _ _ => rfl) (fun _ _ => rfl) ?_
    refine E_GetI (q := 269) (e := A2 (48 + 17 * i) 3) rfl (ni_liS i hi14).1 (ni_liS i hi14).2 rfl rfl (fun _ _ => rfl) ?_
    refine E_Ld (q := 270) rfl rfl (fun _ _ => rfl) ?_
    refine E_GetI (q := 273) (e := A2 (0) 0) rfl (show ni_us 0 = true by decide +kernel) (show ni_kd 0 = 4 by decide +kernel) rfl rfl (fun _ _ => rfl) ?_
    refine E_Ld (q := 274) rfl rfl (fun _ _ => rfl) ?_
    refine E_Get (q := 277) (v := ni_aP 2) rfl (show ni_us 0 = true by decide +kernel) (show ni_kd 0 = 4 by decide +kernel) rfl rfl (fun _ _ => rfl) ?_
    refine E_Ld (q := 278) rfl rfl (fun _ _ => rfl) ?_
    refine E_Qld (q := 279) (j := i) (v := ni_aP (48 + 17 * i)) rfl (show ni_us 2 = true by decide +kernel) (show ni_kd 2 = 102 by decide +kernel) (show ni_ln 2 = 14 by decide +kernel) ⟨by decide, rfl⟩ rfl (by omega) (by decide) (ni_L9 (show ni_us 2 = true by decide +kernel) (by decide +kernel) (by omega)) (fun _ _ => rfl) (fun _ _ => rfl) ?_
    refine E_GetI (q := 282) (e := A2 (48 + 17 * i) 4) rfl (ni_liS i hi14).1 (ni_liS i hi14).2 rfl rfl (fun _ _ => rfl) ?_
    refine E_add (q := 283) rfl ?_
    have hli2 : ni_li (48 + 17 * i + 9) = 48 + 17 * i := by unfold ni_li; omega
    obtain ⟨v2, A3, ⟨hv2, hc2, hf2, hN2⟩, hD2⟩ := mt_sendM (xs := xs) (St := St) (A := A2) (lo' := fun q => if q = 48 + 17 * i + 9 then 2 else if q = 48 + 17 * i + 1 then 2 else if q < 48 + 17 * i then 2 else 1) (r := A2 (48 + 17 * i) 3) (p := 48 + 17 * i + 9) hN1 (by unfold ni_po; omega) (by rw [if_neg (by omega), if_neg (by omega)]) (fun q => rfl) (by rw [hc1.2.2.2.2.2 i hi14]; omega) (by rw [hli2]; rw [hc1.2.2.2.2.2 i hi14]; omega) (by rw [hli2]; rw [hc1.2.2.2.2.2 i hi14, hc1.2.2.2.2.2 i hi14]; exact hd1)
    subst hv2
    rw [hli2] at hD2
    refine E_V (q := 286) (w := none) rfl rfl rfl (ni_o3_9 (ni_liS i hi14).1 (ni_liS i hi14).2).1 (ni_o3_9 (ni_liS i hi14).1 (ni_liS i hi14).2).2.1 rfl (Nat.le_of_ble_eq_true rfl) (fun _ _ _ => rfl) (hD2) (fun _ _ => rfl) (fun _ _ => rfl) ?_
    refine E_Inc (q := 289) (ls' := [ni_aP (0), ni_aI ((i : Int) + 1)]) (z := 1) rfl rfl rfl (fun _ _ => rfl) ?_
    refine E_Go (q := 208) rfl ?_
    have hcT := nq_csT hc1 hc2
    have hfT := nq_frPt hf1 hc1 hf2
    refine ih (i + 1) A3 (by omega) (by rw [hcT.2.2.1]; exact hn) (nq_NIlo hN2 (fun q hq => ?_)) (fun l hl => by rw [hcT.2.2.2.2.2 l hl, hcT.2.2.2.2.2 l hl]; exact hLV l hl) (fun l hl => by rw [hcT.2.2.2.2.2 l hl, hcT.2.2.2.2.2 l hl]; exact hLD l hl) h14 (fun A4 e1 e2 e3 => hK A4 (nq_csT hcT e1) (nq_frPt hfT hcT e2) e3)
    have := hN2.2.2.2.2.1 q hq
    dsimp only at this
    unfold ni_po at hq
    by_cases g : q < 48 + 17 * (i + 1)
    · rw [if_pos g]
      by_cases g9 : q = 48 + 17 * i + 9
      · rw [if_pos g9] at this
        exact this
      · rw [if_neg g9] at this
        by_cases g1 : q = 48 + 17 * i + 1
        · rw [if_pos g1] at this
          exact this
        · rw [if_neg g1, if_pos (by omega)] at this
          exact this
    · rw [if_neg g]
      rw [if_neg (by omega), if_neg (by omega), if_neg (by omega)] at this
      exact this
end NTJ
