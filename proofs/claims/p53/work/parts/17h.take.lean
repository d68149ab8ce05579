/-! LETTERS COME -/
section NTK
variable {Z : (Nat → Nat) → Prop} {xs : List Int32} {St : Nat → Option ni_C} {A : Nat → Nat → Int}
/-- a letter's number, its writer -/
def ni_lno (St : Nat → Option ni_C) (b : Nat) : Int := match St b with
  | some (_, _ :: .int n :: _) => n.toInt
  | _ => 0
def ni_lof (St : Nat → Option ni_C) (b : Nat) : Nat := match St b with
  | some (_, .int o :: _) => o.toInt.toNat
  | _ => 0
theorem ni_lnoE {b : Nat} {o n s : Int} {ca na : Nat} (h : St b = some (1, [ni_z o, ni_z n, ni_z s, .ref ca, .ref na])) (ho : ni_R32 o) (hn : ni_R32 n) : ni_lno St b = n ∧ ni_lof St b = o.toNat := by
  unfold ni_lno ni_lof
  rw [h]
  dsimp only
  rw [ni_toZ hn, ni_toZ ho]
  exact ⟨rfl, rfl⟩
/-- a letter that isn't later than its writer's -/
def ni_GL (St : Nat → Option ni_C) (own : Nat → Int) (b : Nat) : Prop := ni_LW St b ∧ ni_lno St b ≤ own (ni_lof St b)
theorem ni_GLc {own : Nat → Int} {b : Nat} (h : ni_GL St own b) : ∃ c, St b = some c ∧ c.1 = 1 := by
  obtain ⟨⟨o, n, s, ca, na, cs, ns, hb, _⟩, _⟩ := h
  exact ⟨_, hb, rfl⟩
def ni_LL (St : Nat → Option ni_C) (own : Nat → Int) (A : Nat → Nat → Int) (p : Nat) : Prop := (0 ≤ A p 2 ∧ A p 2 ≤ 2048) ∧ ∀ j : Nat, (j : Int) < A p 2 → 0 ≤ A (p + 1) j ∧ ni_GL St own (A (p + 1) j).toNat ∧ 0 ≤ A (p + 2) j ∧ A (p + 2) j ≤ 1000000
def ni_ln0 (p : Nat) : Prop := 50 ≤ p ∧ p < 286 ∧ ((p - 50) % 17 = 0 ∨ (p - 50) % 17 = 8)
def ni_LA (St : Nat → Option ni_C) (own : Nat → Int) (A : Nat → Nat → Int) : Prop := ∀ p, ni_ln0 p → ni_LL St own A p
def ni_isL (s j : Nat) : Prop := 50 ≤ s ∧ s < 286 ∧ (((s - 50) % 17 = 0 ∨ (s - 50) % 17 = 8) ∧ j = 2 ∨ (s - 50) % 17 = 1 ∨ (s - 50) % 17 = 2 ∨ (s - 50) % 17 = 9 ∨ (s - 50) % 17 = 10)
/-- letters on their way alone are others -/
def ni_frL (A A' : Nat → Nat → Int) : Prop := ∀ s j, ¬ ni_isL s j → A' s j = A s j
theorem ni_frLt {A A' A2 : Nat → Nat → Int} (h : ni_frL A A') (h' : ni_frL A' A2) : ni_frL A A2 := fun s j g => (h' s j g).trans (h s j g)
/-- rates and delays -/
def ni_LV (A : Nat → Nat → Int) : Prop := ∀ l : Nat, l < 14 → (0 ≤ A (48 + 17 * l) 3 ∧ A (48 + 17 * l) 3 ≤ 1000) ∧ (0 ≤ A (48 + 17 * l) 4 ∧ A (48 + 17 * l) 4 ≤ 20)
theorem ni_LBf {A A' : Nat → Nat → Int} (h : ni_LB A) (hf : ∀ l j : Nat, l < 14 → A' (48 + 17 * l) j = A (48 + 17 * l) j) : ni_LB A' := fun l hl => by
  rw [hf l 0 hl, hf l 1 hl, hf l 5 hl]
  exact h l hl
theorem ni_LVf {A A' : Nat → Nat → Int} (h : ni_LV A) (hf : ∀ l j : Nat, l < 14 → A' (48 + 17 * l) j = A (48 + 17 * l) j) : ni_LV A' := fun l hl => by
  rw [hf l 3 hl, hf l 4 hl]
  exact h l hl
theorem ni_putLA {own : Nat → Int} {p b : Nat} {t : Int} (hp : ni_ln0 p) (hp2 : (p : Int) < 48 + 17 * A 0 2) (hA : ni_LA St own A) (hb : ni_GL St own b) (ht : 0 ≤ t ∧ t ≤ 1000000) : ni_LA St own (ni_putL A p b t) ∧ ni_frL A (ni_putL A p b t) ∧ ∀ q, ni_ln0 q → A q 2 ≤ ni_putL A p b t q 2 ∧ (48 + 17 * A 0 2 ≤ q → ni_putL A p b t q 2 = A q 2) := by
  unfold ni_ln0 at hp
  unfold ni_putL
  by_cases g : 2048 ≤ A p 2
  · rw [if_pos g]
    exact ⟨hA, fun _ _ _ => rfl, fun _ _ => ⟨Int.le_refl _, fun _ => rfl⟩⟩
  · rw [if_neg g]
    have h0 := (hA p hp).1
    refine ⟨fun q hq => ?_, fun s j h => ?_, fun q hq => ?_⟩
    · unfold ni_ln0 at hq
      by_cases e : q = p
      · subst e
        refine ⟨by rw [ni_u2e]; omega, fun j hj => ?_⟩
        rw [ni_u2e] at hj
        rw [ni_u2n (by omega), ni_u2n (by omega), ni_u2n (s' := q + 2) (by omega)]
        by_cases ej : j = (A q 2).toNat
        · rw [ej, ni_u2e, ni_u2e, Int.toNat_natCast]
          exact ⟨by omega, hb, ht⟩
        · rw [ni_u2n (by omega), ni_u2n (by omega), ni_u2n (by omega)]
          exact (hA q hq).2 j (by omega)
      · refine ⟨by rw [ni_u2n (by omega), ni_u2n (by omega), ni_u2n (by omega)]; exact (hA q hq).1, fun j hj => ?_⟩
        rw [ni_u2n (by omega), ni_u2n (by omega), ni_u2n (by omega)] at hj
        rw [ni_u2n (by omega), ni_u2n (by omega), ni_u2n (by omega), ni_u2n (s' := q + 2) (by omega), ni_u2n (s' := q + 2) (by omega), ni_u2n (s' := q + 2) (by omega)]
        exact (hA q hq).2 j hj
    · unfold ni_isL at h
      rw [ni_u2n (by omega), ni_u2n (by omega), ni_u2n (by omega)]
    · unfold ni_ln0 at hq
      by_cases e : q = p
      · rw [e, ni_u2e]
        exact ⟨by omega, fun z => by omega⟩
      · rw [ni_u2n (by omega), ni_u2n (by omega), ni_u2n (by omega)]
        exact ⟨Int.le_refl _, fun _ => rfl⟩
theorem mt_touch {l : Nat} {r : Int} (hr : 0 ≤ r ∧ r ≤ 100) (h0a : 0 ≤ A l 0 ∧ A l 0 ≤ 100) (h1a : 0 ≤ A l 1 ∧ A l 1 ≤ 100) (hs : ni_us l = true) (hk : ni_kd l = 3) : ∃ b : Int, (b = 0 ∨ b = 1) ∧ (b = 1 ↔ r = A l 0 ∨ r = A l 1) ∧ ni_Dc xs St 1 74 (fun ad => [.ref (ad l), ni_z r]) A (fun _ => some (ni_z b)) A := by
  by_cases h : r = A l 0
  · exact ⟨1, Or.inr rfl, by omega, mt_touch1 hr h0a h1a h hs hk⟩
  · by_cases h2 : r = A l 1
    · exact ⟨1, Or.inr rfl, by omega, mt_touch2 hr h0a h1a h h2 hs hk⟩
    · exact ⟨0, Or.inl rfl, by omega, mt_touch0 hr h0a h1a h h2 hs hk⟩
theorem mt_toL {own : Nat → Int} {r b : Nat} {bu : Int} {P : Option ni_a → (Nat → Nat → Int) → Prop} (hr : r < 8) (hbu : -1 ≤ bu ∧ bu ≤ 100) (hb : ni_GL St own b) : ∀ k i : Nat, ∀ A : Nat → Nat → Int, ((i : Int) + k = A 0 2) → ni_LB A → ni_LV A → (0 ≤ A 0 0 ∧ A 0 0 ≤ 900000) → (0 ≤ A 0 2 ∧ A 0 2 ≤ 14) → ni_LA St own A → (∀ A2 : Nat → Nat → Int, ni_frL A A2 → ni_LA St own A2 → (∀ q, ni_ln0 q → A q 2 ≤ A2 q 2 ∧ (48 + 17 * A 0 2 ≤ q → A2 q 2 = A q 2)) → P none A2) → ni_E xs St Z 4 95 3 [ni_aP (0), ni_aI ((r : Int)), ni_aL (b), ni_aI (bu), ni_aI ((i : Int))] [] A (ni_live A) P := by
  obtain ⟨c, hbc, hc1⟩ := ni_GLc hb
  intro k
  induction k with
  | zero =>
    intro i A hi hLB hLV ht hlc hLA hP
    refine E_Ld (q := 5) rfl rfl (fun _ _ => rfl) ?_
    refine E_Ld (q := 6) rfl rfl (fun _ _ => rfl) ?_
    refine E_GetI (q := 9) (e := A (0) 2) rfl (show ni_us 0 = true by decide +kernel) (show ni_kd 0 = 4 by decide +kernel) rfl rfl (fun _ _ => rfl) ?_
    refine E_Ic true rfl (zc_ge_t ⟨by omega, by omega⟩ ⟨by omega, by omega⟩ (by omega)) ?_
    refine E_Rv rfl rfl ?_
    exact hP A (fun _ _ _ => rfl) hLA (fun _ _ => ⟨Int.le_refl _, fun _ => rfl⟩)
  | succ k ih =>
    intro i A hi hLB hLV ht hlc hLA hP
    have hi14 : i < 14 := by omega
    have hB := hLB i hi14
    have hV := hLV i hi14
    refine E_Ld (q := 5) rfl rfl (fun _ _ => rfl) ?_
    refine E_Ld (q := 6) rfl rfl (fun _ _ => rfl) ?_
    refine E_GetI (q := 9) (e := A (0) 2) rfl (show ni_us 0 = true by decide +kernel) (show ni_kd 0 = 4 by decide +kernel) rfl rfl (fun _ _ => rfl) ?_
    refine E_Ic false rfl (zc_ge_f ⟨by omega, by omega⟩ ⟨by omega, by omega⟩ (by omega)) ?_
    refine E_Ld (q := 14) rfl rfl (fun _ _ => rfl) ?_
    refine E_Ld (q := 15) rfl rfl (fun _ _ => rfl) ?_
    by_cases g15 : ((i : Int)) = bu
    · refine E_Ic true rfl (zc_eq_t ⟨by omega, by omega⟩ ⟨by omega, by omega⟩ g15) ?_
      refine E_Inc (q := 61) (ls' := [ni_aP (0), ni_aI ((r : Int)), ni_aL (b), ni_aI (bu), ni_aI ((i : Int) + 1)]) (z := 1) rfl rfl rfl (fun _ _ => rfl) ?_
      refine E_Go (q := 3) rfl ?_
      exact ih (i + 1) A (by omega) hLB hLV ht hlc hLA hP
    · refine E_Ic false rfl (zc_eq_f ⟨by omega, by omega⟩ ⟨by omega, by omega⟩ g15) ?_
      refine E_Ld (q := 19) rfl rfl (fun _ _ => rfl) ?_
      refine E_Get (q := 22) (v := ni_aP 2) rfl (show ni_us 0 = true by decide +kernel) (show ni_kd 0 = 4 by decide +kernel) rfl rfl (fun _ _ => rfl) ?_
      refine E_Ld (q := 24) rfl rfl (fun _ _ => rfl) ?_
      refine E_Qld (q := 25) (j := i) (v := ni_aP (48 + 17 * i)) rfl (show ni_us 2 = true by decide +kernel) (show ni_kd 2 = 102 by decide +kernel) (show ni_ln 2 = 14 by decide +kernel) ⟨by decide, rfl⟩ rfl (by omega) (by decide) (ni_L9 (show ni_us 2 = true by decide +kernel) (by decide +kernel) (by omega)) (fun _ _ => rfl) (fun _ _ => rfl) ?_
      refine E_GetI (q := 28) (e := A (48 + 17 * i) 5) rfl (ni_liS i (by omega)).1 (ni_liS i (by omega)).2 rfl rfl (fun _ _ => rfl) ?_
      by_cases g28 : (A (48 + 17 * i) 5) = 0
      · refine E_If true rfl (zf_eq_t ⟨by omega, by omega⟩ g28) ?_
        refine E_Inc (q := 61) (ls' := [ni_aP (0), ni_aI ((r : Int)), ni_aL (b), ni_aI (bu), ni_aI ((i : Int) + 1)]) (z := 1) rfl rfl rfl (fun _ _ => rfl) ?_
        refine E_Go (q := 3) rfl ?_
        exact ih (i + 1) A (by omega) hLB hLV ht hlc hLA hP
      · refine E_If false rfl (zf_eq_f ⟨by omega, by omega⟩ g28) ?_
        refine E_Ld (q := 32) rfl rfl (fun _ _ => rfl) ?_
        refine E_Get (q := 35) (v := ni_aP 2) rfl (show ni_us 0 = true by decide +kernel) (show ni_kd 0 = 4 by decide +kernel) rfl rfl (fun _ _ => rfl) ?_
        refine E_Ld (q := 37) rfl rfl (fun _ _ => rfl) ?_
        refine E_Qld (q := 38) (j := i) (v := ni_aP (48 + 17 * i)) rfl (show ni_us 2 = true by decide +kernel) (show ni_kd 2 = 102 by decide +kernel) (show ni_ln 2 = 14 by decide +kernel) ⟨by decide, rfl⟩ rfl (by omega) (by decide) (ni_L9 (show ni_us 2 = true by decide +kernel) (by decide +kernel) (by omega)) (fun _ _ => rfl) (fun _ _ => rfl) ?_
        refine E_Ld (q := 39) rfl rfl (fun _ _ => rfl) ?_
        obtain ⟨tb, htb, htc, hto⟩ := mt_touch (xs := xs) (St := St) (A := A) (l := 48 + 17 * i) (r := (r : Int)) (by omega) (by omega) (by omega) (ni_liS i (by omega)).1 (ni_liS i (by omega)).2
        refine E_V (q := 42) (w := some (ni_aI (tb))) rfl rfl rfl (ni_liS i (by omega)).1 (ni_liS i (by omega)).2 rfl (Nat.le_of_ble_eq_true rfl) (fun _ _ _ => rfl) (ni_Dup hto (by decide)) (fun _ _ => rfl) (fun _ _ => rfl) ?_
        by_cases g42 : tb = 0
        · refine E_If true rfl (zf_eq_t ⟨by omega, by omega⟩ g42) ?_
          refine E_Inc (q := 61) (ls' := [ni_aP (0), ni_aI ((r : Int)), ni_aL (b), ni_aI (bu), ni_aI ((i : Int) + 1)]) (z := 1) rfl rfl rfl (fun _ _ => rfl) ?_
          refine E_Go (q := 3) rfl ?_
          exact ih (i + 1) A (by omega) hLB hLV ht hlc hLA hP
        · refine E_If false rfl (zf_eq_f ⟨by omega, by omega⟩ g42) ?_
          refine E_Ld (q := 46) rfl rfl (fun _ _ => rfl) ?_
          refine E_Ld (q := 47) rfl rfl (fun _ _ => rfl) ?_
          refine E_Ld (q := 48) rfl rfl (fun _ _ => rfl) ?_
          refine E_Ld (q := 49) rfl rfl (fun _ _ => rfl) ?_
          refine E_Get (q := 52) (v := ni_aP 2) rfl (show ni_us 0 = true by decide +kernel) (show ni_kd 0 = 4 by decide +kernel) rfl rfl (fun _ _ => rfl) ?_
          refine E_Ld (q := 54) rfl rfl (fun _ _ => rfl) ?_
          refine E_Qld (q := 55) (j := i) (v := ni_aP (48 + 17 * i)) rfl (show ni_us 2 = true by decide +kernel) (show ni_kd 2 = 102 by decide +kernel) (show ni_ln 2 = 14 by decide +kernel) ⟨by decide, rfl⟩ rfl (by omega) (by decide) (ni_L9 (show ni_us 2 = true by decide +kernel) (by decide +kernel) (by omega)) (fun _ _ => rfl) (fun _ _ => rfl) ?_
          by_cases hra : (r : Int) = A (48 + 17 * i) 0
          · have hq : ni_ln0 (48 + 17 * i + 1 + 1) := by unfold ni_ln0; omega
            obtain ⟨v, A2, ⟨hv, hA2⟩, hDc⟩ := mt_tellA (xs := xs) (St := St) (A := A) (l := 48 + 17 * i) (b := b) (ni_liS i (by omega)).1 (ni_liS i (by omega)).2 (by omega) (by omega) (by omega) hra hbc hc1 (hLA _ hq).1.1 (fun j hj => ni_GLc ((hLA _ hq).2 j hj).2.1)
            subst hv
            obtain ⟨k1, k2, k3⟩ := ni_putLA (A := A) (t := A 0 0 + A (48 + 17 * i) 4) hq (by omega) hLA hb (by omega)
            rw [← hA2] at k1 k2 k3
            refine E_V (q := 58) (w := none) rfl rfl rfl (show ni_us 0 = true by decide +kernel) (show ni_kd 0 = 4 by decide +kernel) rfl (Nat.le_of_ble_eq_true rfl) (fun _ _ _ => rfl) (hDc) (fun _ _ => rfl) (fun _ _ => rfl) ?_
            refine E_Inc (q := 61) (ls' := [ni_aP (0), ni_aI ((r : Int)), ni_aL (b), ni_aI (bu), ni_aI ((i : Int) + 1)]) (z := 1) rfl rfl rfl (fun _ _ => rfl) ?_
            refine E_Go (q := 3) rfl ?_
            refine ih (i + 1) A2 (by rw [k2 _ _ (by unfold ni_isL; omega)]; omega) (ni_LBf hLB (fun l j hl => k2 _ _ (by unfold ni_isL; omega))) (ni_LVf hLV (fun l j hl => k2 _ _ (by unfold ni_isL; omega))) (by rw [k2 _ _ (by unfold ni_isL; omega)]; exact ht) (by rw [k2 _ _ (by unfold ni_isL; omega)]; exact hlc) k1 (fun A3 e1 e2 e3 => hP A3 (ni_frLt k2 e1) e2 (fun q hq => ⟨Int.le_trans (k3 q hq).1 (e3 q hq).1, fun z => by rw [(e3 q hq).2 (by rw [k2 _ _ (by unfold ni_isL; omega)]; exact z), (k3 q hq).2 z]⟩))
          · have hq : ni_ln0 (48 + 17 * i + 9 + 1) := by unfold ni_ln0; omega
            obtain ⟨v, A2, ⟨hv, hA2⟩, hDc⟩ := mt_tellB (xs := xs) (St := St) (A := A) (l := 48 + 17 * i) (b := b) (ni_liS i (by omega)).1 (ni_liS i (by omega)).2 (by omega) (by omega) (by omega) hra hbc hc1 (hLA _ hq).1.1 (fun j hj => ni_GLc ((hLA _ hq).2 j hj).2.1)
            subst hv
            obtain ⟨k1, k2, k3⟩ := ni_putLA (A := A) (t := A 0 0 + A (48 + 17 * i) 4) hq (by omega) hLA hb (by omega)
            rw [← hA2] at k1 k2 k3
            refine E_V (q := 58) (w := none) rfl rfl rfl (show ni_us 0 = true by decide +kernel) (show ni_kd 0 = 4 by decide +kernel) rfl (Nat.le_of_ble_eq_true rfl) (fun _ _ _ => rfl) (hDc) (fun _ _ => rfl) (fun _ _ => rfl) ?_
            refine E_Inc (q := 61) (ls' := [ni_aP (0), ni_aI ((r : Int)), ni_aL (b), ni_aI (bu), ni_aI ((i : Int) + 1)]) (z := 1) rfl rfl rfl (fun _ _ => rfl) ?_
            refine E_Go (q := 3) rfl ?_
            refine ih (i + 1) A2 (by rw [k2 _ _ (by unfold ni_isL; omega)]; omega) (ni_LBf hLB (fun l j hl => k2 _ _ (by unfold ni_isL; omega))) (ni_LVf hLV (fun l j hl => k2 _ _ (by unfold ni_isL; omega))) (by rw [k2 _ _ (by unfold ni_isL; omega)]; exact ht) (by rw [k2 _ _ (by unfold ni_isL; omega)]; exact hlc) k1 (fun A3 e1 e2 e3 => hP A3 (ni_frLt k2 e1) e2 (fun q hq => ⟨Int.le_trans (k3 q hq).1 (e3 q hq).1, fun z => by rw [(e3 q hq).2 (by rw [k2 _ _ (by unfold ni_isL; omega)]; exact z), (k3 q hq).2 z]⟩))
theorem mt_tellO {own : Nat → Int} {r b : Nat} {bu : Int} (hr : r < 8) (hbu : -1 ≤ bu ∧ bu ≤ 100) (hb : ni_GL St own b) (hLB : ni_LB A) (hLV : ni_LV A) (ht : 0 ≤ A 0 0 ∧ A 0 0 ≤ 900000) (hlc : 0 ≤ A 0 2 ∧ A 0 2 ≤ 14) (hLA : ni_LA St own A) : ni_M xs St 5 95 [ni_aP 0, ni_aI (r : Int), ni_aL b, ni_aI bu] A (fun v A' => v = none ∧ ni_frL A A' ∧ ni_LA St own A' ∧ ∀ q, ni_ln0 q → A q 2 ≤ A' q 2 ∧ (48 + 17 * A 0 2 ≤ q → A' q 2 = A q 2)) := by
  refine ni_Min (ls := [ni_aP (0), ni_aI ((r : Int)), ni_aL (b), ni_aI (bu), .inl ni_J]) (fun _ => Nat.le_of_ble_eq_true rfl) (fun _ _ => rfl) ?_
  refine E_push (q := 1) (c := 0) (z := 0) rfl rfl ?_
  refine E_St (q := 3) (ls' := [ni_aP (0), ni_aI ((r : Int)), ni_aL (b), ni_aI (bu), ni_aI (0)]) rfl (fun _ _ => rfl) (fun _ _ => rfl) ?_
  exact mt_toL hr hbu hb (A 0 2).toNat 0 A (by omega) hLB hLV ht hlc hLA (fun A2 e1 e2 e3 => ⟨rfl, e1, e2, e3⟩)
end NTK
