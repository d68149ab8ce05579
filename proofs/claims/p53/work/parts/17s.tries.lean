/-! TRIES -/
section NTR
variable {Z : (Nat → Nat) → Prop} {xs : List Int32} {St : Nat → Option ni_C} {A : Nat → Nat → Int}
theorem mt_hasBit {x pl : Int} (hx : 0 ≤ x ∧ x ≤ 2147483647) : ∃ b : Int, ni_Pu xs 1 122 [ni_z x, ni_z pl] (some (ni_z b)) ∧ (b = 0 ∨ b = 1) ∧ ∀ k : Nat, k ≤ 15 → pl = 15 - k → b = x / 2 ^ k % 2 := by
  obtain ⟨c1, h1, g1⟩ := zi_ex (Int32.ofInt x >>> (Int32.ofInt (15 - pl) &&& 31))
  obtain ⟨c2, h2, g2, g3⟩ := zi_ex (Int32.ofInt c1 &&& Int32.ofInt 1)
  have hk : ∀ k : Nat, k ≤ 15 → pl = 15 - k → c2 = x / 2 ^ k % 2 := fun k hk e => by
    have e1 : 15 - pl = (k : Int) := by omega
    rw [e1, zb_shr ⟨by omega, by omega⟩ (by omega)] at h1
    have hp : (0 : Int) ≤ x / 2 ^ k := Int.ediv_nonneg hx.1 (by exact_mod_cast Nat.zero_le (2 ^ k))
    have hp2 : x / 2 ^ k ≤ x := Int.ediv_le_self _ hx.1
    have e2 : c1 = x / 2 ^ k := by
      have := (ni_eqZ ⟨by omega, by omega⟩ g1).mp h1
      omega
    rw [e2, zb_m1 hp] at h2
    have := (ni_eqZ ⟨by omega, by omega⟩ ⟨g2, g3⟩).mp h2
    omega
  by_cases e : c2 = 0
  · refine ⟨0, fun M => ?_, Or.inl rfl, fun k h4 h5 => by rw [← hk k h4 h5]; exact e.symm⟩
    refine wp_enter (Nat.le_of_ble_eq_true rfl) rfl ?_
    refine wp_Ld rfl rfl rfl ?_
    refine wp_P (g := ni_gPush (.int (15)) 3) rfl (wp_push (z := 15) rfl) ?_
    refine wp_Ld rfl rfl rfl ?_
    refine wp_P rfl wp_sub ?_
    refine wp_P rfl (wp_I (c := c1) h1) ?_
    refine wp_P (g := ni_gPush (.int (1)) 7) rfl (wp_push (z := 1) rfl) ?_
    refine wp_P rfl (wp_I (c := c2) h2) ?_
    refine wp_If true rfl (zf_eq_t ⟨by omega, by omega⟩ (by omega)) ?_
    refine wp_P (g := ni_gPush (.int (0)) 16) rfl (wp_push (z := 0) rfl) ?_
    exact wp_R rfl rfl ⟨rfl, rfl⟩
  · refine ⟨1, fun M => ?_, Or.inr rfl, fun k h4 h5 => by have := hk k h4 h5; omega⟩
    refine wp_enter (Nat.le_of_ble_eq_true rfl) rfl ?_
    refine wp_Ld rfl rfl rfl ?_
    refine wp_P (g := ni_gPush (.int (15)) 3) rfl (wp_push (z := 15) rfl) ?_
    refine wp_Ld rfl rfl rfl ?_
    refine wp_P rfl wp_sub ?_
    refine wp_P rfl (wp_I (c := c1) h1) ?_
    refine wp_P (g := ni_gPush (.int (1)) 7) rfl (wp_push (z := 1) rfl) ?_
    refine wp_P rfl (wp_I (c := c2) h2) ?_
    refine wp_If false rfl (zf_eq_f ⟨by omega, by omega⟩ (by omega)) ?_
    refine wp_P (g := ni_gPush (.int (1)) 12) rfl (wp_push (z := 1) rfl) ?_
    refine wp_P (g := ni_gGo 16) rfl rfl ?_
    exact wp_R rfl rfl ⟨rfl, rfl⟩
theorem mt_commonL {a b : Int} : ∀ k : Nat, ∀ len r : Int, len = k → (0 ≤ r ∧ r < 2 ^ k) → k ≤ 16 → ∃ v : Nat, v ≤ k ∧ (v < k → r / 2 ^ (k - 1 - v) = 1) ∧ (v = k → r = 0) ∧ ∀ M, wp_G xs 0 120 7 [ni_z a, ni_z b, ni_z len, ni_z r] [] M (fun u M' => u = some (ni_z (v : Int)) ∧ M' = M) := by
  intro k
  induction k with
  | zero =>
    intro len r hl hr hk
    have e : (2 : Int) ^ 0 = 1 := rfl
    refine ⟨0, Nat.le_refl _, fun h => by omega, fun _ => by omega, fun M => ?_⟩
    · have hr0 : r = 0 := by omega
      subst hl
      refine wp_Ld rfl rfl rfl ?_
      refine wp_If true rfl (zf_eq_t ⟨by omega, by omega⟩ (by omega)) ?_
      refine wp_Ld rfl rfl rfl ?_
      exact wp_R rfl rfl ⟨rfl, rfl⟩
  | succ k ih =>
    intro len r hl hr hk
    have ek : (2 : Int) ^ (k + 1) = 2 * 2 ^ k := by rw [Int.pow_succ]; omega
    have e16 : (2 : Int) ^ (k + 1) ≤ 65536 := by
      have h1 : (2 : Nat) ^ (k + 1) ≤ 2 ^ 16 := Nat.pow_le_pow_right (by omega) hk
      have h2 : ((2 ^ (k + 1) : Nat) : Int) ≤ ((2 ^ 16 : Nat) : Int) := by exact_mod_cast h1
      have e2 : ((2 ^ 16 : Nat) : Int) = 65536 := rfl
      have e3 : ((2 ^ (k + 1) : Nat) : Int) = 2 ^ (k + 1) := by norm_cast
      omega
    by_cases h0 : r = 0
    · refine ⟨k + 1, Nat.le_refl _, fun h => by omega, fun _ => h0, fun M => ?_⟩
      subst hl
      refine wp_Ld rfl rfl rfl ?_
      refine wp_If true rfl (zf_eq_t ⟨by omega, by omega⟩ (by omega)) ?_
      refine wp_Ld rfl rfl rfl ?_
      exact wp_R rfl rfl ⟨rfl, rfl⟩
    · obtain ⟨v, v1, v2, v3, g⟩ := ih (len + (-1)) (r / 2) (by omega) ⟨by omega, by omega⟩ (by omega)
      refine ⟨v, by omega, fun _ => ?_, fun h => by omega, fun M => ?_⟩
      · by_cases e : v = k
        · have := v3 e
          rw [show k + 1 - 1 - v = 0 by omega]
          show r / 1 = 1
          omega
        · have := v2 (by omega)
          rw [show k + 1 - 1 - v = (k - 1 - v) + 1 by omega, Int.pow_succ, Int.mul_comm, ← Int.ediv_ediv_of_nonneg (by omega)]
          exact this
      refine wp_Ld rfl rfl rfl ?_
      refine wp_If false rfl (zf_eq_f ⟨by omega, by omega⟩ (by omega)) ?_
      refine wp_Ld rfl rfl rfl ?_
      refine wp_If false rfl (zf_le_f ⟨by omega, by omega⟩ (by omega)) ?_
      refine wp_Inc (ls' := [ni_z (a), ni_z (b), ni_z (len + (-1)), ni_z (r)]) (x' := len + (-1)) rfl rfl (zi_inc (z := -1) rfl) rfl ?_
      refine wp_Ld rfl rfl rfl ?_
      refine wp_P (g := ni_gPush (.int (1)) 20) rfl (wp_push (z := 1) rfl) ?_
      refine wp_P rfl (wp_I (c := r / 2) (zb_shr (n := 1) ⟨by omega, by omega⟩ (by omega))) ?_
      refine wp_St (ls' := [ni_z (a), ni_z (b), ni_z (len + (-1)), ni_z (r / 2)]) rfl rfl rfl ?_
      refine wp_P (g := ni_gGo 7) rfl rfl ?_
      exact g M
/-- the length that two addresses have in common -/
theorem mt_common {a b : Nat} (ha : a < 65536) (hb : b < 65536) : ∃ v : Nat, v ≤ 16 ∧ (v < 16 → (a ^^^ b) / 2 ^ (15 - v) = 1) ∧ ni_Pu xs 1 120 [ni_z (a : Int), ni_z (b : Int)] (some (ni_z (v : Int))) := by
  obtain ⟨x, hx0⟩ : ∃ x : Nat, x = a ^^^ b := ⟨_, rfl⟩
  have hx : Int32.ofInt (a : Int) ^^^ Int32.ofInt (b : Int) = Int32.ofInt (x : Int) := by rw [zb_xor, hx0]
  have hlt : x < 2 ^ 16 := by
    rw [hx0]
    exact Nat.xor_lt_two_pow (by omega) (by omega)
  have e16 : (2 : Nat) ^ 16 = 65536 := rfl
  obtain ⟨v, v1, v2, v3, g⟩ := mt_commonL (xs := xs) (a := (a : Int)) (b := (b : Int)) 16 16 (x : Int) rfl ⟨by omega, by show (x : Int) < 65536; omega⟩ (Nat.le_refl _)
  refine ⟨v, v1, fun h => ?_, fun M => ?_⟩
  · have := v2 h
    rw [← hx0]
    rw [show 16 - 1 - v = 15 - v by omega] at this
    have e3 : ((2 ^ (15 - v) : Nat) : Int) = 2 ^ (15 - v) := by norm_cast
    rw [← e3] at this
    exact_mod_cast this
  refine wp_enter (Nat.le_of_ble_eq_true rfl) rfl ?_
  refine wp_P (g := ni_gPush (.int (16)) 2) rfl (wp_push (z := 16) rfl) ?_
  refine wp_St (ls' := [ni_z ((a : Int)), ni_z ((b : Int)), ni_z (16), ni_J]) rfl rfl rfl ?_
  refine wp_Ld rfl rfl rfl ?_
  refine wp_Ld rfl rfl rfl ?_
  refine wp_P rfl (wp_I (c := (x : Int)) hx) ?_
  refine wp_St (ls' := [ni_z ((a : Int)), ni_z ((b : Int)), ni_z (16), ni_z ((x : Int))]) rfl rfl rfl ?_
  exact g M
/-- a table's prefixes -/
theorem nq_pre {t : Nat} (hT : ni_TS A t) {i : Nat} (hi : (i : Int) < A t 3) : 0 ≤ A (t + 1) i ∧ A (t + 1) i < 2097152 ∧ A (t + 1) i % 32 ≤ 16 := (hT.1.2 i hi).1
theorem nq_sorted {t : Nat} (hT : ni_TS A t) : ∀ j k : Nat, j ≤ k → (k : Int) < A t 3 → A (t + 1) j ≤ A (t + 1) k := by
  intro j k hjk
  induction k with
  | zero =>
    intro _
    have : j = 0 := by omega
    rw [this]
    exact Int.le_refl _
  | succ k ih =>
    intro hk
    by_cases e : j = k + 1
    · rw [e]
      exact Int.le_refl _
    · have h1 := ih (by omega) (by omega)
      have h2 := hT.2 k (by omega)
      omega
theorem mt_behind {t f o : Nat} {l : Int} (hs : ni_us t = true) (hk : ni_kd t = 8) (hT : ni_TS A t) (hfo : f ≤ o) (ho : (o : Int) ≤ A t 3) (hl : 0 ≤ l ∧ l ≤ 31) : ni_M xs St 2 142 [ni_aP (t + 1), ni_aI (f : Int), ni_aI (o : Int), ni_aI l] A (fun v A' => ∃ m : Nat, v = some (ni_aI (m : Int)) ∧ A' = A ∧ ((m = f ∧ (f < o → ¬ A (t + 1) f % 32 = l)) ∨ (m = f + 1 ∧ f < o ∧ A (t + 1) f % 32 = l))) := by
  have h374 := (ni_usT hs).1
  have hn := hT.1.1
  refine ni_Min (ls := [ni_aP (t + 1), ni_aI ((f : Int)), ni_aI ((o : Int)), ni_aI (l)]) (fun _ => Nat.le_of_ble_eq_true rfl) (fun _ _ => rfl) ?_
  refine E_Ld (q := 1) rfl rfl (fun _ _ => rfl) ?_
  refine E_Ld (q := 2) rfl rfl (fun _ _ => rfl) ?_
  by_cases g2 : ((o : Int)) ≤ ((f : Int))
  · refine E_Ic true rfl (zc_ge_t ⟨by omega, by omega⟩ ⟨by omega, by omega⟩ g2) ?_
    refine E_Ld (q := 22) rfl rfl (fun _ _ => rfl) ?_
    refine E_R rfl (fun _ _ => rfl) (fun _ _ => rfl) ?_
    exact ⟨f, rfl, rfl, Or.inl ⟨rfl, fun h => by omega⟩⟩
  · refine E_Ic false rfl (zc_ge_f ⟨by omega, by omega⟩ ⟨by omega, by omega⟩ g2) ?_
    have hf := nq_pre hT (show (f : Int) < A t 3 by omega)
    refine E_Ld (q := 6) rfl rfl (fun _ _ => rfl) ?_
    refine E_Ld (q := 7) rfl rfl (fun _ _ => rfl) ?_
    refine E_Ald (q := 8) (j := f) (e := A (t + 1) (f)) rfl (ni_o8_1 hs hk).1 (ni_o8_1 hs hk).2.1 (ni_o8_1 hs hk).2.2.1 rfl (by omega) (by decide) (ni_L8 (ni_o8_1 hs hk).1 (ni_o8_1 hs hk).2.2.2 (by omega) (by omega)) (fun _ _ => rfl) ?_
    refine E_C (q := 11) (w := some (ni_aI (A (t + 1) f % 32))) rfl (Nat.le_of_ble_eq_true rfl) rfl rfl (Nat.le_of_ble_eq_true rfl) (ni_PuUp (mt_lenOf (x := A (t + 1) f) (by omega)) (by decide)) (fun _ _ => rfl) (fun _ _ => rfl) ?_
    refine E_Ld (q := 12) rfl rfl (fun _ _ => rfl) ?_
    by_cases g12 : ¬ (A (t + 1) f % 32) = l
    · refine E_Ic true rfl (zc_ne_t ⟨by omega, by omega⟩ ⟨by omega, by omega⟩ g12) ?_
      refine E_Ld (q := 22) rfl rfl (fun _ _ => rfl) ?_
      refine E_R rfl (fun _ _ => rfl) (fun _ _ => rfl) ?_
      exact ⟨f, rfl, rfl, Or.inl ⟨rfl, fun h => by omega⟩⟩
    · refine E_Ic false rfl (zc_ne_f ⟨by omega, by omega⟩ ⟨by omega, by omega⟩ g12) ?_
      refine E_Ld (q := 16) rfl rfl (fun _ _ => rfl) ?_
      refine E_push (q := 17) (c := 1) (z := 1) rfl rfl ?_
      refine E_add (q := 18) rfl ?_
      refine E_Go (q := 22) rfl ?_
      refine E_R rfl (fun _ _ => rfl) (fun _ _ => rfl) ?_
      exact ⟨f + 1, rfl, rfl, Or.inr ⟨rfl, by omega, by omega⟩⟩
theorem mt_fwbL {t f o : Nat} {pl : Int} (hs : ni_us t = true) (hk : ni_kd t = 8) (hT : ni_TS A t) (ho : (o : Int) ≤ A t 3) : ∀ k i : Nat, i + k = o → f ≤ i → (∀ j : Nat, f ≤ j → j < i → ∀ k : Nat, k ≤ 15 → pl = 15 - k → A (t + 1) j / 32 / 2 ^ k % 2 = 0) → ni_E xs St Z 1 148 3 [ni_aP (t + 1), ni_aI ((f : Int)), ni_aI ((o : Int)), ni_aI (pl), ni_aI ((i : Int))] [] A (ni_live A) (fun v A' => ∃ m : Nat, v = some (ni_aI (m : Int)) ∧ A' = A ∧ f ≤ m ∧ m ≤ o ∧ (∀ j : Nat, f ≤ j → j < m → ∀ k : Nat, k ≤ 15 → pl = 15 - k → A (t + 1) j / 32 / 2 ^ k % 2 = 0) ∧ (m < o → ∀ k : Nat, k ≤ 15 → pl = 15 - k → A (t + 1) m / 32 / 2 ^ k % 2 = 1)) := by
  have h374 := (ni_usT hs).1
  have hn := hT.1.1
  intro k
  induction k with
  | zero =>
    intro i hi hfi hlo
    refine E_Ld (q := 5) rfl rfl (fun _ _ => rfl) ?_
    refine E_Ld (q := 6) rfl rfl (fun _ _ => rfl) ?_
    refine E_Ic true rfl (zc_ge_t ⟨by omega, by omega⟩ ⟨by omega, by omega⟩ (by omega)) ?_
    refine E_Ld (q := 31) rfl rfl (fun _ _ => rfl) ?_
    refine E_R rfl (fun _ _ => rfl) (fun _ _ => rfl) ?_
    exact ⟨i, rfl, rfl, by omega, by omega, hlo, fun h => by omega⟩
  | succ k ih =>
    intro i hi hfi hlo
    have hpi := nq_pre hT (show (i : Int) < A t 3 by omega)
    refine E_Ld (q := 5) rfl rfl (fun _ _ => rfl) ?_
    refine E_Ld (q := 6) rfl rfl (fun _ _ => rfl) ?_
    refine E_Ic false rfl (zc_ge_f ⟨by omega, by omega⟩ ⟨by omega, by omega⟩ (by omega)) ?_
    refine E_Ld (q := 10) rfl rfl (fun _ _ => rfl) ?_
    refine E_Ld (q := 12) rfl rfl (fun _ _ => rfl) ?_
    refine E_Ald (q := 13) (j := i) (e := A (t + 1) (i)) rfl (ni_o8_1 hs hk).1 (ni_o8_1 hs hk).2.1 (ni_o8_1 hs hk).2.2.1 rfl (by omega) (by decide) (ni_L8 (ni_o8_1 hs hk).1 (ni_o8_1 hs hk).2.2.2 (by omega) (by omega)) (fun _ _ => rfl) ?_
    refine E_C (q := 16) (w := some (ni_aI (A (t + 1) i / 32))) rfl (Nat.le_of_ble_eq_true rfl) rfl rfl (Nat.le_of_ble_eq_true rfl) (ni_PuUp (mt_addrOf (x := A (t + 1) i) (by omega)) (by decide)) (fun _ _ => rfl) (fun _ _ => rfl) ?_
    refine E_Ld (q := 17) rfl rfl (fun _ _ => rfl) ?_
    obtain ⟨b, hPb, hb01, hbk⟩ := mt_hasBit (xs := xs) (x := A (t + 1) i / 32) (pl := pl) (by omega)
    refine E_C (q := 20) (w := some (ni_aI (b))) rfl (Nat.le_of_ble_eq_true rfl) rfl rfl (Nat.le_of_ble_eq_true rfl) (ni_PuUp hPb (by decide)) (fun _ _ => rfl) (fun _ _ => rfl) ?_
    by_cases g20 : ¬ b = 0
    · refine E_If true rfl (zf_ne_t ⟨by omega, by omega⟩ g20) ?_
      refine E_Ld (q := 31) rfl rfl (fun _ _ => rfl) ?_
      refine E_R rfl (fun _ _ => rfl) (fun _ _ => rfl) ?_
      exact ⟨i, rfl, rfl, by omega, by omega, hlo, fun _ k hk15 hpl => by have := hbk k hk15 hpl; omega⟩
    · refine E_If false rfl (zf_ne_f ⟨by omega, by omega⟩ g20) ?_
      refine E_Inc (q := 26) (ls' := [ni_aP (t + 1), ni_aI ((f : Int)), ni_aI ((o : Int)), ni_aI (pl), ni_aI ((i : Int) + 1)]) (z := 1) rfl rfl rfl (fun _ _ => rfl) ?_
      refine E_Go (q := 3) rfl ?_
      exact ih (i + 1) (by omega) (by omega) (fun j h1 h2 k hk15 hpl => by
        by_cases e : j = i
        · rw [e, ← hbk k hk15 hpl]
          omega
        · exact hlo j h1 (by omega) k hk15 hpl)
theorem mt_fwb {t f o : Nat} {pl : Int} (hs : ni_us t = true) (hk : ni_kd t = 8) (hT : ni_TS A t) (hfo : f ≤ o) (ho : (o : Int) ≤ A t 3) : ni_M xs St 2 148 [ni_aP (t + 1), ni_aI (f : Int), ni_aI (o : Int), ni_aI pl] A (fun v A' => ∃ m : Nat, v = some (ni_aI (m : Int)) ∧ A' = A ∧ f ≤ m ∧ m ≤ o ∧ (∀ j : Nat, f ≤ j → j < m → ∀ k : Nat, k ≤ 15 → pl = 15 - k → A (t + 1) j / 32 / 2 ^ k % 2 = 0) ∧ (m < o → ∀ k : Nat, k ≤ 15 → pl = 15 - k → A (t + 1) m / 32 / 2 ^ k % 2 = 1)) := by
  have h374 := (ni_usT hs).1
  have hn := hT.1.1
  refine ni_Min (ls := [ni_aP (t + 1), ni_aI ((f : Int)), ni_aI ((o : Int)), ni_aI (pl), .inl ni_J]) (fun _ => Nat.le_of_ble_eq_true rfl) (fun _ _ => rfl) ?_
  refine E_Ld (q := 1) rfl rfl (fun _ _ => rfl) ?_
  refine E_St (q := 3) (ls' := [ni_aP (t + 1), ni_aI ((f : Int)), ni_aI ((o : Int)), ni_aI (pl), ni_aI ((f : Int))]) rfl (fun _ _ => rfl) (fun _ _ => rfl) ?_
  exact mt_fwbL hs hk hT ho (o - f) f (by omega) (Nat.le_refl _) (fun j h1 h2 => by omega)
theorem mt_nodeLen {t f o : Nat} (hs : ni_us t = true) (hk : ni_kd t = 8) (hT : ni_TS A t) (hfo : f < o) (ho : (o : Int) ≤ A t 3) : ni_M xs St 2 150 [ni_aP (t + 1), ni_aI (f : Int), ni_aI (o : Int)] A (fun v A' => ∃ c : Nat, v = some (ni_aI (min (c : Int) (A (t + 1) f % 32))) ∧ A' = A ∧ c ≤ 16 ∧ (c < 16 → ((A (t + 1) f / 32).toNat ^^^ (A (t + 1) (o - 1) / 32).toNat) / 2 ^ (15 - c) = 1)) := by
  have h374 := (ni_usT hs).1
  have hn := hT.1.1
  have hpf := nq_pre hT (show (f : Int) < A t 3 by omega)
  have hpl := nq_pre hT (show ((o - 1 : Nat) : Int) < A t 3 by omega)
  obtain ⟨fa, hfa⟩ := Int.eq_ofNat_of_zero_le (show 0 ≤ A (t + 1) f / 32 by omega)
  obtain ⟨la, hla⟩ := Int.eq_ofNat_of_zero_le (show 0 ≤ A (t + 1) (o - 1) / 32 by omega)
  obtain ⟨c, hc16, hcx, hPc⟩ := mt_common (xs := xs) (a := fa) (b := la) (by omega) (by omega)
  refine ni_Min (ls := [ni_aP (t + 1), ni_aI ((f : Int)), ni_aI ((o : Int)), .inl ni_J, .inl ni_J]) (fun _ => Nat.le_of_ble_eq_true rfl) (fun _ _ => rfl) ?_
  refine E_Ld (q := 1) rfl rfl (fun _ _ => rfl) ?_
  refine E_Ld (q := 2) rfl rfl (fun _ _ => rfl) ?_
  refine E_Ald (q := 3) (j := f) (e := A (t + 1) (f)) rfl (ni_o8_1 hs hk).1 (ni_o8_1 hs hk).2.1 (ni_o8_1 hs hk).2.2.1 rfl (by omega) (by decide) (ni_L8 (ni_o8_1 hs hk).1 (ni_o8_1 hs hk).2.2.2 (by omega) (by omega)) (fun _ _ => rfl) ?_
  refine E_C (q := 6) (w := some (ni_aI (A (t + 1) f / 32))) rfl (Nat.le_of_ble_eq_true rfl) rfl rfl (Nat.le_of_ble_eq_true rfl) (ni_PuUp (mt_addrOf (x := A (t + 1) f) (by omega)) (by decide)) (fun _ _ => rfl) (fun _ _ => rfl) ?_
  rw [hfa]
  refine E_St (q := 7) (ls' := [ni_aP (t + 1), ni_aI ((f : Int)), ni_aI ((o : Int)), ni_aI ((fa : Int)), .inl ni_J]) rfl (fun _ _ => rfl) (fun _ _ => rfl) ?_
  refine E_Ld (q := 8) rfl rfl (fun _ _ => rfl) ?_
  refine E_Ld (q := 9) rfl rfl (fun _ _ => rfl) ?_
  refine E_push (q := 10) (c := 1) (z := 1) rfl rfl ?_
  refine E_sub (q := 11) rfl ?_
  refine E_Ald (q := 12) (j := (o - 1)) (e := A (t + 1) ((o - 1))) rfl (ni_o8_1 hs hk).1 (ni_o8_1 hs hk).2.1 (ni_o8_1 hs hk).2.2.1 (by omega) (by omega) (by decide) (ni_L8 (ni_o8_1 hs hk).1 (ni_o8_1 hs hk).2.2.2 (by omega) (by omega)) (fun _ _ => rfl) ?_
  refine E_C (q := 15) (w := some (ni_aI (A (t + 1) (o - 1) / 32))) rfl (Nat.le_of_ble_eq_true rfl) rfl rfl (Nat.le_of_ble_eq_true rfl) (ni_PuUp (mt_addrOf (x := A (t + 1) (o - 1)) (by omega)) (by decide)) (fun _ _ => rfl) (fun _ _ => rfl) ?_
  rw [hla]
  refine E_St (q := 17) (ls' := [ni_aP (t + 1), ni_aI ((f : Int)), ni_aI ((o : Int)), ni_aI ((fa : Int)), ni_aI ((la : Int))]) rfl (fun _ _ => rfl) (fun _ _ => rfl) ?_
  refine E_Ld (q := 18) rfl rfl (fun _ _ => rfl) ?_
  refine E_Ld (q := 20) rfl rfl (fun _ _ => rfl) ?_
  refine E_C (q := 23) (w := some (ni_aI ((c : Int)))) rfl (Nat.le_of_ble_eq_true rfl) rfl rfl (Nat.le_of_ble_eq_true rfl) (ni_PuUp hPc (by decide)) (fun _ _ => rfl) (fun _ _ => rfl) ?_
  refine E_Ld (q := 24) rfl rfl (fun _ _ => rfl) ?_
  refine E_Ld (q := 25) rfl rfl (fun _ _ => rfl) ?_
  refine E_Ald (q := 26) (j := f) (e := A (t + 1) (f)) rfl (ni_o8_1 hs hk).1 (ni_o8_1 hs hk).2.1 (ni_o8_1 hs hk).2.2.1 rfl (by omega) (by decide) (ni_L8 (ni_o8_1 hs hk).1 (ni_o8_1 hs hk).2.2.2 (by omega) (by omega)) (fun _ _ => rfl) ?_
  refine E_C (q := 29) (w := some (ni_aI (A (t + 1) f % 32))) rfl (Nat.le_of_ble_eq_true rfl) rfl rfl (Nat.le_of_ble_eq_true rfl) (ni_PuUp (mt_lenOf (x := A (t + 1) f) (by omega)) (by decide)) (fun _ _ => rfl) (fun _ _ => rfl) ?_
  refine E_IM (q := 32) (c := min (c : Int) (A (t + 1) f % 32)) rfl (Nat.le_of_ble_eq_true rfl) (zi_min ⟨by omega, by omega⟩ ⟨by omega, by omega⟩) ?_
  refine E_R rfl (fun _ _ => rfl) (fun _ _ => rfl) ?_
  exact ⟨c, rfl, rfl, hc16, by rw [Int.toNat_natCast, Int.toNat_natCast]; exact hcx⟩
/-- two numbers in order that differ at a bit first -/
theorem nq_bit {a b k : Nat} (hab : a ≤ b) (h : (a ^^^ b) / 2 ^ k = 1) : a / 2 ^ k % 2 = 0 ∧ b / 2 ^ k % 2 = 1 := by
  have h1 : (a / 2 ^ k) ^^^ (b / 2 ^ k) = 1 := by
    rw [← Nat.shiftRight_eq_div_pow, ← Nat.shiftRight_eq_div_pow, ← Nat.shiftRight_xor_distrib, Nat.shiftRight_eq_div_pow]
    exact h
  have h2 : a / 2 ^ k ≤ b / 2 ^ k := Nat.div_le_div_right hab
  generalize a / 2 ^ k = x at h1 h2
  generalize b / 2 ^ k = y at h1 h2
  have h4 : (x ^^^ y) / 2 = x / 2 ^^^ y / 2 := Nat.xor_div_two
  rw [h1] at h4
  have h5 : x / 2 = y / 2 := by
    have h6 : x / 2 ^^^ (x / 2 ^^^ y / 2) = y / 2 := by rw [← Nat.xor_assoc, Nat.xor_self, Nat.zero_xor]
    rw [← h4] at h6
    rw [← h6]
    show x / 2 = x / 2 ^^^ 0
    rw [Nat.xor_zero]
  have h7 : x ≠ y := fun z => by
    rw [z, Nat.xor_self] at h1
    omega
  omega
end NTR
