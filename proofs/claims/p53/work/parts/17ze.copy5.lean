/-! COPIES: THE NET -/
section NCY5
variable {xs : List Int32} {St : Nat → Option ni_C} {sd sr : Nat → Nat} {X : Nat → Nat → Int}
theorem nk_cpO {B : Nat → Nat → Int} {lo hi s j : Nat} (h : s < lo ∨ hi ≤ s) : nq_cpy B X lo hi s j = B s j := by
  unfold nq_cpy
  rw [if_neg (by omega)]
theorem nk_cpM {B : Nat → Nat → Int} {a b c : Nat} (h1 : a ≤ b) (h2 : b ≤ c) : nq_cpy (nq_cpy B X a b) X b c = nq_cpy B X a c := by
  funext s j
  unfold nq_cpy
  by_cases g : b ≤ s ∧ s < c
  · rw [if_pos g, if_pos (by omega)]
  · rw [if_neg g]
    by_cases g2 : a ≤ s ∧ s < b
    · rw [if_pos g2, if_pos (by omega)]
    · rw [if_neg g2, if_neg (by omega)]
theorem nk_clM {L : Nat → Nat} {a b c : Nat} (h1 : a ≤ b) (h2 : b ≤ c) : nq_cpL (nq_cpL L X a b) X b c = nq_cpL L X a c := by
  funext s
  unfold nq_cpL
  by_cases g : b ≤ s ∧ s < c
  · rw [if_pos g, if_pos (by omega)]
  · rw [if_neg g]
    by_cases g2 : a ≤ s ∧ s < b
    · rw [if_pos g2, if_pos (by omega)]
    · rw [if_neg g2, if_neg (by omega)]
theorem nk_cp0 {B : Nat → Nat → Int} {a : Nat} : nq_cpy B X a a = B := by
  funext s j
  exact nk_cpO (by omega)
theorem nk_cl0 {L : Nat → Nat} {a : Nat} : nq_cpL L X a a = L := by
  funext s
  unfold nq_cpL
  rw [if_neg (by omega)]
theorem nk_lkS : ∀ l : Nat, l < 14 → ni_us (48 + 17 * l) = true ∧ ni_kd (48 + 17 * l) = 3 := by decide +kernel
theorem nk_roN : ∀ r : Nat, r < 8 → (ni_us (286 + 11 * r + 1) = false ∧ ni_us (286 + 11 * r + 2) = false ∧ ni_us (286 + 11 * r + 3) = false) ∧ ni_ct (286 + 11 * r + 4) = (998, r) := by decide +kernel
theorem nk_rl8 {r : Nat} (hr : r < 8) (h : (r : Int) < X 0 1) : 8 ≤ ni_live X (286 + 11 * r + 4) := by
  unfold ni_live
  rw [(nk_roN r hr).2]
  show 8 ≤ (if (r : Int) < X 0 1 then 8 else 0)
  rw [if_pos h]
  exact Nat.le_refl 8
/-- what may be copied -/
def nk_ok (St : Nat → Option ni_C) (X : Nat → Nat → Int) : Prop := (0 ≤ X 0 1 ∧ X 0 1 ≤ 8) ∧ (0 ≤ X 0 2 ∧ X 0 2 ≤ 14) ∧ (0 ≤ X 0 3 ∧ X 0 3 ≤ 12) ∧ (0 ≤ X 4 3 ∧ X 4 3 ≤ 24) ∧ (0 ≤ X 8 3 ∧ X 8 3 ≤ 24) ∧ (∀ r : Nat, r < 8 → (r : Int) < X 0 1 → X (286 + 11 * r) 0 = r ∧ (0 ≤ X (286 + 11 * r) 5 ∧ X (286 + 11 * r) 5 ≤ 1) ∧ (0 ≤ X (286 + 11 * r + 7) 3 ∧ X (286 + 11 * r + 7) 3 ≤ 216) ∧ ∀ i : Nat, i < 8 → 0 ≤ X (286 + 11 * r + 4) i ∧ ∃ c, St (X (286 + 11 * r + 4) i).toNat = some c ∧ c.1 = 1) ∧ (∀ l : Nat, l < 14 → (l : Int) < X 0 2 → (0 ≤ X (48 + 17 * l) 5 ∧ X (48 + 17 * l) 5 ≤ 1) ∧ nk_po St X (48 + 17 * l + 1) ∧ nk_po St X (48 + 17 * l + 9)) ∧ ∀ l : Nat, l < 14 → X 0 2 ≤ l → X (50 + 17 * l) 2 = 0 ∧ X (58 + 17 * l) 2 = 0
theorem mt_cpNr {n : Nat} {P : (Nat → Nat → Int) → (Nat → Nat) → Prop} (hX : nk_src St sd sr X) (B : Nat → Nat → Int) (L : Nat → Nat) (hB : B 0 1 = (n : Int)) (hn : n ≤ 8) (hnX : X 0 1 = (n : Int)) (hf : ∀ r : Nat, r < 8 → (r : Int) < X 0 1 → X (286 + 11 * r) 0 = r ∧ (0 ≤ X (286 + 11 * r) 5 ∧ X (286 + 11 * r) 5 ≤ 1) ∧ (0 ≤ X (286 + 11 * r + 7) 3 ∧ X (286 + 11 * r + 7) 3 ≤ 216) ∧ ∀ i : Nat, i < 8 → 0 ≤ X (286 + 11 * r + 4) i ∧ ∃ c, St (X (286 + 11 * r + 4) i).toNat = some c ∧ c.1 = 1) (hid : ∀ r : Nat, r < 8 → B (286 + 11 * r) 0 = r) (hE : nk_E xs St 5 77 63 [ni_aP 0, ni_aL (sd 0), ni_aI (n : Int)] [] (nq_cpy B X 286 (286 + 11 * n)) (nq_cpL L X 286 (286 + 11 * n)) P) : ∀ k i : Nat, i + k = n → nk_E xs St 5 77 34 [ni_aP 0, ni_aL (sd 0), ni_aI (i : Int)] [] (nq_cpy B X 286 (286 + 11 * i)) (nq_cpL L X 286 (286 + 11 * i)) P := by
  intro k
  induction k with
  | zero =>
    intro i hi
    have hin : i = n := by omega
    subst hin
    have e1 : (nq_cpy B X 286 (286 + 11 * i)) (0) 1 = (i : Int) := (nk_cpO (by omega)).trans hB
    refine K_Ld (q := 35) rfl rfl (fun _ _ => rfl) ?_
    refine K_Ld (q := 36) rfl rfl (fun _ _ => rfl) ?_
    refine K_GetI (q := 39) (e := (nq_cpy B X 286 (286 + 11 * i)) (0) 1) rfl (show ni_us 0 = true by decide +kernel) (show ni_kd 0 = 4 by decide +kernel) rfl rfl (fun _ _ => rfl) ?_
    refine K_Ic true rfl (zc_ge_t ⟨by omega, by omega⟩ ⟨by omega, by omega⟩ (by omega)) ?_
    exact hE
  | succ k ih =>
    intro i hi
    have hi8 : i < 8 := by omega
    have hiX : (i : Int) < X 0 1 := by omega
    obtain ⟨g1, g2, g3, g4⟩ := hf i hi8 hiX
    have e1 : (nq_cpy B X 286 (286 + 11 * i)) (0) 1 = (n : Int) := (nk_cpO (by omega)).trans hB
    refine K_Ld (q := 35) rfl rfl (fun _ _ => rfl) ?_
    refine K_Ld (q := 36) rfl rfl (fun _ _ => rfl) ?_
    refine K_GetI (q := 39) (e := (nq_cpy B X 286 (286 + 11 * i)) (0) 1) rfl (show ni_us 0 = true by decide +kernel) (show ni_kd 0 = 4 by decide +kernel) rfl rfl (fun _ _ => rfl) ?_
    refine K_Ic false rfl (zc_ge_f ⟨by omega, by omega⟩ ⟨by omega, by omega⟩ (by omega)) ?_
    refine K_Ld (q := 43) rfl rfl (fun _ _ => rfl) ?_
    refine K_Get (q := 46) (v := ni_aP 1) rfl (show ni_us 0 = true by decide +kernel) (show ni_kd 0 = 4 by decide +kernel) rfl rfl (fun _ _ => rfl) ?_
    refine K_Ld (q := 47) rfl rfl (fun _ _ => rfl) ?_
    refine K_Qld (q := 48) (j := i) (v := ni_aP (286 + 11 * i)) rfl (show ni_us 1 = true by decide +kernel) (show ni_kd 1 = 101 by decide +kernel) (show ni_ln 1 = 8 by decide +kernel) ⟨by decide, rfl⟩ rfl (by omega) (by decide) (by decide +kernel) (fun _ _ => rfl) (fun _ _ => rfl) ?_
    refine K_Ld (q := 49) rfl rfl (fun _ _ => rfl) ?_
    refine K_GetX (q := 52) (w := .ref (sd (1))) hX rfl (show ni_us 0 = true by decide +kernel) (show ni_kd 0 = 4 by decide +kernel) rfl rfl rfl ?_
    refine K_Ld (q := 53) rfl rfl (fun _ _ => rfl) ?_
    refine K_QldX (q := 54) (j := i) (a := sd (286 + 11 * i)) hX rfl (show ni_us 1 = true by decide +kernel) (show ni_kd 1 = 101 by decide +kernel) rfl rfl (by omega) (nk_l9 (n := 8) (by decide +kernel) (by decide +kernel) (by omega) (by omega)) rfl ?_
    refine K_V (q := 57) rfl rfl rfl (ni_roS i hi8).1 (ni_roS i hi8).2 rfl (Nat.le_of_ble_eq_true rfl) (fun _ _ _ => rfl) (nk_Dup (mt_cpR (ni_roS i hi8).1 (ni_roS i hi8).2 (by omega) (nk_roN i hi8).1 g2 g3 hX (nk_rl8 hi8 hiX) g4 _ (by rw [nk_cpO (by omega), hid i hi8, g1]) _) (by decide)) (fun _ _ => rfl) ?_
    rw [nk_cpM (by omega) (by omega), nk_clM (by omega) (by omega), show 286 + 11 * i + 11 = 286 + 11 * (i + 1) by omega]
    refine K_Inc (q := 60) (ls' := [ni_aP (0), ni_aL (sd (0)), ni_aI ((i : Int) + 1)]) (z := 1) rfl rfl rfl (fun _ _ => rfl) ?_
    refine K_Go (q := 34) rfl ?_
    exact ih (i + 1) (by omega)
theorem mt_cpNl {n : Nat} {P : (Nat → Nat → Int) → (Nat → Nat) → Prop} (hX : nk_src St sd sr X) (B : Nat → Nat → Int) (L : Nat → Nat) (hB : B 0 2 = (n : Int)) (hn : n ≤ 14) (hnX : X 0 2 = (n : Int)) (hf : ∀ l : Nat, l < 14 → (l : Int) < X 0 2 → (0 ≤ X (48 + 17 * l) 5 ∧ X (48 + 17 * l) 5 ≤ 1) ∧ nk_po St X (48 + 17 * l + 1) ∧ nk_po St X (48 + 17 * l + 9)) (hE : nk_E xs St 5 77 94 [ni_aP 0, ni_aL (sd 0), ni_aI (n : Int)] [] (nq_cpy B X 48 (48 + 17 * n)) (nq_cpL L X 48 (48 + 17 * n)) P) : ∀ k i : Nat, i + k = n → nk_E xs St 5 77 65 [ni_aP 0, ni_aL (sd 0), ni_aI (i : Int)] [] (nq_cpy B X 48 (48 + 17 * i)) (nq_cpL L X 48 (48 + 17 * i)) P := by
  intro k
  induction k with
  | zero =>
    intro i hi
    have hin : i = n := by omega
    subst hin
    have e1 : (nq_cpy B X 48 (48 + 17 * i)) (0) 2 = (i : Int) := (nk_cpO (by omega)).trans hB
    refine K_Ld (q := 66) rfl rfl (fun _ _ => rfl) ?_
    refine K_Ld (q := 67) rfl rfl (fun _ _ => rfl) ?_
    refine K_GetI (q := 70) (e := (nq_cpy B X 48 (48 + 17 * i)) (0) 2) rfl (show ni_us 0 = true by decide +kernel) (show ni_kd 0 = 4 by decide +kernel) rfl rfl (fun _ _ => rfl) ?_
    refine K_Ic true rfl (zc_ge_t ⟨by omega, by omega⟩ ⟨by omega, by omega⟩ (by omega)) ?_
    exact hE
  | succ k ih =>
    intro i hi
    have hi8 : i < 14 := by omega
    have hiX : (i : Int) < X 0 2 := by omega
    obtain ⟨g1, g2, g3⟩ := hf i hi8 hiX
    have e1 : (nq_cpy B X 48 (48 + 17 * i)) (0) 2 = (n : Int) := (nk_cpO (by omega)).trans hB
    refine K_Ld (q := 66) rfl rfl (fun _ _ => rfl) ?_
    refine K_Ld (q := 67) rfl rfl (fun _ _ => rfl) ?_
    refine K_GetI (q := 70) (e := (nq_cpy B X 48 (48 + 17 * i)) (0) 2) rfl (show ni_us 0 = true by decide +kernel) (show ni_kd 0 = 4 by decide +kernel) rfl rfl (fun _ _ => rfl) ?_
    refine K_Ic false rfl (zc_ge_f ⟨by omega, by omega⟩ ⟨by omega, by omega⟩ (by omega)) ?_
    refine K_Ld (q := 74) rfl rfl (fun _ _ => rfl) ?_
    refine K_Get (q := 77) (v := ni_aP 2) rfl (show ni_us 0 = true by decide +kernel) (show ni_kd 0 = 4 by decide +kernel) rfl rfl (fun _ _ => rfl) ?_
    refine K_Ld (q := 78) rfl rfl (fun _ _ => rfl) ?_
    refine K_Qld (q := 79) (j := i) (v := ni_aP (48 + 17 * i)) rfl (show ni_us 2 = true by decide +kernel) (show ni_kd 2 = 102 by decide +kernel) (show ni_ln 2 = 14 by decide +kernel) ⟨by decide, rfl⟩ rfl (by omega) (by decide) (by decide +kernel) (fun _ _ => rfl) (fun _ _ => rfl) ?_
    refine K_Ld (q := 80) rfl rfl (fun _ _ => rfl) ?_
    refine K_GetX (q := 83) (w := .ref (sd (2))) hX rfl (show ni_us 0 = true by decide +kernel) (show ni_kd 0 = 4 by decide +kernel) rfl rfl rfl ?_
    refine K_Ld (q := 84) rfl rfl (fun _ _ => rfl) ?_
    refine K_QldX (q := 85) (j := i) (a := sd (48 + 17 * i)) hX rfl (show ni_us 2 = true by decide +kernel) (show ni_kd 2 = 102 by decide +kernel) rfl rfl (by omega) (nk_l9 (n := 14) (by decide +kernel) (by decide +kernel) (by omega) (by omega)) rfl ?_
    refine K_V (q := 88) rfl rfl rfl (nk_lkS i hi8).1 (nk_lkS i hi8).2 rfl (Nat.le_of_ble_eq_true rfl) (fun _ _ _ => rfl) (nk_Dup (mt_cpLink (nk_lkS i hi8).1 (nk_lkS i hi8).2 g1 g2 g3 hX _ _) (by decide)) (fun _ _ => rfl) ?_
    rw [nk_cpM (by omega) (by omega), nk_clM (by omega) (by omega), show 48 + 17 * i + 17 = 48 + 17 * (i + 1) by omega]
    refine K_Inc (q := 91) (ls' := [ni_aP (0), ni_aL (sd (0)), ni_aI ((i : Int) + 1)]) (z := 1) rfl rfl rfl (fun _ _ => rfl) ?_
    refine K_Go (q := 65) rfl ?_
    exact ih (i + 1) (by omega)
theorem mt_cpNf {n : Nat} {P : (Nat → Nat → Int) → (Nat → Nat) → Prop} (hX : nk_src St sd sr X) (B : Nat → Nat → Int) (L : Nat → Nat) (hB : B 0 3 = (n : Int)) (hn : n ≤ 12) (hnX : X 0 3 = (n : Int)) (hf : True) (hE : nk_E xs St 5 77 125 [ni_aP 0, ni_aL (sd 0), ni_aI (n : Int)] [] (nq_cpy B X 12 (12 + 3 * n)) (nq_cpL L X 12 (12 + 3 * n)) P) : ∀ k i : Nat, i + k = n → nk_E xs St 5 77 96 [ni_aP 0, ni_aL (sd 0), ni_aI (i : Int)] [] (nq_cpy B X 12 (12 + 3 * i)) (nq_cpL L X 12 (12 + 3 * i)) P := by
  intro k
  induction k with
  | zero =>
    intro i hi
    have hin : i = n := by omega
    subst hin
    have e1 : (nq_cpy B X 12 (12 + 3 * i)) (0) 3 = (i : Int) := (nk_cpO (by omega)).trans hB
    refine K_Ld (q := 97) rfl rfl (fun _ _ => rfl) ?_
    refine K_Ld (q := 98) rfl rfl (fun _ _ => rfl) ?_
    refine K_GetI (q := 101) (e := (nq_cpy B X 12 (12 + 3 * i)) (0) 3) rfl (show ni_us 0 = true by decide +kernel) (show ni_kd 0 = 4 by decide +kernel) rfl rfl (fun _ _ => rfl) ?_
    refine K_Ic true rfl (zc_ge_t ⟨by omega, by omega⟩ ⟨by omega, by omega⟩ (by omega)) ?_
    exact hE
  | succ k ih =>
    intro i hi
    have hi8 : i < 12 := by omega
    have hiX : (i : Int) < X 0 3 := by omega
    skip
    have e1 : (nq_cpy B X 12 (12 + 3 * i)) (0) 3 = (n : Int) := (nk_cpO (by omega)).trans hB
    refine K_Ld (q := 97) rfl rfl (fun _ _ => rfl) ?_
    refine K_Ld (q := 98) rfl rfl (fun _ _ => rfl) ?_
    refine K_GetI (q := 101) (e := (nq_cpy B X 12 (12 + 3 * i)) (0) 3) rfl (show ni_us 0 = true by decide +kernel) (show ni_kd 0 = 4 by decide +kernel) rfl rfl (fun _ _ => rfl) ?_
    refine K_Ic false rfl (zc_ge_f ⟨by omega, by omega⟩ ⟨by omega, by omega⟩ (by omega)) ?_
    refine K_Ld (q := 105) rfl rfl (fun _ _ => rfl) ?_
    refine K_Get (q := 108) (v := ni_aP 3) rfl (show ni_us 0 = true by decide +kernel) (show ni_kd 0 = 4 by decide +kernel) rfl rfl (fun _ _ => rfl) ?_
    refine K_Ld (q := 109) rfl rfl (fun _ _ => rfl) ?_
    refine K_Qld (q := 110) (j := i) (v := ni_aP (12 + 3 * i)) rfl (show ni_us 3 = true by decide +kernel) (show ni_kd 3 = 103 by decide +kernel) (show ni_ln 3 = 12 by decide +kernel) ⟨by decide, rfl⟩ rfl (by omega) (by decide) (by decide +kernel) (fun _ _ => rfl) (fun _ _ => rfl) ?_
    refine K_Ld (q := 111) rfl rfl (fun _ _ => rfl) ?_
    refine K_GetX (q := 114) (w := .ref (sd (3))) hX rfl (show ni_us 0 = true by decide +kernel) (show ni_kd 0 = 4 by decide +kernel) rfl rfl rfl ?_
    refine K_Ld (q := 115) rfl rfl (fun _ _ => rfl) ?_
    refine K_QldX (q := 116) (j := i) (a := sd (12 + 3 * i)) hX rfl (show ni_us 3 = true by decide +kernel) (show ni_kd 3 = 103 by decide +kernel) rfl rfl (by omega) (nk_l9 (n := 12) (by decide +kernel) (by decide +kernel) (by omega) (by omega)) rfl ?_
    refine K_V (q := 119) rfl rfl rfl (ni_flS i hi8).1 (ni_flS i hi8).2 rfl (Nat.le_of_ble_eq_true rfl) (fun _ _ _ => rfl) (nk_Dup (mt_cpF hi8 hX _ _) (by decide)) (fun _ _ => rfl) ?_
    rw [nk_cpM (by omega) (by omega), nk_clM (by omega) (by omega), show 12 + 3 * i + 3 = 12 + 3 * (i + 1) by omega]
    refine K_Inc (q := 122) (ls' := [ni_aP (0), ni_aL (sd (0)), ni_aI ((i : Int) + 1)]) (z := 1) rfl rfl rfl (fun _ _ => rfl) ?_
    refine K_Go (q := 96) rfl ?_
    exact ih (i + 1) (by omega)
end NCY5
