/-! LETTERS ARE SENT -/
section NTL
variable {Z : (Nat → Nat) → Prop} {xs : List Int32} {St : Nat → Option ni_C} {A : Nat → Nat → Int}
theorem mt_putT {M0 M : ni_H} {ad rw0 cp0 rw cp : Nat → Nat} {l b : Nat} {t : Int} {c : ni_C} (hs : ni_us l = true) (hk : ni_kd l = 2) (hb : St b = some c) (hc : c.1 = 1) (h0 : 0 ≤ A l 2) (hlt : A l 2 < cp (l + 1)) (h1 : ni_Sx St M0 ad rw0 cp0 M rw cp A (ni_live A)) : wp_G xs 2 65 33 [.ref (ad l), .ref b, ni_z t] [] M (fun u M' => u = (fun _ => none : (Nat → Nat) → Option Value) ad ∧ ∃ rw' cp', ni_Rep St M' ad rw' cp' (ni_u2 (ni_u2 (ni_u2 A (l + 1) (A l 2).toNat (b : Int)) (l + 2) (A l 2).toNat t) l 2 (A l 2 + 1)) (ni_live (ni_u2 (ni_u2 (ni_u2 A (l + 1) (A l 2).toNat (b : Int)) (l + 2) (A l 2).toNat t) l 2 (A l 2 + 1))) ∧ ni_Kp M0 ad rw0 cp0 M' rw' cp') := by
  have h374 := (ni_usT hs).1
  have b1 := ni_o2_1 hs hk
  have b2 := ni_o2_2 hs hk
  have hcb := ni_cpB h1.1.2.2.1 (ni_lnsC hs hk)
  have l1 : (A l 2).toNat = ni_live A (l + 1) := (ni_liveC b1.2.2.2 (by omega)).symm
  have l2 : (A l 2).toNat = ni_live A (l + 2) := (ni_liveC b2.2.2.2 (by omega)).symm
  have c1 := ni_clR A
  refine wp_Ld rfl rfl rfl ?_
  refine ws_Get (v := .ref (rw (l + 1))) rfl h1 hs hk rfl rfl rfl ?_
  refine wp_Ld rfl rfl rfl ?_
  refine ws_Get (v := ni_z (A l 2)) rfl h1 hs hk rfl rfl rfl ?_
  refine wp_Ld rfl rfl rfl ?_
  refine ws_Qst (j := (A l 2).toNat) (b := b) rfl h1 b1.1 b1.2.1 (ni_plR (ni_lrO b1.2.2.1)) (by omega) (by omega) (by omega) hb hc (Or.inr ⟨rfl, l1⟩) fun M2 h2 => ?_
  have c2 := ni_cl1 (n := (A l 2).toNat + 1) (ni_clU (j := (A l 2).toNat) (x := (b : Int)) c1 b1.1 b1.2.1 rfl) (Nat.le_succ_of_le (Nat.le_of_eq l1.symm))
  refine wp_Ld rfl rfl rfl ?_
  refine ws_Get (v := .ref (rw (l + 2))) rfl h2 hs hk rfl rfl rfl ?_
  refine wp_Ld rfl rfl rfl ?_
  refine ws_Get (v := ni_z (A l 2)) rfl h2 hs hk rfl rfl (congrArg ni_z (ni_u2n (Or.inl (by omega)))) ?_
  refine wp_Ld rfl rfl rfl ?_
  have l2' : (A l 2).toNat = ni_u1 (ni_live A) (l + 1) ((A l 2).toNat + 1) (l + 2) := by rw [ni_u1n (by omega)]; exact l2
  refine ws_AstR (t := 100) (j := (A l 2).toNat) (x := t) rfl h2 b2.1 b2.2.1 (ni_lrO b2.2.2.1) (by omega) (by omega) (by omega) (Or.inr ⟨rfl, l2'⟩) fun M3 h3 => ?_
  have c3 := ni_cl1 (n := (A l 2).toNat + 1) (ni_clU (j := (A l 2).toNat) (x := t) c2 b2.1 b2.2.1 rfl) (Nat.le_succ_of_le (Nat.le_of_eq l2'.symm))
  refine wp_Ld rfl rfl rfl ?_
  refine wp_P (g := ni_gDup 55) rfl rfl ?_
  refine ws_Get (v := ni_z (A l 2)) rfl h3 hs hk rfl rfl (congrArg ni_z ((ni_u2n (Or.inl (by omega))).trans (ni_u2n (Or.inl (by omega))))) ?_
  refine wp_P (g := ni_gPush (.int (1)) 59) rfl (wp_push (z := 1) rfl) ?_
  refine wp_P rfl wp_add ?_
  refine ws_Put rfl h3 hs hk rfl rfl (fun _ => rfl) rfl (fun _ _ => by omega) fun M4 h4 => ?_
  have c4 := ni_clC (j := 2) (x := A l 2 + 1) c3 hs (by omega) (fun s' hs' e => by
    obtain ⟨q1, q2, q3⟩ := ni_ctS hs' e (by omega)
    rw [hk] at q3
    obtain q | q : s' = l + 1 ∨ s' = l + 2 := by omega
    · rw [q, ni_u1n (by omega), ni_u1e]
      omega
    · rw [q, ni_u1e]
      omega)
  exact ws_Rv (v := fun _ => none) rfl rfl h4 c4 rfl
theorem mt_putL {l b : Nat} {t : Int} {c : ni_C} (hs : ni_us l = true) (hk : ni_kd l = 2) (hb : St b = some c) (hc : c.1 = 1) (h0 : 0 ≤ A l 2) (hL : ∀ j : Nat, (j : Int) < A l 2 → ∃ c, St (A (l + 1) j).toNat = some c ∧ c.1 = 1) : ni_Dc xs St 3 65 (fun ad => [.ref (ad l), .ref b, ni_z t]) A (fun _ => none) (ni_putL A l b t) := by
  have h374 := (ni_usT hs).1
  have b1 := ni_o2_1 hs hk
  refine ni_Dw (fun _ => Nat.le_of_ble_eq_true rfl) (fun _ => rfl) ?_
  intro M0 ad rw cp hR
  have h1 : ni_Sx St M0 ad rw cp M0 rw cp A (ni_live A) := ⟨hR, ni_KpR⟩
  have c1 := ni_clR A
  have hcb := ni_cpB hR.2.2.1 (ni_lnsC hs hk)
  have hA2 := hR.2.2.2.1 l (ni_lnsC hs hk)
  unfold ni_putL
  refine wp_Ld rfl rfl rfl ?_
  refine ws_Get (v := ni_z (A l 2)) rfl h1 hs hk rfl rfl rfl ?_
  refine wp_P (g := ni_gPush (.int (2048)) 7) rfl (wp_push (z := 2048) rfl) ?_
  by_cases g : 2048 ≤ A l 2
  · rw [if_pos g]
    refine wp_Ic false rfl (zc_lt_f ⟨by omega, by omega⟩ ⟨by omega, by omega⟩ (by omega)) ?_
    exact ws_Rv (v := fun _ => none) rfl rfl h1 c1 rfl
  · rw [if_neg g]
    refine wp_Ic true rfl (zc_lt_t ⟨by omega, by omega⟩ ⟨by omega, by omega⟩ (by omega)) ?_
    refine wp_Ld rfl rfl rfl ?_
    refine ws_Get (v := ni_z (A l 2)) rfl h1 hs hk rfl rfl rfl ?_
    refine wp_Ld rfl rfl rfl ?_
    refine ws_Get (v := .ref (rw (l + 1))) rfl h1 hs hk rfl rfl rfl ?_
    refine ws_LenR (t := 104) rfl h1 b1.1 b1.2.1 (ni_lrO b1.2.2.1) (by decide) ?_
    by_cases e : A l 2 < cp (l + 1)
    · refine wp_Ic true rfl (zc_lt_t ⟨by omega, by omega⟩ ⟨by omega, by omega⟩ e) ?_
      exact mt_putT hs hk hb hc h0 e h1
    · refine wp_Ic false rfl (zc_lt_f ⟨by omega, by omega⟩ ⟨by omega, by omega⟩ e) ?_
      refine wp_Ld rfl rfl rfl ?_
      refine wp_Ld rfl rfl rfl ?_
      refine ws_Get (v := ni_z (A l 2)) rfl h1 hs hk rfl rfl rfl ?_
      refine wp_P (g := ni_gPush (.int (2)) 29) rfl (wp_push (z := 2) rfl) ?_
      refine wp_P rfl wp_mul ?_
      obtain ⟨_, k, hk8, hcp⟩ := hR.2.2.1.2 l (ni_lnsC hs hk)
      obtain ⟨vs, q1, _⟩ := hR.2.1 l hs
      have hpl0 : ni_pl ad rw l = ad l := by
        unfold ni_pl
        rw [(ni_objS hs hk rfl).2.1, cond_false]
      rw [hpl0, hk] at q1
      have hk7 : k + 1 ≤ 8 := by
        have hne : k ≠ 8 := fun z => by
          rw [z] at hcp
          have : (2 : Nat) ^ 8 = 256 := rfl
          omega
        omega
      have e2 : (2 : Nat) ^ (k + 1) = 2 * 2 ^ k := by rw [Nat.pow_succ]; omega
      have hmr := mt_makeRoom (xs := xs) (m := 2 * cp (l + 1)) (k' := k + 1) hs hk hR (by rw [e2, hcp]; omega) hk7 (Nat.le_refl _) h0 hL
      rw [show A l 2 * 2 = ((2 * cp (l + 1) : Nat) : Int) by omega]
      refine wp_V (as := [ni_z ((2 * cp (l + 1) : Nat) : Int)]) (r := []) rfl rfl rfl q1 (Nat.le_of_ble_eq_true rfl) hmr ?_
      rintro u M' ⟨hu, rw', cp', hR', hK', hc'⟩
      rw [hu]
      exact mt_putT hs hk hb hc h0 (by rw [hc']; omega) ⟨hR', hK'⟩
/-- the line along which a router sends -/
def ni_sd (A : Nat → Nat → Int) (l : Nat) (r : Int) : Nat := if r = A l 0 then l + 2 else l + 10
theorem mt_tellA {l b : Nat} {r : Int} {c : ni_C} (hs : ni_us l = true) (hk : ni_kd l = 3) (hr : 0 ≤ r ∧ r ≤ 100) (h0a : 0 ≤ A l 0 ∧ A l 0 ≤ 100) (h1a : 0 ≤ A l 1 ∧ A l 1 ≤ 100) (hra : r = A l 0) (hb : St b = some c) (hc : c.1 = 1) (h2 : 0 ≤ A (l + 1 + 1) 2) (hL : ∀ j : Nat, (j : Int) < A (l + 1 + 1) 2 → ∃ c, St (A (l + 1 + 1 + 1) j).toNat = some c ∧ c.1 = 1) : ni_M xs St 4 93 [ni_aP 0, ni_aI r, ni_aL b, ni_aP l] A (fun v A' => v = none ∧ A' = ni_putL A (l + 1 + 1) b (A 0 0 + A l 4)) := by
  have h374 := (ni_usT hs).1
  refine ni_Min (ls := [ni_aP (0), ni_aI (r), ni_aL (b), ni_aP (l)]) (fun _ => Nat.le_of_ble_eq_true rfl) (fun _ _ => rfl) ?_
  refine E_Ld (q := 1) rfl rfl (fun _ _ => rfl) ?_
  refine E_Ld (q := 2) rfl rfl (fun _ _ => rfl) ?_
  refine E_V (q := 5) (w := some (ni_aP (l + 1))) rfl rfl rfl hs hk rfl (Nat.le_of_ble_eq_true rfl) (fun _ _ _ => rfl) (ni_Dup (mt_portA hr h0a h1a hra hs hk) (by decide)) (fun _ _ => rfl) (fun _ _ => rfl) ?_
  refine E_Get (q := 8) (v := ni_aP (l + 1 + 1)) rfl (ni_o3_1 hs hk).1 (ni_o3_1 hs hk).2.1 rfl rfl (fun _ _ => rfl) ?_
  refine E_Ld (q := 9) rfl rfl (fun _ _ => rfl) ?_
  refine E_Ld (q := 10) rfl rfl (fun _ _ => rfl) ?_
  refine E_GetI (q := 13) (e := A (0) 0) rfl (show ni_us 0 = true by decide +kernel) (show ni_kd 0 = 4 by decide +kernel) rfl rfl (fun _ _ => rfl) ?_
  refine E_Ld (q := 14) rfl rfl (fun _ _ => rfl) ?_
  refine E_GetI (q := 17) (e := A (l) 4) rfl hs hk rfl rfl (fun _ _ => rfl) ?_
  refine E_add (q := 18) rfl ?_
  refine E_V (q := 21) (w := none) rfl rfl rfl (ni_o5_1 (ni_o3_1 hs hk).1 (ni_o3_1 hs hk).2.1).1 (ni_o5_1 (ni_o3_1 hs hk).1 (ni_o3_1 hs hk).2.1).2.1 rfl (Nat.le_of_ble_eq_true rfl) (fun _ _ _ => rfl) (mt_putL (t := A 0 0 + A l 4) (ni_o5_1 (ni_o3_1 hs hk).1 (ni_o3_1 hs hk).2.1).1 (ni_o5_1 (ni_o3_1 hs hk).1 (ni_o3_1 hs hk).2.1).2.1 hb hc h2 hL) (fun _ _ => rfl) (fun _ _ => rfl) ?_
  refine E_Rv rfl rfl ?_
  exact ⟨rfl, rfl⟩
theorem mt_tellB {l b : Nat} {r : Int} {c : ni_C} (hs : ni_us l = true) (hk : ni_kd l = 3) (hr : 0 ≤ r ∧ r ≤ 100) (h0a : 0 ≤ A l 0 ∧ A l 0 ≤ 100) (h1a : 0 ≤ A l 1 ∧ A l 1 ≤ 100) (hra : ¬ r = A l 0) (hb : St b = some c) (hc : c.1 = 1) (h2 : 0 ≤ A (l + 9 + 1) 2) (hL : ∀ j : Nat, (j : Int) < A (l + 9 + 1) 2 → ∃ c, St (A (l + 9 + 1 + 1) j).toNat = some c ∧ c.1 = 1) : ni_M xs St 4 93 [ni_aP 0, ni_aI r, ni_aL b, ni_aP l] A (fun v A' => v = none ∧ A' = ni_putL A (l + 9 + 1) b (A 0 0 + A l 4)) := by
  have h374 := (ni_usT hs).1
  refine ni_Min (ls := [ni_aP (0), ni_aI (r), ni_aL (b), ni_aP (l)]) (fun _ => Nat.le_of_ble_eq_true rfl) (fun _ _ => rfl) ?_
  refine E_Ld (q := 1) rfl rfl (fun _ _ => rfl) ?_
  refine E_Ld (q := 2) rfl rfl (fun _ _ => rfl) ?_
  refine E_V (q := 5) (w := some (ni_aP (l + 9))) rfl rfl rfl hs hk rfl (Nat.le_of_ble_eq_true rfl) (fun _ _ _ => rfl) (ni_Dup (mt_portB hr h0a h1a hra hs hk) (by decide)) (fun _ _ => rfl) (fun _ _ => rfl) ?_
  refine E_Get (q := 8) (v := ni_aP (l + 9 + 1)) rfl (ni_o3_9 hs hk).1 (ni_o3_9 hs hk).2.1 rfl rfl (fun _ _ => rfl) ?_
  refine E_Ld (q := 9) rfl rfl (fun _ _ => rfl) ?_
  refine E_Ld (q := 10) rfl rfl (fun _ _ => rfl) ?_
  refine E_GetI (q := 13) (e := A (0) 0) rfl (show ni_us 0 = true by decide +kernel) (show ni_kd 0 = 4 by decide +kernel) rfl rfl (fun _ _ => rfl) ?_
  refine E_Ld (q := 14) rfl rfl (fun _ _ => rfl) ?_
  refine E_GetI (q := 17) (e := A (l) 4) rfl hs hk rfl rfl (fun _ _ => rfl) ?_
  refine E_add (q := 18) rfl ?_
  refine E_V (q := 21) (w := none) rfl rfl rfl (ni_o5_1 (ni_o3_9 hs hk).1 (ni_o3_9 hs hk).2.1).1 (ni_o5_1 (ni_o3_9 hs hk).1 (ni_o3_9 hs hk).2.1).2.1 rfl (Nat.le_of_ble_eq_true rfl) (fun _ _ _ => rfl) (mt_putL (t := A 0 0 + A l 4) (ni_o5_1 (ni_o3_9 hs hk).1 (ni_o3_9 hs hk).2.1).1 (ni_o5_1 (ni_o3_9 hs hk).1 (ni_o3_9 hs hk).2.1).2.1 hb hc h2 hL) (fun _ _ => rfl) (fun _ _ => rfl) ?_
  refine E_Rv rfl rfl ?_
  exact ⟨rfl, rfl⟩
end NTL
