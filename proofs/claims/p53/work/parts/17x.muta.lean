/-! THE FACE: WHAT CHANGES WITHOUT A LETTER -/
section NFM
variable {Z : (Nat → Nat) → Prop} {m n0 n1 : Nat} {xs : List Int32} {St : Nat → Option ni_C} {A : Nat → Nat → Int}
theorem mt_chkR {i a b : Int} (h : a ≤ i ∧ i ≤ b) (hn : -1000000 ≤ a ∧ b ≤ 2000000) : ni_Pu xs 1 11 [ni_z i, ni_z a, ni_z b] none := by
  intro M
  refine wp_enter (Nat.le_of_ble_eq_true rfl) rfl ?_
  refine wp_Ld rfl rfl rfl ?_
  refine wp_Ld rfl rfl rfl ?_
  refine wp_Ic false rfl (zc_lt_f ⟨by omega, by omega⟩ ⟨by omega, by omega⟩ (by omega)) ?_
  refine wp_Ld rfl rfl rfl ?_
  refine wp_Ld rfl rfl rfl ?_
  refine wp_Ic true rfl (zc_le_t ⟨by omega, by omega⟩ ⟨by omega, by omega⟩ (by omega)) ?_
  exact wp_Rv rfl rfl ⟨rfl, rfl⟩
theorem mt_chkA {i : Int} (h : 0 ≤ i ∧ i ≤ 65535) : ni_Pu xs 2 6 [ni_z i] none := by
  intro M
  refine wp_enter (Nat.le_of_ble_eq_true rfl) rfl ?_
  refine wp_Ld rfl rfl rfl ?_
  refine wp_P (g := ni_gPush (.int (0)) 2) rfl (wp_push (z := 0) rfl) ?_
  refine wp_P (g := ni_gPush (.int (65535)) 5) rfl (wp_push (z := 65535) rfl) ?_
  refine ws_P rfl (Nat.le_of_ble_eq_true rfl) rfl rfl (Nat.le_of_ble_eq_true rfl) (mt_chkR h (by omega)) ?_
  exact wp_Rv rfl rfl ⟨rfl, rfl⟩
theorem mt_preOf {a l : Int} : ni_Pu xs 1 125 [ni_z a, ni_z l] (some (ni_z (a * 32 + l))) := by
  intro M
  refine wp_enter (Nat.le_of_ble_eq_true rfl) rfl ?_
  refine wp_Ld rfl rfl rfl ?_
  refine wp_P (g := ni_gPush (.int (32)) 3) rfl (wp_push (z := 32) rfl) ?_
  refine wp_P rfl wp_mul ?_
  refine wp_Ld rfl rfl rfl ?_
  refine wp_P rfl wp_add ?_
  exact wp_R rfl rfl ⟨rfl, rfl⟩
theorem mt_more0 {a l : Int} {n : Nat} (hn : n ≤ 16) (hl : l = 16 - n) (ha : 0 ≤ a) (h : a % 2 ^ n = 0) : ni_Pu xs 1 123 [ni_z a, ni_z l] (some (ni_z 0)) := by
  have h1 : Int32.ofInt 1 <<< (Int32.ofInt (16 - l) &&& 31) = Int32.ofInt (2 ^ n) := by
    rw [show 16 - l = (n : Int) by omega, zb_shl (by omega), Int.one_mul]
  have h2 : Int32.ofInt a &&& Int32.ofInt (2 ^ n - 1) = Int32.ofInt 0 := by
    have e : ((2 : Int) ^ n - 1) = ((2 ^ n - 1 : Nat) : Int) := by
      have := Nat.one_le_two_pow (n := n)
      have e3 : ((2 ^ n : Nat) : Int) = 2 ^ n := by norm_cast
      omega
    rw [e, zb_mask n ha, h]
  intro M
  refine wp_enter (Nat.le_of_ble_eq_true rfl) rfl ?_
  refine wp_Ld rfl rfl rfl ?_
  refine wp_P (g := ni_gPush (.int (1)) 2) rfl (wp_push (z := 1) rfl) ?_
  refine wp_P (g := ni_gPush (.int (16)) 4) rfl (wp_push (z := 16) rfl) ?_
  refine wp_Ld rfl rfl rfl ?_
  refine wp_P rfl wp_sub ?_
  refine wp_P rfl (wp_I (c := (2 ^ n : Int)) h1) ?_
  refine wp_P (g := ni_gPush (.int (1)) 8) rfl (wp_push (z := 1) rfl) ?_
  refine wp_P rfl wp_sub ?_
  refine wp_P rfl (wp_I (c := 0) h2) ?_
  refine wp_If true rfl (zf_eq_t ⟨by omega, by omega⟩ (by omega)) ?_
  refine wp_P (g := ni_gPush (.int (0)) 18) rfl (wp_push (z := 0) rfl) ?_
  exact wp_R rfl rfl ⟨rfl, rfl⟩
theorem mt_chkP {a l : Int} {n : Nat} (hn : n ≤ 16) (hl : l = 16 - n) (ha : 0 ≤ a ∧ a ≤ 65535) (h : a % 2 ^ n = 0) : ni_Pu xs 3 10 [ni_z a, ni_z l] none := by
  intro M
  refine wp_enter (Nat.le_of_ble_eq_true rfl) rfl ?_
  refine wp_Ld rfl rfl rfl ?_
  refine ws_P rfl (Nat.le_of_ble_eq_true rfl) rfl rfl (Nat.le_of_ble_eq_true rfl) (mt_chkA ha) ?_
  refine wp_Ld rfl rfl rfl ?_
  refine wp_P (g := ni_gPush (.int (0)) 6) rfl (wp_push (z := 0) rfl) ?_
  refine wp_P (g := ni_gPush (.int (16)) 8) rfl (wp_push (z := 16) rfl) ?_
  refine ws_P rfl (Nat.le_of_ble_eq_true rfl) rfl rfl (Nat.le_of_ble_eq_true rfl) (ni_PuUp (mt_chkR (i := l) (a := 0) (b := 16) (by omega) (by omega)) (by decide)) ?_
  refine wp_Ld rfl rfl rfl ?_
  refine wp_Ld rfl rfl rfl ?_
  refine ws_P rfl (Nat.le_of_ble_eq_true rfl) rfl rfl (Nat.le_of_ble_eq_true rfl) (ni_PuUp (mt_more0 hn hl (by omega) h) (by decide)) ?_
  refine wp_If true rfl (zf_eq_t ⟨by omega, by omega⟩ (by omega)) ?_
  exact wp_Rv rfl rfl ⟨rfl, rfl⟩
theorem fc_setPort0 (hm : St m = some (9, [.ref n0, .ref n1])) (hZ : ∀ ad, Z ad → ad 0 = n0) {l : Nat} (hl : l < 14) (hlc : (l : Int) < A 0 2) (h2 : A 0 2 ≤ 14) {a b c : Int} (ha : 0 ≤ a ∧ a ≤ 2) (hb : 50 ≤ b ∧ b ≤ 5000) (hc : c = 0 ∨ c = 1) : nf_F xs St Z 25 40 [ni_aL (m), ni_aI ((l : Int)), ni_aI (0), ni_aI (a), ni_aI (b), ni_aI (c)] A (fun v A' => (∃ x : Int, v = some (ni_aI x)) ∧ A' = (ni_cleared (ni_u2 (ni_u2 (ni_u2 (ni_u2 A (48 + 17 * l + 1) 1 a) (48 + 17 * l + 1) 2 b) (48 + 17 * l + 1) 3 c) (48 + 17 * l + 1) 4 0) (48 + 17 * l + 1))) := by
  refine nf_Fin (ls := [ni_aL (m), ni_aI ((l : Int)), ni_aI (0), ni_aI (a), ni_aI (b), ni_aI (c), .inl ni_J]) (fun _ => Nat.le_of_ble_eq_true rfl) (fun _ _ => rfl) ?_
  refine E_Ld (q := 1) rfl rfl (fun _ _ => rfl) ?_
  refine E_Ld (q := 2) rfl rfl (fun _ _ => rfl) ?_
  obtain ⟨vc1, Ac1, ⟨hvc1, hAc1⟩, hFc1⟩ := nf_Fup (d' := 24) (fc_link (xs := xs) (A := A) (i := (l : Int)) hm hZ ⟨by omega, hlc⟩ h2) (by decide)
  subst hvc1
  rw [hAc1] at hFc1
  refine E_VT (q := 5) (v := none) rfl rfl rfl hm (Nat.le_of_ble_eq_true rfl) (fun _ _ _ => rfl) (hFc1) (fun _ _ => rfl) (fun _ _ => rfl) ?_
  refine E_Ld (q := 6) rfl rfl (fun _ _ => rfl) ?_
  refine E_push (q := 7) (c := 0) (z := 0) rfl rfl ?_
  refine E_push (q := 8) (c := 2) (z := 2) rfl rfl ?_
  refine E_C (q := 11) (w := none) rfl (Nat.le_of_ble_eq_true rfl) rfl rfl (Nat.le_of_ble_eq_true rfl) (ni_PuUp (mt_chkR (i := a) (a := 0) (b := 2) (by omega) (by omega)) (by decide)) (fun _ _ => rfl) (fun _ _ => rfl) ?_
  refine E_Ld (q := 13) rfl rfl (fun _ _ => rfl) ?_
  refine E_push (q := 15) (c := 50) (z := 50) rfl rfl ?_
  refine E_push (q := 18) (c := 5000) (z := 5000) rfl rfl ?_
  refine E_C (q := 21) (w := none) rfl (Nat.le_of_ble_eq_true rfl) rfl rfl (Nat.le_of_ble_eq_true rfl) (ni_PuUp (mt_chkR (i := b) (a := 50) (b := 5000) (by omega) (by omega)) (by decide)) (fun _ _ => rfl) (fun _ _ => rfl) ?_
  refine E_Ld (q := 22) rfl rfl (fun _ _ => rfl) ?_
  refine E_Ld (q := 23) rfl rfl (fun _ _ => rfl) ?_
  refine E_Ld (q := 24) rfl rfl (fun _ _ => rfl) ?_
  obtain ⟨vp, Ap, ⟨hvp, hAp⟩, hFp⟩ := nf_Fup (d' := 24) (fc_port0 (xs := xs) (A := A) (l := l) hm hZ hl) (by decide)
  subst hvp
  rw [hAp] at hFp
  refine E_VT (q := 27) (v := some (ni_aP (48 + 17 * l + 1))) rfl rfl rfl hm (Nat.le_of_ble_eq_true rfl) (fun _ _ _ => rfl) (hFp) (fun _ _ => rfl) (fun _ _ => rfl) ?_
  refine E_St (q := 29) (ls' := [ni_aL (m), ni_aI ((l : Int)), ni_aI (0), ni_aI (a), ni_aI (b), ni_aI (c), ni_aP (48 + 17 * l + 1)]) rfl (fun _ _ => rfl) (fun _ _ => rfl) ?_
  refine E_Ld (q := 31) rfl rfl (fun _ _ => rfl) ?_
  refine E_Ld (q := 32) rfl rfl (fun _ _ => rfl) ?_
  refine E_Ld (q := 34) rfl rfl (fun _ _ => rfl) ?_
  refine E_Ld (q := 36) rfl rfl (fun _ _ => rfl) ?_
  refine E_V (q := 39) (w := none) rfl rfl rfl (ni_o3_1 (ni_liS l hl).1 (ni_liS l hl).2).1 (ni_o3_1 (ni_liS l hl).1 (ni_liS l hl).2).2.1 rfl (Nat.le_of_ble_eq_true rfl) (fun _ _ _ => rfl) (ni_Dup (mt_config hc (ni_o3_1 (ni_liS l hl).1 (ni_liS l hl).2).1 (ni_o3_1 (ni_liS l hl).1 (ni_liS l hl).2).2.1) (by decide)) (fun _ _ => rfl) (fun _ _ => rfl) ?_
  refine E_Ld (q := 41) rfl rfl (fun _ _ => rfl) ?_
  refine E_GetI (q := 44) (e := (ni_cleared (ni_u2 (ni_u2 (ni_u2 (ni_u2 A (48 + 17 * l + 1) 1 a) (48 + 17 * l + 1) 2 b) (48 + 17 * l + 1) 3 c) (48 + 17 * l + 1) 4 0) (48 + 17 * l + 1)) (48 + 17 * l + 1) 10) rfl (ni_o3_1 (ni_liS l hl).1 (ni_liS l hl).2).1 (ni_o3_1 (ni_liS l hl).1 (ni_liS l hl).2).2.1 rfl rfl (fun _ _ => rfl) ?_
  refine E_R rfl (fun _ _ => rfl) (fun _ _ => rfl) ?_
  exact ⟨⟨_, rfl⟩, rfl⟩
theorem fc_setWeight0 (hm : St m = some (9, [.ref n0, .ref n1])) (hZ : ∀ ad, Z ad → ad 0 = n0) {l : Nat} (hl : l < 14) (hlc : (l : Int) < A 0 2) (h2 : A 0 2 ≤ 14) {c : Nat} {x : Int} (hc : c < 4) (hx : 1 ≤ x ∧ x ≤ 4) : nf_F xs St Z 25 42 [ni_aL (m), ni_aI ((l : Int)), ni_aI (0), ni_aI ((c : Int)), ni_aI (x)] A (fun v A' => (∃ x : Int, v = some (ni_aI x)) ∧ A' = (ni_u2 A (48 + 17 * l + 1 + 5) (c) (x))) := by
  refine nf_Fin (ls := [ni_aL (m), ni_aI ((l : Int)), ni_aI (0), ni_aI ((c : Int)), ni_aI (x), .inl ni_J, .inl ni_J]) (fun _ => Nat.le_of_ble_eq_true rfl) (fun _ _ => rfl) ?_
  refine E_Ld (q := 1) rfl rfl (fun _ _ => rfl) ?_
  refine E_Ld (q := 2) rfl rfl (fun _ _ => rfl) ?_
  obtain ⟨vc1, Ac1, ⟨hvc1, hAc1⟩, hFc1⟩ := nf_Fup (d' := 24) (fc_link (xs := xs) (A := A) (i := (l : Int)) hm hZ ⟨by omega, hlc⟩ h2) (by decide)
  subst hvc1
  rw [hAc1] at hFc1
  refine E_VT (q := 5) (v := none) rfl rfl rfl hm (Nat.le_of_ble_eq_true rfl) (fun _ _ _ => rfl) (hFc1) (fun _ _ => rfl) (fun _ _ => rfl) ?_
  refine E_Ld (q := 6) rfl rfl (fun _ _ => rfl) ?_
  refine E_push (q := 7) (c := 4) (z := 4) rfl rfl ?_
  refine E_C (q := 10) (w := none) rfl (Nat.le_of_ble_eq_true rfl) rfl rfl (Nat.le_of_ble_eq_true rfl) (ni_PuUp (mt_chkI (i := (c : Int)) (n := 4) (by omega) (by omega)) (by decide)) (fun _ _ => rfl) (fun _ _ => rfl) ?_
  refine E_Ld (q := 12) rfl rfl (fun _ _ => rfl) ?_
  refine E_push (q := 13) (c := 1) (z := 1) rfl rfl ?_
  refine E_push (q := 14) (c := 4) (z := 4) rfl rfl ?_
  refine E_C (q := 17) (w := none) rfl (Nat.le_of_ble_eq_true rfl) rfl rfl (Nat.le_of_ble_eq_true rfl) (ni_PuUp (mt_chkR (i := x) (a := 1) (b := 4) (by omega) (by omega)) (by decide)) (fun _ _ => rfl) (fun _ _ => rfl) ?_
  refine E_Ld (q := 18) rfl rfl (fun _ _ => rfl) ?_
  refine E_Ld (q := 19) rfl rfl (fun _ _ => rfl) ?_
  refine E_Ld (q := 20) rfl rfl (fun _ _ => rfl) ?_
  obtain ⟨vp, Ap, ⟨hvp, hAp⟩, hFp⟩ := nf_Fup (d' := 24) (fc_port0 (xs := xs) (A := A) (l := l) hm hZ hl) (by decide)
  subst hvp
  rw [hAp] at hFp
  refine E_VT (q := 23) (v := some (ni_aP (48 + 17 * l + 1))) rfl rfl rfl hm (Nat.le_of_ble_eq_true rfl) (fun _ _ _ => rfl) (hFp) (fun _ _ => rfl) (fun _ _ => rfl) ?_
  refine E_St (q := 25) (ls' := [ni_aL (m), ni_aI ((l : Int)), ni_aI (0), ni_aI ((c : Int)), ni_aI (x), ni_aP (48 + 17 * l + 1), .inl ni_J]) rfl (fun _ _ => rfl) (fun _ _ => rfl) ?_
  refine E_Ld (q := 27) rfl rfl (fun _ _ => rfl) ?_
  refine E_Get (q := 30) (v := ni_aP (48 + 17 * l + 1 + 5)) rfl (ni_o3_1 (ni_liS l hl).1 (ni_liS l hl).2).1 (ni_o3_1 (ni_liS l hl).1 (ni_liS l hl).2).2.1 rfl rfl (fun _ _ => rfl) ?_
  refine E_Ld (q := 31) rfl rfl (fun _ _ => rfl) ?_
  refine E_Ald (q := 32) (j := c) (e := A (48 + 17 * l + 1 + 5) (c)) rfl (ni_o5_5 (ni_o3_1 (ni_liS l hl).1 (ni_liS l hl).2).1 (ni_o3_1 (ni_liS l hl).1 (ni_liS l hl).2).2.1).1 (ni_o5_5 (ni_o3_1 (ni_liS l hl).1 (ni_liS l hl).2).1 (ni_o3_1 (ni_liS l hl).1 (ni_liS l hl).2).2.1).2.1 (ni_o5_5 (ni_o3_1 (ni_liS l hl).1 (ni_liS l hl).2).1 (ni_o3_1 (ni_liS l hl).1 (ni_liS l hl).2).2.1).2.2.1 rfl (by omega) (by decide) (ni_L9 (ni_o5_5 (ni_o3_1 (ni_liS l hl).1 (ni_liS l hl).2).1 (ni_o3_1 (ni_liS l hl).1 (ni_liS l hl).2).2.1).1 (ni_o5_5 (ni_o3_1 (ni_liS l hl).1 (ni_liS l hl).2).1 (ni_o3_1 (ni_liS l hl).1 (ni_liS l hl).2).2.1).2.2.2 (by omega)) (fun _ _ => rfl) ?_
  refine E_St (q := 34) (ls' := [ni_aL (m), ni_aI ((l : Int)), ni_aI (0), ni_aI ((c : Int)), ni_aI (x), ni_aP (48 + 17 * l + 1), ni_aI (A (48 + 17 * l + 1 + 5) (c))]) rfl (fun _ _ => rfl) (fun _ _ => rfl) ?_
  refine E_Ld (q := 36) rfl rfl (fun _ _ => rfl) ?_
  refine E_Get (q := 39) (v := ni_aP (48 + 17 * l + 1 + 5)) rfl (ni_o3_1 (ni_liS l hl).1 (ni_liS l hl).2).1 (ni_o3_1 (ni_liS l hl).1 (ni_liS l hl).2).2.1 rfl rfl (fun _ _ => rfl) ?_
  refine E_Ld (q := 40) rfl rfl (fun _ _ => rfl) ?_
  refine E_Ld (q := 42) rfl rfl (fun _ _ => rfl) ?_
  refine E_Ast (q := 43) (j := c) rfl (ni_o5_5 (ni_o3_1 (ni_liS l hl).1 (ni_liS l hl).2).1 (ni_o3_1 (ni_liS l hl).1 (ni_liS l hl).2).2.1).1 (ni_o5_5 (ni_o3_1 (ni_liS l hl).1 (ni_liS l hl).2).1 (ni_o3_1 (ni_liS l hl).1 (ni_liS l hl).2).2.1).2.1 (ni_o5_5 (ni_o3_1 (ni_liS l hl).1 (ni_liS l hl).2).1 (ni_o3_1 (ni_liS l hl).1 (ni_liS l hl).2).2.1).2.2.1 rfl (by omega) (by decide) ?_
  refine E_Ld (q := 45) rfl rfl (fun _ _ => rfl) ?_
  refine E_R rfl (fun _ _ => rfl) (fun _ _ => rfl) ?_
  exact ⟨⟨_, rfl⟩, rfl⟩
theorem fc_setPort1 (hm : St m = some (9, [.ref n0, .ref n1])) (hZ : ∀ ad, Z ad → ad 0 = n0) {l : Nat} (hl : l < 14) (hlc : (l : Int) < A 0 2) (h2 : A 0 2 ≤ 14) {a b c : Int} (ha : 0 ≤ a ∧ a ≤ 2) (hb : 50 ≤ b ∧ b ≤ 5000) (hc : c = 0 ∨ c = 1) : nf_F xs St Z 25 40 [ni_aL (m), ni_aI ((l : Int)), ni_aI (1), ni_aI (a), ni_aI (b), ni_aI (c)] A (fun v A' => (∃ x : Int, v = some (ni_aI x)) ∧ A' = (ni_cleared (ni_u2 (ni_u2 (ni_u2 (ni_u2 A (48 + 17 * l + 9) 1 a) (48 + 17 * l + 9) 2 b) (48 + 17 * l + 9) 3 c) (48 + 17 * l + 9) 4 0) (48 + 17 * l + 9))) := by
  refine nf_Fin (ls := [ni_aL (m), ni_aI ((l : Int)), ni_aI (1), ni_aI (a), ni_aI (b), ni_aI (c), .inl ni_J]) (fun _ => Nat.le_of_ble_eq_true rfl) (fun _ _ => rfl) ?_
  refine E_Ld (q := 1) rfl rfl (fun _ _ => rfl) ?_
  refine E_Ld (q := 2) rfl rfl (fun _ _ => rfl) ?_
  obtain ⟨vc1, Ac1, ⟨hvc1, hAc1⟩, hFc1⟩ := nf_Fup (d' := 24) (fc_link (xs := xs) (A := A) (i := (l : Int)) hm hZ ⟨by omega, hlc⟩ h2) (by decide)
  subst hvc1
  rw [hAc1] at hFc1
  refine E_VT (q := 5) (v := none) rfl rfl rfl hm (Nat.le_of_ble_eq_true rfl) (fun _ _ _ => rfl) (hFc1) (fun _ _ => rfl) (fun _ _ => rfl) ?_
  refine E_Ld (q := 6) rfl rfl (fun _ _ => rfl) ?_
  refine E_push (q := 7) (c := 0) (z := 0) rfl rfl ?_
  refine E_push (q := 8) (c := 2) (z := 2) rfl rfl ?_
  refine E_C (q := 11) (w := none) rfl (Nat.le_of_ble_eq_true rfl) rfl rfl (Nat.le_of_ble_eq_true rfl) (ni_PuUp (mt_chkR (i := a) (a := 0) (b := 2) (by omega) (by omega)) (by decide)) (fun _ _ => rfl) (fun _ _ => rfl) ?_
  refine E_Ld (q := 13) rfl rfl (fun _ _ => rfl) ?_
  refine E_push (q := 15) (c := 50) (z := 50) rfl rfl ?_
  refine E_push (q := 18) (c := 5000) (z := 5000) rfl rfl ?_
  refine E_C (q := 21) (w := none) rfl (Nat.le_of_ble_eq_true rfl) rfl rfl (Nat.le_of_ble_eq_true rfl) (ni_PuUp (mt_chkR (i := b) (a := 50) (b := 5000) (by omega) (by omega)) (by decide)) (fun _ _ => rfl) (fun _ _ => rfl) ?_
  refine E_Ld (q := 22) rfl rfl (fun _ _ => rfl) ?_
  refine E_Ld (q := 23) rfl rfl (fun _ _ => rfl) ?_
  refine E_Ld (q := 24) rfl rfl (fun _ _ => rfl) ?_
  obtain ⟨vp, Ap, ⟨hvp, hAp⟩, hFp⟩ := nf_Fup (d' := 24) (fc_port1 (xs := xs) (A := A) (l := l) hm hZ hl) (by decide)
  subst hvp
  rw [hAp] at hFp
  refine E_VT (q := 27) (v := some (ni_aP (48 + 17 * l + 9))) rfl rfl rfl hm (Nat.le_of_ble_eq_true rfl) (fun _ _ _ => rfl) (hFp) (fun _ _ => rfl) (fun _ _ => rfl) ?_
  refine E_St (q := 29) (ls' := [ni_aL (m), ni_aI ((l : Int)), ni_aI (1), ni_aI (a), ni_aI (b), ni_aI (c), ni_aP (48 + 17 * l + 9)]) rfl (fun _ _ => rfl) (fun _ _ => rfl) ?_
  refine E_Ld (q := 31) rfl rfl (fun _ _ => rfl) ?_
  refine E_Ld (q := 32) rfl rfl (fun _ _ => rfl) ?_
  refine E_Ld (q := 34) rfl rfl (fun _ _ => rfl) ?_
  refine E_Ld (q := 36) rfl rfl (fun _ _ => rfl) ?_
  refine E_V (q := 39) (w := none) rfl rfl rfl (ni_o3_9 (ni_liS l hl).1 (ni_liS l hl).2).1 (ni_o3_9 (ni_liS l hl).1 (ni_liS l hl).2).2.1 rfl (Nat.le_of_ble_eq_true rfl) (fun _ _ _ => rfl) (ni_Dup (mt_config hc (ni_o3_9 (ni_liS l hl).1 (ni_liS l hl).2).1 (ni_o3_9 (ni_liS l hl).1 (ni_liS l hl).2).2.1) (by decide)) (fun _ _ => rfl) (fun _ _ => rfl) ?_
  refine E_Ld (q := 41) rfl rfl (fun _ _ => rfl) ?_
  refine E_GetI (q := 44) (e := (ni_cleared (ni_u2 (ni_u2 (ni_u2 (ni_u2 A (48 + 17 * l + 9) 1 a) (48 + 17 * l + 9) 2 b) (48 + 17 * l + 9) 3 c) (48 + 17 * l + 9) 4 0) (48 + 17 * l + 9)) (48 + 17 * l + 9) 10) rfl (ni_o3_9 (ni_liS l hl).1 (ni_liS l hl).2).1 (ni_o3_9 (ni_liS l hl).1 (ni_liS l hl).2).2.1 rfl rfl (fun _ _ => rfl) ?_
  refine E_R rfl (fun _ _ => rfl) (fun _ _ => rfl) ?_
  exact ⟨⟨_, rfl⟩, rfl⟩
theorem fc_setWeight1 (hm : St m = some (9, [.ref n0, .ref n1])) (hZ : ∀ ad, Z ad → ad 0 = n0) {l : Nat} (hl : l < 14) (hlc : (l : Int) < A 0 2) (h2 : A 0 2 ≤ 14) {c : Nat} {x : Int} (hc : c < 4) (hx : 1 ≤ x ∧ x ≤ 4) : nf_F xs St Z 25 42 [ni_aL (m), ni_aI ((l : Int)), ni_aI (1), ni_aI ((c : Int)), ni_aI (x)] A (fun v A' => (∃ x : Int, v = some (ni_aI x)) ∧ A' = (ni_u2 A (48 + 17 * l + 9 + 5) (c) (x))) := by
  refine nf_Fin (ls := [ni_aL (m), ni_aI ((l : Int)), ni_aI (1), ni_aI ((c : Int)), ni_aI (x), .inl ni_J, .inl ni_J]) (fun _ => Nat.le_of_ble_eq_true rfl) (fun _ _ => rfl) ?_
  refine E_Ld (q := 1) rfl rfl (fun _ _ => rfl) ?_
  refine E_Ld (q := 2) rfl rfl (fun _ _ => rfl) ?_
  obtain ⟨vc1, Ac1, ⟨hvc1, hAc1⟩, hFc1⟩ := nf_Fup (d' := 24) (fc_link (xs := xs) (A := A) (i := (l : Int)) hm hZ ⟨by omega, hlc⟩ h2) (by decide)
  subst hvc1
  rw [hAc1] at hFc1
  refine E_VT (q := 5) (v := none) rfl rfl rfl hm (Nat.le_of_ble_eq_true rfl) (fun _ _ _ => rfl) (hFc1) (fun _ _ => rfl) (fun _ _ => rfl) ?_
  refine E_Ld (q := 6) rfl rfl (fun _ _ => rfl) ?_
  refine E_push (q := 7) (c := 4) (z := 4) rfl rfl ?_
  refine E_C (q := 10) (w := none) rfl (Nat.le_of_ble_eq_true rfl) rfl rfl (Nat.le_of_ble_eq_true rfl) (ni_PuUp (mt_chkI (i := (c : Int)) (n := 4) (by omega) (by omega)) (by decide)) (fun _ _ => rfl) (fun _ _ => rfl) ?_
  refine E_Ld (q := 12) rfl rfl (fun _ _ => rfl) ?_
  refine E_push (q := 13) (c := 1) (z := 1) rfl rfl ?_
  refine E_push (q := 14) (c := 4) (z := 4) rfl rfl ?_
  refine E_C (q := 17) (w := none) rfl (Nat.le_of_ble_eq_true rfl) rfl rfl (Nat.le_of_ble_eq_true rfl) (ni_PuUp (mt_chkR (i := x) (a := 1) (b := 4) (by omega) (by omega)) (by decide)) (fun _ _ => rfl) (fun _ _ => rfl) ?_
  refine E_Ld (q := 18) rfl rfl (fun _ _ => rfl) ?_
  refine E_Ld (q := 19) rfl rfl (fun _ _ => rfl) ?_
  refine E_Ld (q := 20) rfl rfl (fun _ _ => rfl) ?_
  obtain ⟨vp, Ap, ⟨hvp, hAp⟩, hFp⟩ := nf_Fup (d' := 24) (fc_port1 (xs := xs) (A := A) (l := l) hm hZ hl) (by decide)
  subst hvp
  rw [hAp] at hFp
  refine E_VT (q := 23) (v := some (ni_aP (48 + 17 * l + 9))) rfl rfl rfl hm (Nat.le_of_ble_eq_true rfl) (fun _ _ _ => rfl) (hFp) (fun _ _ => rfl) (fun _ _ => rfl) ?_
  refine E_St (q := 25) (ls' := [ni_aL (m), ni_aI ((l : Int)), ni_aI (1), ni_aI ((c : Int)), ni_aI (x), ni_aP (48 + 17 * l + 9), .inl ni_J]) rfl (fun _ _ => rfl) (fun _ _ => rfl) ?_
  refine E_Ld (q := 27) rfl rfl (fun _ _ => rfl) ?_
  refine E_Get (q := 30) (v := ni_aP (48 + 17 * l + 9 + 5)) rfl (ni_o3_9 (ni_liS l hl).1 (ni_liS l hl).2).1 (ni_o3_9 (ni_liS l hl).1 (ni_liS l hl).2).2.1 rfl rfl (fun _ _ => rfl) ?_
  refine E_Ld (q := 31) rfl rfl (fun _ _ => rfl) ?_
  refine E_Ald (q := 32) (j := c) (e := A (48 + 17 * l + 9 + 5) (c)) rfl (ni_o5_5 (ni_o3_9 (ni_liS l hl).1 (ni_liS l hl).2).1 (ni_o3_9 (ni_liS l hl).1 (ni_liS l hl).2).2.1).1 (ni_o5_5 (ni_o3_9 (ni_liS l hl).1 (ni_liS l hl).2).1 (ni_o3_9 (ni_liS l hl).1 (ni_liS l hl).2).2.1).2.1 (ni_o5_5 (ni_o3_9 (ni_liS l hl).1 (ni_liS l hl).2).1 (ni_o3_9 (ni_liS l hl).1 (ni_liS l hl).2).2.1).2.2.1 rfl (by omega) (by decide) (ni_L9 (ni_o5_5 (ni_o3_9 (ni_liS l hl).1 (ni_liS l hl).2).1 (ni_o3_9 (ni_liS l hl).1 (ni_liS l hl).2).2.1).1 (ni_o5_5 (ni_o3_9 (ni_liS l hl).1 (ni_liS l hl).2).1 (ni_o3_9 (ni_liS l hl).1 (ni_liS l hl).2).2.1).2.2.2 (by omega)) (fun _ _ => rfl) ?_
  refine E_St (q := 34) (ls' := [ni_aL (m), ni_aI ((l : Int)), ni_aI (1), ni_aI ((c : Int)), ni_aI (x), ni_aP (48 + 17 * l + 9), ni_aI (A (48 + 17 * l + 9 + 5) (c))]) rfl (fun _ _ => rfl) (fun _ _ => rfl) ?_
  refine E_Ld (q := 36) rfl rfl (fun _ _ => rfl) ?_
  refine E_Get (q := 39) (v := ni_aP (48 + 17 * l + 9 + 5)) rfl (ni_o3_9 (ni_liS l hl).1 (ni_liS l hl).2).1 (ni_o3_9 (ni_liS l hl).1 (ni_liS l hl).2).2.1 rfl rfl (fun _ _ => rfl) ?_
  refine E_Ld (q := 40) rfl rfl (fun _ _ => rfl) ?_
  refine E_Ld (q := 42) rfl rfl (fun _ _ => rfl) ?_
  refine E_Ast (q := 43) (j := c) rfl (ni_o5_5 (ni_o3_9 (ni_liS l hl).1 (ni_liS l hl).2).1 (ni_o3_9 (ni_liS l hl).1 (ni_liS l hl).2).2.1).1 (ni_o5_5 (ni_o3_9 (ni_liS l hl).1 (ni_liS l hl).2).1 (ni_o3_9 (ni_liS l hl).1 (ni_liS l hl).2).2.1).2.1 (ni_o5_5 (ni_o3_9 (ni_liS l hl).1 (ni_liS l hl).2).1 (ni_o3_9 (ni_liS l hl).1 (ni_liS l hl).2).2.1).2.2.1 rfl (by omega) (by decide) ?_
  refine E_Ld (q := 45) rfl rfl (fun _ _ => rfl) ?_
  refine E_R rfl (fun _ _ => rfl) (fun _ _ => rfl) ?_
  exact ⟨⟨_, rfl⟩, rfl⟩
theorem mt_newFlow  {a b c d : Int} {f : Nat} (hf : f < 12) (hfc : A 0 3 = f) : ni_M xs St 2 84 [ni_aP (0), ni_aI (a), ni_aI (b), ni_aI (c), ni_aI (d)] A (fun v A' => v = some (ni_aI f) ∧ A' = ni_u2 (ni_u2 (ni_u2 (ni_u2 (ni_u2 A (12 + 3 * f) 0 a) (12 + 3 * f) 1 b) (12 + 3 * f) 2 c) (12 + 3 * f) 3 d) 0 3 ((f : Int) + 1)) := by
  refine ni_Min (ls := [ni_aP (0), ni_aI (a), ni_aI (b), ni_aI (c), ni_aI (d), .inl ni_J]) (fun _ => Nat.le_of_ble_eq_true rfl) (fun _ _ => rfl) ?_
  refine E_Ld (q := 1) rfl rfl (fun _ _ => rfl) ?_
  refine E_Get (q := 4) (v := ni_aP 3) rfl (show ni_us 0 = true by decide +kernel) (show ni_kd 0 = 4 by decide +kernel) rfl rfl (fun _ _ => rfl) ?_
  refine E_Ld (q := 5) rfl rfl (fun _ _ => rfl) ?_
  refine E_GetI (q := 8) (e := A (0) 3) rfl (show ni_us 0 = true by decide +kernel) (show ni_kd 0 = 4 by decide +kernel) rfl rfl (fun _ _ => rfl) ?_
  refine E_Qld (q := 9) (j := f) (v := ni_aP (12 + 3 * f)) rfl (show ni_us 3 = true by decide +kernel) (show ni_kd 3 = 103 by decide +kernel) (show ni_ln 3 = 12 by decide +kernel) ⟨by decide, rfl⟩ hfc (by omega) (by decide) (ni_L9 (show ni_us 3 = true by decide +kernel) (by decide +kernel) (by omega)) (fun _ _ => rfl) (fun _ _ => rfl) ?_
  refine E_St (q := 11) (ls' := [ni_aP (0), ni_aI (a), ni_aI (b), ni_aI (c), ni_aI (d), ni_aP (12 + 3 * f)]) rfl (fun _ _ => rfl) (fun _ _ => rfl) ?_
  refine E_Ld (q := 13) rfl rfl (fun _ _ => rfl) ?_
  refine E_Ld (q := 14) rfl rfl (fun _ _ => rfl) ?_
  refine E_Put (q := 17) rfl (ni_flS f hf).1 (ni_flS f hf).2 rfl rfl (fun _ _ _ => rfl) rfl rfl ?_
  refine E_Ld (q := 19) rfl rfl (fun _ _ => rfl) ?_
  refine E_Ld (q := 20) rfl rfl (fun _ _ => rfl) ?_
  refine E_Put (q := 23) rfl (ni_flS f hf).1 (ni_flS f hf).2 rfl rfl (fun _ _ _ => rfl) rfl rfl ?_
  refine E_Ld (q := 25) rfl rfl (fun _ _ => rfl) ?_
  refine E_Ld (q := 26) rfl rfl (fun _ _ => rfl) ?_
  refine E_Put (q := 29) rfl (ni_flS f hf).1 (ni_flS f hf).2 rfl rfl (fun _ _ _ => rfl) rfl rfl ?_
  refine E_Ld (q := 31) rfl rfl (fun _ _ => rfl) ?_
  refine E_Ld (q := 33) rfl rfl (fun _ _ => rfl) ?_
  refine E_Put (q := 36) rfl (ni_flS f hf).1 (ni_flS f hf).2 rfl rfl (fun _ _ _ => rfl) rfl rfl ?_
  refine E_Ld (q := 37) rfl rfl (fun _ _ => rfl) ?_
  refine E_Dup (q := 38) rfl (fun _ _ => rfl) ?_
  refine E_GetI (q := 41) (e := A (0) 3) rfl (show ni_us 0 = true by decide +kernel) (show ni_kd 0 = 4 by decide +kernel) rfl rfl (fun _ _ => congrArg ni_z ((ni_u2n (Or.inl (by omega))).trans ((ni_u2n (Or.inr (by decide))).trans ((ni_u2n (Or.inr (by decide))).trans (ni_u2n (Or.inr (by decide))))))) ?_
  refine E_push (q := 42) (c := 1) (z := 1) rfl rfl ?_
  refine E_add (q := 43) rfl ?_
  refine E_Put (q := 46) rfl (show ni_us 0 = true by decide +kernel) (show ni_kd 0 = 4 by decide +kernel) rfl rfl (fun _ _ _ => rfl) rfl rfl ?_
  refine E_Ld (q := 47) rfl rfl (fun _ _ => rfl) ?_
  refine E_GetI (q := 50) (e := (A (0) 3) + 1) rfl (show ni_us 0 = true by decide +kernel) (show ni_kd 0 = 4 by decide +kernel) rfl rfl (fun _ _ => congrArg ni_z (ni_u2e)) ?_
  refine E_push (q := 51) (c := 1) (z := 1) rfl rfl ?_
  refine E_sub (q := 52) rfl ?_
  refine E_R rfl (fun _ _ => rfl) (fun _ _ => rfl) ?_
  refine ⟨congrArg (fun z => some (ni_aI z)) (by omega), ?_⟩
  rw [hfc]
theorem fc_addFlow (hm : St m = some (9, [.ref n0, .ref n1])) (hZ : ∀ ad, Z ad → ad 0 = n0) {r f : Nat} {b c d : Int} (hr : r < 8) (hrc : (r : Int) < A 0 1) (h1 : A 0 1 ≤ 8) (hf : f < 12) (hfc : A 0 3 = f) (hb : 0 ≤ b ∧ b ≤ 65535) (hc : 20 ≤ c ∧ c ≤ 500) (hd : 0 ≤ d ∧ d ≤ 3) : nf_F xs St Z 25 1 [ni_aL (m), ni_aI ((r : Int)), ni_aI (b), ni_aI (c), ni_aI (d)] A (fun v A' => v = some (ni_aI f) ∧ A' = ni_u2 (ni_u2 (ni_u2 (ni_u2 (ni_u2 A (12 + 3 * f) 0 r) (12 + 3 * f) 1 b) (12 + 3 * f) 2 c) (12 + 3 * f) 3 d) 0 3 ((f : Int) + 1)) := by
  refine nf_Fin (ls := [ni_aL (m), ni_aI ((r : Int)), ni_aI (b), ni_aI (c), ni_aI (d)]) (fun _ => Nat.le_of_ble_eq_true rfl) (fun _ _ => rfl) ?_
  refine E_Ld (q := 1) rfl rfl (fun _ _ => rfl) ?_
  refine E_Ld (q := 2) rfl rfl (fun _ _ => rfl) ?_
  obtain ⟨vc1, Ac1, ⟨hvc1, hAc1⟩, hFc1⟩ := nf_Fup (d' := 24) (fc_router (xs := xs) (A := A) (i := (r : Int)) hm hZ ⟨by omega, hrc⟩ h1) (by decide)
  subst hvc1
  rw [hAc1] at hFc1
  refine E_VT (q := 5) (v := none) rfl rfl rfl hm (Nat.le_of_ble_eq_true rfl) (fun _ _ _ => rfl) (hFc1) (fun _ _ => rfl) (fun _ _ => rfl) ?_
  refine E_Ld (q := 6) rfl rfl (fun _ _ => rfl) ?_
  refine E_C (q := 9) (w := none) rfl (Nat.le_of_ble_eq_true rfl) rfl rfl (Nat.le_of_ble_eq_true rfl) (ni_PuUp (mt_chkA hb) (by decide)) (fun _ _ => rfl) (fun _ _ => rfl) ?_
  refine E_Ld (q := 10) rfl rfl (fun _ _ => rfl) ?_
  refine E_push (q := 12) (c := 20) (z := 20) rfl rfl ?_
  refine E_push (q := 15) (c := 500) (z := 500) rfl rfl ?_
  refine E_C (q := 18) (w := none) rfl (Nat.le_of_ble_eq_true rfl) rfl rfl (Nat.le_of_ble_eq_true rfl) (ni_PuUp (mt_chkR (i := c) (a := 20) (b := 500) (by omega) (by omega)) (by decide)) (fun _ _ => rfl) (fun _ _ => rfl) ?_
  refine E_Ld (q := 20) rfl rfl (fun _ _ => rfl) ?_
  refine E_push (q := 21) (c := 0) (z := 0) rfl rfl ?_
  refine E_push (q := 22) (c := 3) (z := 3) rfl rfl ?_
  refine E_C (q := 25) (w := none) rfl (Nat.le_of_ble_eq_true rfl) rfl rfl (Nat.le_of_ble_eq_true rfl) (ni_PuUp (mt_chkR (i := d) (a := 0) (b := 3) (by omega) (by omega)) (by decide)) (fun _ _ => rfl) (fun _ _ => rfl) ?_
  refine E_Ld (q := 26) rfl rfl (fun _ _ => rfl) ?_
  refine E_GetT (q := 29) rfl hm hZ ?_
  refine E_GetI (q := 32) (e := A (0) 3) rfl (show ni_us 0 = true by decide +kernel) (show ni_kd 0 = 4 by decide +kernel) rfl rfl (fun _ _ => rfl) ?_
  refine E_push (q := 34) (c := 12) (z := 12) rfl rfl ?_
  refine E_Ic true rfl (zc_lt_t ⟨by omega, by omega⟩ ⟨by omega, by omega⟩ (by omega)) ?_
  refine E_Ld (q := 48) rfl rfl (fun _ _ => rfl) ?_
  refine E_GetT (q := 51) rfl hm hZ ?_
  refine E_Ld (q := 52) rfl rfl (fun _ _ => rfl) ?_
  refine E_Ld (q := 53) rfl rfl (fun _ _ => rfl) ?_
  refine E_Ld (q := 54) rfl rfl (fun _ _ => rfl) ?_
  refine E_Ld (q := 56) rfl rfl (fun _ _ => rfl) ?_
  obtain ⟨vq, Aq, ⟨hvq, hAq⟩, hq⟩ := mt_newFlow (xs := xs) (St := St) (A := A) (a := (r : Int)) (b := b) (c := c) (d := d) hf hfc
  subst hvq hAq
  refine E_V (q := 59) (w := some (ni_aI ((f : Int)))) rfl rfl rfl (show ni_us 0 = true by decide +kernel) (show ni_kd 0 = 4 by decide +kernel) rfl (Nat.le_of_ble_eq_true rfl) (fun _ _ _ => rfl) (ni_Dup hq (by decide)) (fun _ _ => rfl) (fun _ _ => rfl) ?_
  refine E_R rfl (fun _ _ => rfl) (fun _ _ => rfl) ?_
  exact ⟨rfl, rfl⟩
theorem fc_schedule (hm : St m = some (9, [.ref n0, .ref n1])) (hZ : ∀ ad, Z ad → ad 0 = n0) {f : Nat} (hf : f < 12) (hfc : (f : Int) < A 0 3) (h3 : A 0 3 ≤ 12) {a b c : Int} (ht : 0 ≤ A 0 0 ∧ A 0 0 ≤ 900000) (ha : A 0 0 ≤ a ∧ a ≤ A 0 0 + 5000) (hb : 1 ≤ b ∧ b ≤ 50) (hc : 1 ≤ c ∧ c ≤ 60) (h4 : A (12 + 3 * f) 4 = -1) : nf_F xs St Z 25 37 [ni_aL (m), ni_aI ((f : Int)), ni_aI (a), ni_aI (b), ni_aI (c)] A (fun v A' => (∃ x : Int, v = some (ni_aI x)) ∧ A' = (ni_u2 (ni_u2 (ni_u2 A (12 + 3 * f) 4 (a)) (12 + 3 * f) 5 (b)) (12 + 3 * f) 6 (c))) := by
  refine nf_Fin (ls := [ni_aL (m), ni_aI ((f : Int)), ni_aI (a), ni_aI (b), ni_aI (c), .inl ni_J]) (fun _ => Nat.le_of_ble_eq_true rfl) (fun _ _ => rfl) ?_
  refine E_Ld (q := 1) rfl rfl (fun _ _ => rfl) ?_
  refine E_Ld (q := 2) rfl rfl (fun _ _ => rfl) ?_
  obtain ⟨vc1, Ac1, ⟨hvc1, hAc1⟩, hFc1⟩ := nf_Fup (d' := 24) (fc_flow (xs := xs) (A := A) (i := (f : Int)) hm hZ ⟨by omega, hfc⟩ h3) (by decide)
  subst hvc1
  rw [hAc1] at hFc1
  refine E_VT (q := 5) (v := none) rfl rfl rfl hm (Nat.le_of_ble_eq_true rfl) (fun _ _ _ => rfl) (hFc1) (fun _ _ => rfl) (fun _ _ => rfl) ?_
  refine E_Ld (q := 6) rfl rfl (fun _ _ => rfl) ?_
  refine E_Ld (q := 7) rfl rfl (fun _ _ => rfl) ?_
  refine E_GetT (q := 10) rfl hm hZ ?_
  refine E_GetI (q := 13) (e := A (0) 0) rfl (show ni_us 0 = true by decide +kernel) (show ni_kd 0 = 4 by decide +kernel) rfl rfl (fun _ _ => rfl) ?_
  refine E_Ld (q := 14) rfl rfl (fun _ _ => rfl) ?_
  refine E_GetT (q := 17) rfl hm hZ ?_
  refine E_GetI (q := 20) (e := A (0) 0) rfl (show ni_us 0 = true by decide +kernel) (show ni_kd 0 = 4 by decide +kernel) rfl rfl (fun _ _ => rfl) ?_
  refine E_push (q := 23) (c := 5000) (z := 5000) rfl rfl ?_
  refine E_add (q := 24) rfl ?_
  refine E_C (q := 27) (w := none) rfl (Nat.le_of_ble_eq_true rfl) rfl rfl (Nat.le_of_ble_eq_true rfl) (ni_PuUp (mt_chkR (i := a) (a := A (0) 0) (b := (A (0) 0) + 5000) (by omega) (by omega)) (by decide)) (fun _ _ => rfl) (fun _ _ => rfl) ?_
  refine E_Ld (q := 28) rfl rfl (fun _ _ => rfl) ?_
  refine E_push (q := 29) (c := 1) (z := 1) rfl rfl ?_
  refine E_push (q := 31) (c := 50) (z := 50) rfl rfl ?_
  refine E_C (q := 34) (w := none) rfl (Nat.le_of_ble_eq_true rfl) rfl rfl (Nat.le_of_ble_eq_true rfl) (ni_PuUp (mt_chkR (i := b) (a := 1) (b := 50) (by omega) (by omega)) (by decide)) (fun _ _ => rfl) (fun _ _ => rfl) ?_
  refine E_Ld (q := 36) rfl rfl (fun _ _ => rfl) ?_
  refine E_push (q := 37) (c := 1) (z := 1) rfl rfl ?_
  refine E_push (q := 39) (c := 60) (z := 60) rfl rfl ?_
  refine E_C (q := 42) (w := none) rfl (Nat.le_of_ble_eq_true rfl) rfl rfl (Nat.le_of_ble_eq_true rfl) (ni_PuUp (mt_chkR (i := c) (a := 1) (b := 60) (by omega) (by omega)) (by decide)) (fun _ _ => rfl) (fun _ _ => rfl) ?_
  refine E_Ld (q := 43) rfl rfl (fun _ _ => rfl) ?_
  refine E_GetT (q := 46) rfl hm hZ ?_
  refine E_Get (q := 49) (v := ni_aP 3) rfl (show ni_us 0 = true by decide +kernel) (show ni_kd 0 = 4 by decide +kernel) rfl rfl (fun _ _ => rfl) ?_
  refine E_Ld (q := 50) rfl rfl (fun _ _ => rfl) ?_
  refine E_Qld (q := 51) (j := f) (v := ni_aP (12 + 3 * f)) rfl (show ni_us 3 = true by decide +kernel) (show ni_kd 3 = 103 by decide +kernel) (show ni_ln 3 = 12 by decide +kernel) ⟨by decide, rfl⟩ rfl (by omega) (by decide) (ni_L9 (show ni_us 3 = true by decide +kernel) (by decide +kernel) (by omega)) (fun _ _ => rfl) (fun _ _ => rfl) ?_
  refine E_St (q := 53) (ls' := [ni_aL (m), ni_aI ((f : Int)), ni_aI (a), ni_aI (b), ni_aI (c), ni_aP (12 + 3 * f)]) rfl (fun _ _ => rfl) (fun _ _ => rfl) ?_
  refine E_Ld (q := 55) rfl rfl (fun _ _ => rfl) ?_
  refine E_GetI (q := 58) (e := A (12 + 3 * f) 4) rfl (ni_flS f hf).1 (ni_flS f hf).2 rfl rfl (fun _ _ => rfl) ?_
  refine E_push (q := 59) (c := -1) (z := -1) rfl rfl ?_
  refine E_Ic true rfl (zc_eq_t ⟨by omega, by omega⟩ ⟨by omega, by omega⟩ (by omega)) ?_
  refine E_Ld (q := 74) rfl rfl (fun _ _ => rfl) ?_
  refine E_Ld (q := 75) rfl rfl (fun _ _ => rfl) ?_
  refine E_Put (q := 78) rfl (ni_flS f hf).1 (ni_flS f hf).2 rfl rfl (fun _ _ _ => rfl) rfl rfl ?_
  refine E_Ld (q := 80) rfl rfl (fun _ _ => rfl) ?_
  refine E_Ld (q := 81) rfl rfl (fun _ _ => rfl) ?_
  refine E_Put (q := 84) rfl (ni_flS f hf).1 (ni_flS f hf).2 rfl rfl (fun _ _ _ => rfl) rfl rfl ?_
  refine E_Ld (q := 86) rfl rfl (fun _ _ => rfl) ?_
  refine E_Ld (q := 88) rfl rfl (fun _ _ => rfl) ?_
  refine E_Put (q := 91) rfl (ni_flS f hf).1 (ni_flS f hf).2 rfl rfl (fun _ _ _ => rfl) rfl rfl ?_
  refine E_Ld (q := 92) rfl rfl (fun _ _ => rfl) ?_
  refine E_Ld (q := 94) rfl rfl (fun _ _ => rfl) ?_
  refine E_push (q := 95) (c := 1) (z := 1) rfl rfl ?_
  refine E_sub (q := 96) rfl ?_
  refine E_Ld (q := 97) rfl rfl (fun _ _ => rfl) ?_
  refine E_mul (q := 98) rfl ?_
  refine E_add (q := 99) rfl ?_
  refine E_R rfl (fun _ _ => rfl) (fun _ _ => rfl) ?_
  exact ⟨⟨_, rfl⟩, rfl⟩
theorem fc_shape (hm : St m = some (9, [.ref n0, .ref n1])) (hZ : ∀ ad, Z ad → ad 0 = n0) {f : Nat} (hf : f < 12) (hfc : (f : Int) < A 0 3) (h3 : A 0 3 ≤ 12) {a b : Int} (ha : 1 ≤ a ∧ a ≤ 500) (hb : A (12 + 3 * f) 2 ≤ b ∧ b ≤ 5000) (h2 : 0 ≤ A (12 + 3 * f) 2) : nf_F xs St Z 25 44 [ni_aL (m), ni_aI ((f : Int)), ni_aI (a), ni_aI (b)] A (fun v A' => (∃ x : Int, v = some (ni_aI x)) ∧ A' = (ni_u2 (ni_u2 (ni_u2 A (12 + 3 * f) 7 (a)) (12 + 3 * f) 8 (b)) (12 + 3 * f) 9 (b))) := by
  refine nf_Fin (ls := [ni_aL (m), ni_aI ((f : Int)), ni_aI (a), ni_aI (b), .inl ni_J]) (fun _ => Nat.le_of_ble_eq_true rfl) (fun _ _ => rfl) ?_
  refine E_Ld (q := 1) rfl rfl (fun _ _ => rfl) ?_
  refine E_Ld (q := 2) rfl rfl (fun _ _ => rfl) ?_
  obtain ⟨vc1, Ac1, ⟨hvc1, hAc1⟩, hFc1⟩ := nf_Fup (d' := 24) (fc_flow (xs := xs) (A := A) (i := (f : Int)) hm hZ ⟨by omega, hfc⟩ h3) (by decide)
  subst hvc1
  rw [hAc1] at hFc1
  refine E_VT (q := 5) (v := none) rfl rfl rfl hm (Nat.le_of_ble_eq_true rfl) (fun _ _ _ => rfl) (hFc1) (fun _ _ => rfl) (fun _ _ => rfl) ?_
  refine E_Ld (q := 6) rfl rfl (fun _ _ => rfl) ?_
  refine E_GetT (q := 9) rfl hm hZ ?_
  refine E_Get (q := 12) (v := ni_aP 3) rfl (show ni_us 0 = true by decide +kernel) (show ni_kd 0 = 4 by decide +kernel) rfl rfl (fun _ _ => rfl) ?_
  refine E_Ld (q := 13) rfl rfl (fun _ _ => rfl) ?_
  refine E_Qld (q := 14) (j := f) (v := ni_aP (12 + 3 * f)) rfl (show ni_us 3 = true by decide +kernel) (show ni_kd 3 = 103 by decide +kernel) (show ni_ln 3 = 12 by decide +kernel) ⟨by decide, rfl⟩ rfl (by omega) (by decide) (ni_L9 (show ni_us 3 = true by decide +kernel) (by decide +kernel) (by omega)) (fun _ _ => rfl) (fun _ _ => rfl) ?_
  refine E_St (q := 16) (ls' := [ni_aL (m), ni_aI ((f : Int)), ni_aI (a), ni_aI (b), ni_aP (12 + 3 * f)]) rfl (fun _ _ => rfl) (fun _ _ => rfl) ?_
  refine E_Ld (q := 17) rfl rfl (fun _ _ => rfl) ?_
  refine E_push (q := 18) (c := 1) (z := 1) rfl rfl ?_
  refine E_push (q := 21) (c := 500) (z := 500) rfl rfl ?_
  refine E_C (q := 24) (w := none) rfl (Nat.le_of_ble_eq_true rfl) rfl rfl (Nat.le_of_ble_eq_true rfl) (ni_PuUp (mt_chkR (i := a) (a := 1) (b := 500) (by omega) (by omega)) (by decide)) (fun _ _ => rfl) (fun _ _ => rfl) ?_
  refine E_Ld (q := 25) rfl rfl (fun _ _ => rfl) ?_
  refine E_Ld (q := 27) rfl rfl (fun _ _ => rfl) ?_
  refine E_GetI (q := 30) (e := A (12 + 3 * f) 2) rfl (ni_flS f hf).1 (ni_flS f hf).2 rfl rfl (fun _ _ => rfl) ?_
  refine E_push (q := 33) (c := 5000) (z := 5000) rfl rfl ?_
  refine E_C (q := 36) (w := none) rfl (Nat.le_of_ble_eq_true rfl) rfl rfl (Nat.le_of_ble_eq_true rfl) (ni_PuUp (mt_chkR (i := b) (a := A (12 + 3 * f) 2) (b := 5000) (by omega) (by omega)) (by decide)) (fun _ _ => rfl) (fun _ _ => rfl) ?_
  refine E_Ld (q := 38) rfl rfl (fun _ _ => rfl) ?_
  refine E_Ld (q := 39) rfl rfl (fun _ _ => rfl) ?_
  refine E_Put (q := 42) rfl (ni_flS f hf).1 (ni_flS f hf).2 rfl rfl (fun _ _ _ => rfl) rfl rfl ?_
  refine E_Ld (q := 44) rfl rfl (fun _ _ => rfl) ?_
  refine E_Ld (q := 45) rfl rfl (fun _ _ => rfl) ?_
  refine E_Put (q := 48) rfl (ni_flS f hf).1 (ni_flS f hf).2 rfl rfl (fun _ _ _ => rfl) rfl rfl ?_
  refine E_Ld (q := 50) rfl rfl (fun _ _ => rfl) ?_
  refine E_Ld (q := 51) rfl rfl (fun _ _ => rfl) ?_
  refine E_Put (q := 54) rfl (ni_flS f hf).1 (ni_flS f hf).2 rfl rfl (fun _ _ _ => rfl) rfl rfl ?_
  refine E_Ld (q := 56) rfl rfl (fun _ _ => rfl) ?_
  refine E_GetI (q := 59) (e := A (12 + 3 * f) 11) rfl (ni_flS f hf).1 (ni_flS f hf).2 rfl rfl (fun _ _ => congrArg ni_z ((ni_u2n (Or.inr (by decide))).trans ((ni_u2n (Or.inr (by decide))).trans (ni_u2n (Or.inr (by decide)))))) ?_
  refine E_R rfl (fun _ _ => rfl) (fun _ _ => rfl) ?_
  exact ⟨⟨_, rfl⟩, rfl⟩
theorem nq_L3le6 {L : Nat → Nat} {t n s' : Nat} {x : Int} (hs : ni_us t = true) (hk : ni_kd t = 6) (hs' : ni_us s' = true) (e : ni_ct s' = (t, 3)) (hx : x.toNat ≤ n) : x.toNat ≤ ni_L3 L t n s' := by
  have hp := (ni_usT hs).1
  obtain ⟨g1, g2, g3⟩ := ni_ctS hs' e (by omega)
  rw [hk] at g3
  have : s' = t + 1 ∨ s' = t + 2 ∨ s' = t + 3 := by omega
  unfold ni_L3
  rcases this with r | r | r
  · rw [r, ni_u1n (by omega), ni_u1n (by omega), ni_u1e]
    exact hx
  · rw [r, ni_u1n (by omega), ni_u1e]
    exact hx
  · rw [r, ni_u1e]
    exact hx
theorem mt_add {q n : Nat} {a b c : Int} (hs : ni_us q = true) (hk : ni_kd q = 6) (hn : A q 3 = n) (hn24 : n < 24) : ni_M xs St 1 127 [ni_aP q, ni_aI a, ni_aI b, ni_aI c] A (fun v A' => v = some (ni_aI n) ∧ A' = ni_u2 (ni_u2 (ni_u2 (ni_u2 A (q + 1) n a) (q + 2) n b) (q + 3) n c) q 3 ((n : Int) + 1)) := by
  have h374 := (ni_usT hs).1
  have l1 : n = ni_live A (q + 1) := by rw [ni_liveC (ni_o6_1 hs hk).2.2.2 (by omega), hn]; omega
  have l2 : n = ni_live A (q + 2) := by rw [ni_liveC (ni_o6_2 hs hk).2.2.2 (by omega), hn]; omega
  have l3 : n = ni_live A (q + 3) := by rw [ni_liveC (ni_o6_3 hs hk).2.2.2 (by omega), hn]; omega
  refine ni_Min (ls := [ni_aP (q), ni_aI (a), ni_aI (b), ni_aI (c)]) (fun _ => Nat.le_of_ble_eq_true rfl) (fun _ _ => rfl) ?_
  refine E_Ld (q := 1) rfl rfl (fun _ _ => rfl) ?_
  refine E_GetI (q := 4) (e := A (q) 3) rfl hs hk rfl rfl (fun _ _ => rfl) ?_
  refine E_Ld (q := 5) rfl rfl (fun _ _ => rfl) ?_
  refine E_Get (q := 8) (v := ni_aP (q + 1)) rfl hs hk rfl rfl (fun _ _ => rfl) ?_
  refine E_Len (q := 9) (n := 24) rfl (ni_o6_1 hs hk).1 (ni_o6_1 hs hk).2.1 (ni_o6_1 hs hk).2.2.1 (by decide) (by decide) ?_
  refine E_Ic true rfl (zc_lt_t ⟨by omega, by omega⟩ ⟨by omega, by omega⟩ (by omega)) ?_
  refine E_Ld (q := 15) rfl rfl (fun _ _ => rfl) ?_
  refine E_Get (q := 18) (v := ni_aP (q + 1)) rfl hs hk rfl rfl (fun _ _ => rfl) ?_
  refine E_Ld (q := 19) rfl rfl (fun _ _ => rfl) ?_
  refine E_GetI (q := 22) (e := A (q) 3) rfl hs hk rfl rfl (fun _ _ => rfl) ?_
  refine E_Ld (q := 23) rfl rfl (fun _ _ => rfl) ?_
  refine E_AstN (q := 24) (j := n) rfl (ni_o6_1 hs hk).1 (ni_o6_1 hs hk).2.1 (ni_o6_1 hs hk).2.2.1 (by omega) (by omega) (by decide) ⟨rfl, l1⟩ ?_
  refine E_Ld (q := 25) rfl rfl (fun _ _ => rfl) ?_
  refine E_Get (q := 28) (v := ni_aP (q + 2)) rfl hs hk rfl rfl (fun _ _ => rfl) ?_
  refine E_Ld (q := 29) rfl rfl (fun _ _ => rfl) ?_
  refine E_GetI (q := 32) (e := A (q) 3) rfl hs hk rfl rfl (fun _ _ => congrArg ni_z (ni_u2n (Or.inl (by omega)))) ?_
  refine E_Ld (q := 33) rfl rfl (fun _ _ => rfl) ?_
  refine E_AstN (q := 34) (j := n) rfl (ni_o6_2 hs hk).1 (ni_o6_2 hs hk).2.1 (ni_o6_2 hs hk).2.2.1 (by omega) (by omega) (by decide) ⟨rfl, (by rw [ni_u1n (by omega)]; exact l2)⟩ ?_
  refine E_Ld (q := 35) rfl rfl (fun _ _ => rfl) ?_
  refine E_Get (q := 38) (v := ni_aP (q + 3)) rfl hs hk rfl rfl (fun _ _ => rfl) ?_
  refine E_Ld (q := 39) rfl rfl (fun _ _ => rfl) ?_
  refine E_GetI (q := 42) (e := A (q) 3) rfl hs hk rfl rfl (fun _ _ => congrArg ni_z ((ni_u2n (Or.inl (by omega))).trans (ni_u2n (Or.inl (by omega))))) ?_
  refine E_Ld (q := 43) rfl rfl (fun _ _ => rfl) ?_
  refine E_AstN (q := 44) (j := n) rfl (ni_o6_3 hs hk).1 (ni_o6_3 hs hk).2.1 (ni_o6_3 hs hk).2.2.1 (by omega) (by omega) (by decide) ⟨rfl, (by rw [ni_u1n (by omega), ni_u1n (by omega)]; exact l3)⟩ ?_
  refine E_Ld (q := 45) rfl rfl (fun _ _ => rfl) ?_
  refine E_Dup (q := 46) rfl (fun _ _ => rfl) ?_
  refine E_GetI (q := 49) (e := A (q) 3) rfl hs hk rfl rfl (fun _ _ => congrArg ni_z ((ni_u2n (Or.inl (by omega))).trans ((ni_u2n (Or.inl (by omega))).trans (ni_u2n (Or.inl (by omega)))))) ?_
  refine E_push (q := 50) (c := 1) (z := 1) rfl rfl ?_
  refine E_add (q := 51) rfl ?_
  refine E_PutC (q := 54) rfl hs hk rfl rfl (fun _ _ _ => rfl) (by omega) (by decide) (fun _ _ s' hs' e' => nq_L3le6 hs hk hs' e' (by omega)) ?_
  refine E_Ld (q := 55) rfl rfl (fun _ _ => rfl) ?_
  refine E_GetI (q := 58) (e := (A (q) 3) + 1) rfl hs hk rfl rfl (fun _ _ => congrArg ni_z (ni_u2e)) ?_
  refine E_push (q := 59) (c := 1) (z := 1) rfl rfl ?_
  refine E_sub (q := 60) rfl ?_
  refine E_R rfl (fun _ _ => rfl) (fun _ _ => rfl) ?_
  refine ⟨congrArg (fun z => some (ni_aI z)) (by omega), ?_⟩
  rw [hn]
theorem mt_newStatic {r n : Nat} {b c : Int} (hr : r < 8) (hn : A 8 3 = n) (hn24 : n < 24) : ni_M xs St 2 88 [ni_aP 0, ni_aI (r : Int), ni_aI b, ni_aI c] A (fun v A' => v = some (ni_aI n) ∧ A' = (ni_u2 (ni_u2 (ni_u2 (ni_u2 (ni_u2 A (286 + 11 * r) 5 1) (8 + 1) n (r : Int)) (8 + 2) n b) (8 + 3) n c) 8 3 ((n : Int) + 1))) := by
  refine ni_Min (ls := [ni_aP (0), ni_aI ((r : Int)), ni_aI (b), ni_aI (c)]) (fun _ => Nat.le_of_ble_eq_true rfl) (fun _ _ => rfl) ?_
  refine E_Ld (q := 1) rfl rfl (fun _ _ => rfl) ?_
  refine E_Get (q := 4) (v := ni_aP 1) rfl (show ni_us 0 = true by decide +kernel) (show ni_kd 0 = 4 by decide +kernel) rfl rfl (fun _ _ => rfl) ?_
  refine E_Ld (q := 5) rfl rfl (fun _ _ => rfl) ?_
  refine E_Qld (q := 6) (j := r) (v := ni_aP (286 + 11 * r)) rfl (show ni_us 1 = true by decide +kernel) (show ni_kd 1 = 101 by decide +kernel) (show ni_ln 1 = 8 by decide +kernel) ⟨by decide, rfl⟩ rfl (by omega) (by decide) (ni_L9 (show ni_us 1 = true by decide +kernel) (by decide +kernel) (by omega)) (fun _ _ => rfl) (fun _ _ => rfl) ?_
  refine E_push (q := 7) (c := 1) (z := 1) rfl rfl ?_
  refine E_Put (q := 10) rfl (ni_roS r hr).1 (ni_roS r hr).2 rfl rfl (fun _ _ _ => rfl) rfl rfl ?_
  refine E_Ld (q := 11) rfl rfl (fun _ _ => rfl) ?_
  refine E_Get (q := 14) (v := ni_aP 8) rfl (show ni_us 0 = true by decide +kernel) (show ni_kd 0 = 4 by decide +kernel) rfl rfl (fun _ _ => rfl) ?_
  refine E_Ld (q := 15) rfl rfl (fun _ _ => rfl) ?_
  refine E_Ld (q := 16) rfl rfl (fun _ _ => rfl) ?_
  refine E_Ld (q := 17) rfl rfl (fun _ _ => rfl) ?_
  obtain ⟨vq, Aq, ⟨hvq, hAq⟩, hq⟩ := mt_add (xs := xs) (St := St) (A := ni_u2 A (286 + 11 * r) 5 1) (q := 8) (n := n) (a := (r : Int)) (b := b) (c := c) (by decide +kernel) (by decide +kernel) (by rw [ni_u2n (by omega)]; exact hn) hn24
  subst hvq hAq
  refine E_V (q := 20) (w := some (ni_aI ((n : Int)))) rfl rfl rfl (show ni_us 8 = true by decide +kernel) (show ni_kd 8 = 6 by decide +kernel) rfl (Nat.le_of_ble_eq_true rfl) (fun _ _ _ => rfl) (hq) (fun _ _ => rfl) (fun _ _ => rfl) ?_
  refine E_R rfl (fun _ _ => rfl) (fun _ _ => rfl) ?_
  exact ⟨rfl, rfl⟩
theorem fc_addStatic (hm : St m = some (9, [.ref n0, .ref n1])) (hZ : ∀ ad, Z ad → ad 0 = n0) {r l n k : Nat} {a b : Int} (hr : r < 8) (hrc : (r : Int) < A 0 1) (h1 : A 0 1 ≤ 8) (hl : l < 14) (hlc : (l : Int) < A 0 2) (h2 : A 0 2 ≤ 14) (hk : k ≤ 16) (hb : b = 16 - k) (ha : 0 ≤ a ∧ a ≤ 65535) (hak : a % 2 ^ k = 0) (hE : (0 ≤ A (48 + 17 * l) 0 ∧ A (48 + 17 * l) 0 < 8) ∧ (0 ≤ A (48 + 17 * l) 1 ∧ A (48 + 17 * l) 1 < 8)) (hra : (r : Int) = A (48 + 17 * l) 0 ∨ (r : Int) = A (48 + 17 * l) 1) (hn : A 8 3 = n) (hn24 : n < 24) : nf_F xs St Z 25 5 [ni_aL (m), ni_aI ((r : Int)), ni_aI (a), ni_aI (b), ni_aI ((l : Int))] A (fun v A' => (∃ x : Int, v = some (ni_aI x)) ∧ A' = (ni_u2 (ni_u2 (ni_u2 (ni_u2 (ni_u2 A (286 + 11 * r) 5 1) (8 + 1) n (r : Int)) (8 + 2) n (a * 32 + b)) (8 + 3) n (l : Int)) 8 3 ((n : Int) + 1))) := by
  refine nf_Fin (ls := [ni_aL (m), ni_aI ((r : Int)), ni_aI (a), ni_aI (b), ni_aI ((l : Int))]) (fun _ => Nat.le_of_ble_eq_true rfl) (fun _ _ => rfl) ?_
  refine E_Ld (q := 1) rfl rfl (fun _ _ => rfl) ?_
  refine E_Ld (q := 2) rfl rfl (fun _ _ => rfl) ?_
  obtain ⟨vc1, Ac1, ⟨hvc1, hAc1⟩, hFc1⟩ := nf_Fup (d' := 24) (fc_router (xs := xs) (A := A) (i := (r : Int)) hm hZ ⟨by omega, hrc⟩ h1) (by decide)
  subst hvc1
  rw [hAc1] at hFc1
  refine E_VT (q := 5) (v := none) rfl rfl rfl hm (Nat.le_of_ble_eq_true rfl) (fun _ _ _ => rfl) (hFc1) (fun _ _ => rfl) (fun _ _ => rfl) ?_
  refine E_Ld (q := 6) rfl rfl (fun _ _ => rfl) ?_
  refine E_Ld (q := 8) rfl rfl (fun _ _ => rfl) ?_
  obtain ⟨vc2, Ac2, ⟨hvc2, hAc2⟩, hFc2⟩ := nf_Fup (d' := 24) (fc_link (xs := xs) (A := A) (i := (l : Int)) hm hZ ⟨by omega, hlc⟩ h2) (by decide)
  subst hvc2
  rw [hAc2] at hFc2
  refine E_VT (q := 11) (v := none) rfl rfl rfl hm (Nat.le_of_ble_eq_true rfl) (fun _ _ _ => rfl) (hFc2) (fun _ _ => rfl) (fun _ _ => rfl) ?_
  refine E_Ld (q := 12) rfl rfl (fun _ _ => rfl) ?_
  refine E_Ld (q := 13) rfl rfl (fun _ _ => rfl) ?_
  refine E_C (q := 16) (w := none) rfl (Nat.le_of_ble_eq_true rfl) rfl rfl (Nat.le_of_ble_eq_true rfl) (ni_PuUp (mt_chkP hk hb ha hak) (by decide)) (fun _ _ => rfl) (fun _ _ => rfl) ?_
  refine E_Ld (q := 17) rfl rfl (fun _ _ => rfl) ?_
  refine E_GetT (q := 20) rfl hm hZ ?_
  refine E_Get (q := 23) (v := ni_aP 2) rfl (show ni_us 0 = true by decide +kernel) (show ni_kd 0 = 4 by decide +kernel) rfl rfl (fun _ _ => rfl) ?_
  refine E_Ld (q := 25) rfl rfl (fun _ _ => rfl) ?_
  refine E_Qld (q := 26) (j := l) (v := ni_aP (48 + 17 * l)) rfl (show ni_us 2 = true by decide +kernel) (show ni_kd 2 = 102 by decide +kernel) (show ni_ln 2 = 14 by decide +kernel) ⟨by decide, rfl⟩ rfl (by omega) (by decide) (ni_L9 (show ni_us 2 = true by decide +kernel) (by decide +kernel) (by omega)) (fun _ _ => rfl) (fun _ _ => rfl) ?_
  refine E_Ld (q := 27) rfl rfl (fun _ _ => rfl) ?_
  obtain ⟨tb, htb, htc, hto⟩ := mt_touch (xs := xs) (St := St) (A := A) (l := 48 + 17 * l) (r := (r : Int)) (by omega) (by omega) (by omega) (ni_liS l hl).1 (ni_liS l hl).2
  refine E_V (q := 30) (w := some (ni_aI (tb))) rfl rfl rfl (ni_liS l hl).1 (ni_liS l hl).2 rfl (Nat.le_of_ble_eq_true rfl) (fun _ _ _ => rfl) (ni_Dup hto (by decide)) (fun _ _ => rfl) (fun _ _ => rfl) ?_
  refine E_If true rfl (zf_ne_t ⟨by omega, by omega⟩ (by omega)) ?_
  refine E_Ld (q := 44) rfl rfl (fun _ _ => rfl) ?_
  refine E_GetT (q := 47) rfl hm hZ ?_
  refine E_Get (q := 50) (v := ni_aP 8) rfl (show ni_us 0 = true by decide +kernel) (show ni_kd 0 = 4 by decide +kernel) rfl rfl (fun _ _ => rfl) ?_
  refine E_GetI (q := 53) (e := A (8) 3) rfl (show ni_us 8 = true by decide +kernel) (show ni_kd 8 = 6 by decide +kernel) rfl rfl (fun _ _ => rfl) ?_
  refine E_push (q := 55) (c := 24) (z := 24) rfl rfl ?_
  refine E_Ic true rfl (zc_lt_t ⟨by omega, by omega⟩ ⟨by omega, by omega⟩ (by omega)) ?_
  refine E_Ld (q := 69) rfl rfl (fun _ _ => rfl) ?_
  refine E_GetT (q := 72) rfl hm hZ ?_
  refine E_Ld (q := 73) rfl rfl (fun _ _ => rfl) ?_
  refine E_Ld (q := 74) rfl rfl (fun _ _ => rfl) ?_
  refine E_Ld (q := 75) rfl rfl (fun _ _ => rfl) ?_
  refine E_C (q := 78) (w := some (ni_aI (a * 32 + b))) rfl (Nat.le_of_ble_eq_true rfl) rfl rfl (Nat.le_of_ble_eq_true rfl) (ni_PuUp mt_preOf (by decide)) (fun _ _ => rfl) (fun _ _ => rfl) ?_
  refine E_Ld (q := 80) rfl rfl (fun _ _ => rfl) ?_
  obtain ⟨vq, Aq, ⟨hvq, hAq⟩, hq⟩ := mt_newStatic (xs := xs) (St := St) (A := A) (r := r) (n := n) (b := a * 32 + b) (c := (l : Int)) hr hn hn24
  subst hvq hAq
  refine E_V (q := 83) (w := some (ni_aI ((n : Int)))) rfl rfl rfl (show ni_us 0 = true by decide +kernel) (show ni_kd 0 = 4 by decide +kernel) rfl (Nat.le_of_ble_eq_true rfl) (fun _ _ _ => rfl) (ni_Dup hq (by decide)) (fun _ _ => rfl) (fun _ _ => rfl) ?_
  refine E_R rfl (fun _ _ => rfl) (fun _ _ => rfl) ?_
  exact ⟨⟨_, rfl⟩, rfl⟩
end NFM
