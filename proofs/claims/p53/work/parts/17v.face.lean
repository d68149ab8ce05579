/-! THE FACE: WHAT IS ASKED -/
section NFC
variable {Z : (Nat → Nat) → Prop} {m n0 n1 : Nat} {xs : List Int32} {St : Nat → Option ni_C} {A : Nat → Nat → Int}
abbrev nf_J (x : Int64) : ni_a := .inl (.long x)
section X
variable {d y pc q : Nat} {ls st : List ni_a} {L : Nat → Nat} {P : Option ni_a → (Nat → Nat → Int) → Prop}
theorem E_pushJ {c : Int64} (hp : ni_prog xs y pc = ni_sP (ni_gPush (.long c) q)) (k : ni_E xs St Z d y q ls (nf_J c :: st) A L P) : ni_E xs St Z d y pc ls st A L P := E_P hp (fun _ _ => rfl) k
theorem E_mulJ {a b : Int64} (hp : ni_prog xs y pc = ni_sP (ni_gJ (fun x y => .long (x * y)) q)) (k : ni_E xs St Z d y q ls (nf_J (a * b) :: st) A L P) : ni_E xs St Z d y pc ls (nf_J b :: nf_J a :: st) A L P := E_P hp (fun _ _ => rfl) k
theorem E_addJ {a b : Int64} (hp : ni_prog xs y pc = ni_sP (ni_gJ (fun x y => .long (x + y)) q)) (k : ni_E xs St Z d y q ls (nf_J (a + b) :: st) A L P) : ni_E xs St Z d y pc ls (nf_J b :: nf_J a :: st) A L P := E_P hp (fun _ _ => rfl) k
theorem E_toJ {e : Int} (hp : ni_prog xs y pc = ni_sP (ni_gU (fun x => .long x.toInt64) q)) (k : ni_E xs St Z d y q ls (nf_J (Int32.ofInt e).toInt64 :: st) A L P) : ni_E xs St Z d y pc ls (ni_aI e :: st) A L P := E_P hp (fun _ _ => rfl) k
end X
theorem ni_rokB {b : Int} (h : b = 0 ∨ b = 1) : ni_rok (some .boolean) (some (ni_z b)) = true := by
  rcases h with h | h <;> subst h <;> rfl
theorem mt_chkI {i n : Int} (h : 0 ≤ i ∧ i < n) (hn : n ≤ 1000000) : ni_Pu xs 1 8 [ni_z i, ni_z n] none := by
  intro M
  refine wp_enter (Nat.le_of_ble_eq_true rfl) rfl ?_
  refine wp_Ld rfl rfl rfl ?_
  refine wp_If false rfl (zf_lt_f ⟨by omega, by omega⟩ (by omega)) ?_
  refine wp_Ld rfl rfl rfl ?_
  refine wp_Ld rfl rfl rfl ?_
  refine wp_Ic true rfl (zc_lt_t ⟨by omega, by omega⟩ ⟨by omega, by omega⟩ (by omega)) ?_
  exact wp_Rv rfl rfl ⟨rfl, rfl⟩
theorem fc_flow (hm : St m = some (9, [.ref n0, .ref n1])) (hZ : ∀ ad, Z ad → ad 0 = n0) {i : Int} (hi : 0 ≤ i ∧ i < A 0 3) (hn : A 0 3 ≤ 12) : nf_F xs St Z 2 7 [ni_aL (m), ni_aI (i)] A (fun v A' => v = none ∧ A' = A) := by
  refine nf_Fin (ls := [ni_aL (m), ni_aI (i)]) (fun _ => Nat.le_of_ble_eq_true rfl) (fun _ _ => rfl) ?_
  refine E_Ld (q := 1) rfl rfl (fun _ _ => rfl) ?_
  refine E_Ld (q := 2) rfl rfl (fun _ _ => rfl) ?_
  refine E_GetT (q := 5) rfl hm hZ ?_
  refine E_GetI (q := 8) (e := A (0) 3) rfl (show ni_us 0 = true by decide +kernel) (show ni_kd 0 = 4 by decide +kernel) rfl rfl (fun _ _ => rfl) ?_
  refine E_C (q := 11) (w := none) rfl (Nat.le_of_ble_eq_true rfl) rfl rfl (Nat.le_of_ble_eq_true rfl) (mt_chkI hi (by omega)) (fun _ _ => rfl) (fun _ _ => rfl) ?_
  refine E_Rv rfl rfl ?_
  exact ⟨rfl, rfl⟩
theorem fc_link (hm : St m = some (9, [.ref n0, .ref n1])) (hZ : ∀ ad, Z ad → ad 0 = n0) {i : Int} (hi : 0 ≤ i ∧ i < A 0 2) (hn : A 0 2 ≤ 14) : nf_F xs St Z 2 9 [ni_aL (m), ni_aI (i)] A (fun v A' => v = none ∧ A' = A) := by
  refine nf_Fin (ls := [ni_aL (m), ni_aI (i)]) (fun _ => Nat.le_of_ble_eq_true rfl) (fun _ _ => rfl) ?_
  refine E_Ld (q := 1) rfl rfl (fun _ _ => rfl) ?_
  refine E_Ld (q := 2) rfl rfl (fun _ _ => rfl) ?_
  refine E_GetT (q := 5) rfl hm hZ ?_
  refine E_GetI (q := 8) (e := A (0) 2) rfl (show ni_us 0 = true by decide +kernel) (show ni_kd 0 = 4 by decide +kernel) rfl rfl (fun _ _ => rfl) ?_
  refine E_C (q := 11) (w := none) rfl (Nat.le_of_ble_eq_true rfl) rfl rfl (Nat.le_of_ble_eq_true rfl) (mt_chkI hi (by omega)) (fun _ _ => rfl) (fun _ _ => rfl) ?_
  refine E_Rv rfl rfl ?_
  exact ⟨rfl, rfl⟩
theorem fc_router (hm : St m = some (9, [.ref n0, .ref n1])) (hZ : ∀ ad, Z ad → ad 0 = n0) {i : Int} (hi : 0 ≤ i ∧ i < A 0 1) (hn : A 0 1 ≤ 8) : nf_F xs St Z 2 12 [ni_aL (m), ni_aI (i)] A (fun v A' => v = none ∧ A' = A) := by
  refine nf_Fin (ls := [ni_aL (m), ni_aI (i)]) (fun _ => Nat.le_of_ble_eq_true rfl) (fun _ _ => rfl) ?_
  refine E_Ld (q := 1) rfl rfl (fun _ _ => rfl) ?_
  refine E_Ld (q := 2) rfl rfl (fun _ _ => rfl) ?_
  refine E_GetT (q := 5) rfl hm hZ ?_
  refine E_GetI (q := 8) (e := A (0) 1) rfl (show ni_us 0 = true by decide +kernel) (show ni_kd 0 = 4 by decide +kernel) rfl rfl (fun _ _ => rfl) ?_
  refine E_C (q := 11) (w := none) rfl (Nat.le_of_ble_eq_true rfl) rfl rfl (Nat.le_of_ble_eq_true rfl) (mt_chkI hi (by omega)) (fun _ _ => rfl) (fun _ _ => rfl) ?_
  refine E_Rv rfl rfl ?_
  exact ⟨rfl, rfl⟩
theorem fc_offered (hm : St m = some (9, [.ref n0, .ref n1])) (hZ : ∀ ad, Z ad → ad 0 = n0) {f : Nat} (hf : f < 12) (hfc : (f : Int) < A 0 3) (h3 : A 0 3 ≤ 12) : nf_F xs St Z 25 30 [ni_aL (m), ni_aI ((f : Int))] A (fun v A' => v = some (ni_aI (A (12 + 3 * f) 12)) ∧ A' = A) := by
  refine nf_Fin (ls := [ni_aL (m), ni_aI ((f : Int))]) (fun _ => Nat.le_of_ble_eq_true rfl) (fun _ _ => rfl) ?_
  refine E_Ld (q := 1) rfl rfl (fun _ _ => rfl) ?_
  refine E_Ld (q := 2) rfl rfl (fun _ _ => rfl) ?_
  obtain ⟨vc1, Ac1, ⟨hvc1, hAc1⟩, hFc1⟩ := nf_Fup (d' := 24) (fc_flow (xs := xs) (A := A) (i := (f : Int)) hm hZ ⟨by omega, hfc⟩ h3) (by decide)
  subst hvc1
  rw [hAc1] at hFc1
  refine E_VT (q := 5) (v := none) rfl rfl rfl hm (Nat.le_of_ble_eq_true rfl) (fun _ _ _ => rfl) (hFc1) (fun _ _ => rfl) (fun _ _ => rfl) ?_
  refine E_Ld (q := 6) rfl rfl (fun _ _ => rfl) ?_
  refine E_GetT (q := 9) rfl hm hZ ?_
  refine E_Get (q := 12) (v := ni_aP 3) rfl (show ni_us 0 = true by decide +kernel) (show ni_kd 0 = 4 by decide +kernel) rfl rfl (fun _ _ => rfl) ?_
  refine E_Ld (q := 13) rfl rfl (fun _ _ => rfl) ?_
  refine E_Qld (q := 14) (j := f) (v := ni_aP (12 + 3 * f)) rfl (show ni_us 3 = true by decide +kernel) (show ni_kd 3 = 103 by decide +kernel) (show ni_ln 3 = 12 by decide +kernel) ⟨by decide, rfl⟩ rfl (by omega) (by decide) (ni_L9 (show ni_us 3 = true by decide +kernel) (by decide +kernel) (by omega)) (fun _ _ => rfl) (fun _ _ => rfl) ?_
  refine E_GetI (q := 17) (e := A (12 + 3 * f) 12) rfl (ni_flS f hf).1 (ni_flS f hf).2 rfl rfl (fun _ _ => rfl) ?_
  refine E_R rfl (fun _ _ => rfl) (fun _ _ => rfl) ?_
  exact ⟨rfl, rfl⟩
theorem fc_shaping (hm : St m = some (9, [.ref n0, .ref n1])) (hZ : ∀ ad, Z ad → ad 0 = n0) {f : Nat} (hf : f < 12) (hfc : (f : Int) < A 0 3) (h3 : A 0 3 ≤ 12) : nf_F xs St Z 25 45 [ni_aL (m), ni_aI ((f : Int))] A (fun v A' => v = some (ni_aI (A (12 + 3 * f) 11)) ∧ A' = A) := by
  refine nf_Fin (ls := [ni_aL (m), ni_aI ((f : Int))]) (fun _ => Nat.le_of_ble_eq_true rfl) (fun _ _ => rfl) ?_
  refine E_Ld (q := 1) rfl rfl (fun _ _ => rfl) ?_
  refine E_Ld (q := 2) rfl rfl (fun _ _ => rfl) ?_
  obtain ⟨vc1, Ac1, ⟨hvc1, hAc1⟩, hFc1⟩ := nf_Fup (d' := 24) (fc_flow (xs := xs) (A := A) (i := (f : Int)) hm hZ ⟨by omega, hfc⟩ h3) (by decide)
  subst hvc1
  rw [hAc1] at hFc1
  refine E_VT (q := 5) (v := none) rfl rfl rfl hm (Nat.le_of_ble_eq_true rfl) (fun _ _ _ => rfl) (hFc1) (fun _ _ => rfl) (fun _ _ => rfl) ?_
  refine E_Ld (q := 6) rfl rfl (fun _ _ => rfl) ?_
  refine E_GetT (q := 9) rfl hm hZ ?_
  refine E_Get (q := 12) (v := ni_aP 3) rfl (show ni_us 0 = true by decide +kernel) (show ni_kd 0 = 4 by decide +kernel) rfl rfl (fun _ _ => rfl) ?_
  refine E_Ld (q := 13) rfl rfl (fun _ _ => rfl) ?_
  refine E_Qld (q := 14) (j := f) (v := ni_aP (12 + 3 * f)) rfl (show ni_us 3 = true by decide +kernel) (show ni_kd 3 = 103 by decide +kernel) (show ni_ln 3 = 12 by decide +kernel) ⟨by decide, rfl⟩ rfl (by omega) (by decide) (ni_L9 (show ni_us 3 = true by decide +kernel) (by decide +kernel) (by omega)) (fun _ _ => rfl) (fun _ _ => rfl) ?_
  refine E_GetI (q := 17) (e := A (12 + 3 * f) 11) rfl (ni_flS f hf).1 (ni_flS f hf).2 rfl rfl (fun _ _ => rfl) ?_
  refine E_R rfl (fun _ _ => rfl) (fun _ _ => rfl) ?_
  exact ⟨rfl, rfl⟩
theorem fc_delivered (hm : St m = some (9, [.ref n0, .ref n1])) (hZ : ∀ ad, Z ad → ad 0 = n0) {f : Nat} (hf : f < 12) (hfc : (f : Int) < A 0 3) (h3 : A 0 3 ≤ 12) : nf_F xs St Z 25 14 [ni_aL (m), ni_aI ((f : Int))] A (fun v A' => v = some (ni_aI (A (12 + 3 * f) 13)) ∧ A' = A) := by
  refine nf_Fin (ls := [ni_aL (m), ni_aI ((f : Int))]) (fun _ => Nat.le_of_ble_eq_true rfl) (fun _ _ => rfl) ?_
  refine E_Ld (q := 1) rfl rfl (fun _ _ => rfl) ?_
  refine E_Ld (q := 2) rfl rfl (fun _ _ => rfl) ?_
  obtain ⟨vc1, Ac1, ⟨hvc1, hAc1⟩, hFc1⟩ := nf_Fup (d' := 24) (fc_flow (xs := xs) (A := A) (i := (f : Int)) hm hZ ⟨by omega, hfc⟩ h3) (by decide)
  subst hvc1
  rw [hAc1] at hFc1
  refine E_VT (q := 5) (v := none) rfl rfl rfl hm (Nat.le_of_ble_eq_true rfl) (fun _ _ _ => rfl) (hFc1) (fun _ _ => rfl) (fun _ _ => rfl) ?_
  refine E_Ld (q := 6) rfl rfl (fun _ _ => rfl) ?_
  refine E_GetT (q := 9) rfl hm hZ ?_
  refine E_Get (q := 12) (v := ni_aP 3) rfl (show ni_us 0 = true by decide +kernel) (show ni_kd 0 = 4 by decide +kernel) rfl rfl (fun _ _ => rfl) ?_
  refine E_Ld (q := 13) rfl rfl (fun _ _ => rfl) ?_
  refine E_Qld (q := 14) (j := f) (v := ni_aP (12 + 3 * f)) rfl (show ni_us 3 = true by decide +kernel) (show ni_kd 3 = 103 by decide +kernel) (show ni_ln 3 = 12 by decide +kernel) ⟨by decide, rfl⟩ rfl (by omega) (by decide) (ni_L9 (show ni_us 3 = true by decide +kernel) (by decide +kernel) (by omega)) (fun _ _ => rfl) (fun _ _ => rfl) ?_
  refine E_GetI (q := 17) (e := A (12 + 3 * f) 13) rfl (ni_flS f hf).1 (ni_flS f hf).2 rfl rfl (fun _ _ => rfl) ?_
  refine E_R rfl (fun _ _ => rfl) (fun _ _ => rfl) ?_
  exact ⟨rfl, rfl⟩
theorem fc_latest (hm : St m = some (9, [.ref n0, .ref n1])) (hZ : ∀ ad, Z ad → ad 0 = n0) {f : Nat} (hf : f < 12) (hfc : (f : Int) < A 0 3) (h3 : A 0 3 ≤ 12) : nf_F xs St Z 25 27 [ni_aL (m), ni_aI ((f : Int))] A (fun v A' => v = some (ni_aI (A (12 + 3 * f) 16)) ∧ A' = A) := by
  refine nf_Fin (ls := [ni_aL (m), ni_aI ((f : Int))]) (fun _ => Nat.le_of_ble_eq_true rfl) (fun _ _ => rfl) ?_
  refine E_Ld (q := 1) rfl rfl (fun _ _ => rfl) ?_
  refine E_Ld (q := 2) rfl rfl (fun _ _ => rfl) ?_
  obtain ⟨vc1, Ac1, ⟨hvc1, hAc1⟩, hFc1⟩ := nf_Fup (d' := 24) (fc_flow (xs := xs) (A := A) (i := (f : Int)) hm hZ ⟨by omega, hfc⟩ h3) (by decide)
  subst hvc1
  rw [hAc1] at hFc1
  refine E_VT (q := 5) (v := none) rfl rfl rfl hm (Nat.le_of_ble_eq_true rfl) (fun _ _ _ => rfl) (hFc1) (fun _ _ => rfl) (fun _ _ => rfl) ?_
  refine E_Ld (q := 6) rfl rfl (fun _ _ => rfl) ?_
  refine E_GetT (q := 9) rfl hm hZ ?_
  refine E_Get (q := 12) (v := ni_aP 3) rfl (show ni_us 0 = true by decide +kernel) (show ni_kd 0 = 4 by decide +kernel) rfl rfl (fun _ _ => rfl) ?_
  refine E_Ld (q := 13) rfl rfl (fun _ _ => rfl) ?_
  refine E_Qld (q := 14) (j := f) (v := ni_aP (12 + 3 * f)) rfl (show ni_us 3 = true by decide +kernel) (show ni_kd 3 = 103 by decide +kernel) (show ni_ln 3 = 12 by decide +kernel) ⟨by decide, rfl⟩ rfl (by omega) (by decide) (ni_L9 (show ni_us 3 = true by decide +kernel) (by decide +kernel) (by omega)) (fun _ _ => rfl) (fun _ _ => rfl) ?_
  refine E_GetI (q := 17) (e := A (12 + 3 * f) 16) rfl (ni_flS f hf).1 (ni_flS f hf).2 rfl rfl (fun _ _ => rfl) ?_
  refine E_R rfl (fun _ _ => rfl) (fun _ _ => rfl) ?_
  exact ⟨rfl, rfl⟩
theorem fc_outOf (hm : St m = some (9, [.ref n0, .ref n1])) (hZ : ∀ ad, Z ad → ad 0 = n0) {f : Nat} (hf : f < 12) (hfc : (f : Int) < A 0 3) (h3 : A 0 3 ≤ 12) : nf_F xs St Z 25 32 [ni_aL (m), ni_aI ((f : Int))] A (fun v A' => v = some (ni_aI (A (12 + 3 * f) 18)) ∧ A' = A) := by
  refine nf_Fin (ls := [ni_aL (m), ni_aI ((f : Int))]) (fun _ => Nat.le_of_ble_eq_true rfl) (fun _ _ => rfl) ?_
  refine E_Ld (q := 1) rfl rfl (fun _ _ => rfl) ?_
  refine E_Ld (q := 2) rfl rfl (fun _ _ => rfl) ?_
  obtain ⟨vc1, Ac1, ⟨hvc1, hAc1⟩, hFc1⟩ := nf_Fup (d' := 24) (fc_flow (xs := xs) (A := A) (i := (f : Int)) hm hZ ⟨by omega, hfc⟩ h3) (by decide)
  subst hvc1
  rw [hAc1] at hFc1
  refine E_VT (q := 5) (v := none) rfl rfl rfl hm (Nat.le_of_ble_eq_true rfl) (fun _ _ _ => rfl) (hFc1) (fun _ _ => rfl) (fun _ _ => rfl) ?_
  refine E_Ld (q := 6) rfl rfl (fun _ _ => rfl) ?_
  refine E_GetT (q := 9) rfl hm hZ ?_
  refine E_Get (q := 12) (v := ni_aP 3) rfl (show ni_us 0 = true by decide +kernel) (show ni_kd 0 = 4 by decide +kernel) rfl rfl (fun _ _ => rfl) ?_
  refine E_Ld (q := 13) rfl rfl (fun _ _ => rfl) ?_
  refine E_Qld (q := 14) (j := f) (v := ni_aP (12 + 3 * f)) rfl (show ni_us 3 = true by decide +kernel) (show ni_kd 3 = 103 by decide +kernel) (show ni_ln 3 = 12 by decide +kernel) ⟨by decide, rfl⟩ rfl (by omega) (by decide) (ni_L9 (show ni_us 3 = true by decide +kernel) (by decide +kernel) (by omega)) (fun _ _ => rfl) (fun _ _ => rfl) ?_
  refine E_GetI (q := 17) (e := A (12 + 3 * f) 18) rfl (ni_flS f hf).1 (ni_flS f hf).2 rfl rfl (fun _ _ => rfl) ?_
  refine E_R rfl (fun _ _ => rfl) (fun _ _ => rfl) ?_
  exact ⟨rfl, rfl⟩
theorem fc_dropped (hm : St m = some (9, [.ref n0, .ref n1])) (hZ : ∀ ad, Z ad → ad 0 = n0) {f : Nat} (hf : f < 12) (hfc : (f : Int) < A 0 3) (h3 : A 0 3 ≤ 12) {k : Nat} (hk7 : k < 7) : nf_F xs St Z 25 22 [ni_aL (m), ni_aI ((f : Int)), ni_aI ((k : Int))] A (fun v A' => v = some (ni_aI (A (12 + 3 * f + 2) k)) ∧ A' = A) := by
  refine nf_Fin (ls := [ni_aL (m), ni_aI ((f : Int)), ni_aI ((k : Int))]) (fun _ => Nat.le_of_ble_eq_true rfl) (fun _ _ => rfl) ?_
  refine E_Ld (q := 1) rfl rfl (fun _ _ => rfl) ?_
  refine E_Ld (q := 2) rfl rfl (fun _ _ => rfl) ?_
  obtain ⟨vc1, Ac1, ⟨hvc1, hAc1⟩, hFc1⟩ := nf_Fup (d' := 24) (fc_flow (xs := xs) (A := A) (i := (f : Int)) hm hZ ⟨by omega, hfc⟩ h3) (by decide)
  subst hvc1
  rw [hAc1] at hFc1
  refine E_VT (q := 5) (v := none) rfl rfl rfl hm (Nat.le_of_ble_eq_true rfl) (fun _ _ _ => rfl) (hFc1) (fun _ _ => rfl) (fun _ _ => rfl) ?_
  refine E_Ld (q := 6) rfl rfl (fun _ _ => rfl) ?_
  refine E_push (q := 8) (c := 7) (z := 7) rfl rfl ?_
  refine E_C (q := 11) (w := none) rfl (Nat.le_of_ble_eq_true rfl) rfl rfl (Nat.le_of_ble_eq_true rfl) (ni_PuUp (mt_chkI (i := (k : Int)) (n := 7) (by omega) (by omega)) (by decide)) (fun _ _ => rfl) (fun _ _ => rfl) ?_
  refine E_Ld (q := 12) rfl rfl (fun _ _ => rfl) ?_
  refine E_GetT (q := 15) rfl hm hZ ?_
  refine E_Get (q := 18) (v := ni_aP 3) rfl (show ni_us 0 = true by decide +kernel) (show ni_kd 0 = 4 by decide +kernel) rfl rfl (fun _ _ => rfl) ?_
  refine E_Ld (q := 19) rfl rfl (fun _ _ => rfl) ?_
  refine E_Qld (q := 20) (j := f) (v := ni_aP (12 + 3 * f)) rfl (show ni_us 3 = true by decide +kernel) (show ni_kd 3 = 103 by decide +kernel) (show ni_ln 3 = 12 by decide +kernel) ⟨by decide, rfl⟩ rfl (by omega) (by decide) (ni_L9 (show ni_us 3 = true by decide +kernel) (by decide +kernel) (by omega)) (fun _ _ => rfl) (fun _ _ => rfl) ?_
  refine E_Get (q := 23) (v := ni_aP (12 + 3 * f + 2)) rfl (ni_flS f hf).1 (ni_flS f hf).2 rfl rfl (fun _ _ => rfl) ?_
  refine E_Ld (q := 24) rfl rfl (fun _ _ => rfl) ?_
  refine E_Ald (q := 25) (j := k) (e := A (12 + 3 * f + 2) (k)) rfl (ni_o0_2 (ni_flS f hf).1 (ni_flS f hf).2).1 (ni_o0_2 (ni_flS f hf).1 (ni_flS f hf).2).2.1 (ni_o0_2 (ni_flS f hf).1 (ni_flS f hf).2).2.2.1 rfl (by omega) (by decide) (ni_L9 (ni_o0_2 (ni_flS f hf).1 (ni_flS f hf).2).1 (ni_o0_2 (ni_flS f hf).1 (ni_flS f hf).2).2.2.2 (by omega)) (fun _ _ => rfl) ?_
  refine E_R rfl (fun _ _ => rfl) (fun _ _ => rfl) ?_
  exact ⟨rfl, rfl⟩
theorem fc_routers (hm : St m = some (9, [.ref n0, .ref n1])) (hZ : ∀ ad, Z ad → ad 0 = n0)  : nf_F xs St Z 25 36 [ni_aL (m)] A (fun v A' => v = some (ni_aI (A 0 1)) ∧ A' = A) := by
  refine nf_Fin (ls := [ni_aL (m)]) (fun _ => Nat.le_of_ble_eq_true rfl) (fun _ _ => rfl) ?_
  refine E_Ld (q := 1) rfl rfl (fun _ _ => rfl) ?_
  refine E_GetT (q := 4) rfl hm hZ ?_
  refine E_GetI (q := 7) (e := A (0) 1) rfl (show ni_us 0 = true by decide +kernel) (show ni_kd 0 = 4 by decide +kernel) rfl rfl (fun _ _ => rfl) ?_
  refine E_R rfl (fun _ _ => rfl) (fun _ _ => rfl) ?_
  exact ⟨rfl, rfl⟩
theorem fc_time (hm : St m = some (9, [.ref n0, .ref n1])) (hZ : ∀ ad, Z ad → ad 0 = n0)  : nf_F xs St Z 25 47 [ni_aL (m)] A (fun v A' => v = some (ni_aI (A 0 0)) ∧ A' = A) := by
  refine nf_Fin (ls := [ni_aL (m)]) (fun _ => Nat.le_of_ble_eq_true rfl) (fun _ _ => rfl) ?_
  refine E_Ld (q := 1) rfl rfl (fun _ _ => rfl) ?_
  refine E_GetT (q := 4) rfl hm hZ ?_
  refine E_GetI (q := 7) (e := A (0) 0) rfl (show ni_us 0 = true by decide +kernel) (show ni_kd 0 = 4 by decide +kernel) rfl rfl (fun _ _ => rfl) ?_
  refine E_R rfl (fun _ _ => rfl) (fun _ _ => rfl) ?_
  exact ⟨rfl, rfl⟩
theorem fc_distance (hm : St m = some (9, [.ref n0, .ref n1])) (hZ : ∀ ad, Z ad → ad 0 = n0) {r o : Nat} (hr : r < 8) (hrc : (r : Int) < A 0 1) (ho : o < 8) (hoc : (o : Int) < A 0 1) (h1 : A 0 1 ≤ 8) : nf_F xs St Z 25 21 [ni_aL (m), ni_aI ((r : Int)), ni_aI ((o : Int))] A (fun v A' => v = some (ni_aI (A (286 + 11 * r + 5) o)) ∧ A' = A) := by
  refine nf_Fin (ls := [ni_aL (m), ni_aI ((r : Int)), ni_aI ((o : Int))]) (fun _ => Nat.le_of_ble_eq_true rfl) (fun _ _ => rfl) ?_
  refine E_Ld (q := 1) rfl rfl (fun _ _ => rfl) ?_
  refine E_Ld (q := 2) rfl rfl (fun _ _ => rfl) ?_
  obtain ⟨vc1, Ac1, ⟨hvc1, hAc1⟩, hFc1⟩ := nf_Fup (d' := 24) (fc_router (xs := xs) (A := A) (i := (r : Int)) hm hZ ⟨by omega, hrc⟩ h1) (by decide)
  subst hvc1
  rw [hAc1] at hFc1
  refine E_VT (q := 5) (v := none) rfl rfl rfl hm (Nat.le_of_ble_eq_true rfl) (fun _ _ _ => rfl) (hFc1) (fun _ _ => rfl) (fun _ _ => rfl) ?_
  refine E_Ld (q := 6) rfl rfl (fun _ _ => rfl) ?_
  refine E_Ld (q := 7) rfl rfl (fun _ _ => rfl) ?_
  obtain ⟨vc2, Ac2, ⟨hvc2, hAc2⟩, hFc2⟩ := nf_Fup (d' := 24) (fc_router (xs := xs) (A := A) (i := (o : Int)) hm hZ ⟨by omega, hoc⟩ h1) (by decide)
  subst hvc2
  rw [hAc2] at hFc2
  refine E_VT (q := 10) (v := none) rfl rfl rfl hm (Nat.le_of_ble_eq_true rfl) (fun _ _ _ => rfl) (hFc2) (fun _ _ => rfl) (fun _ _ => rfl) ?_
  refine E_Ld (q := 11) rfl rfl (fun _ _ => rfl) ?_
  refine E_GetT (q := 14) rfl hm hZ ?_
  refine E_Get (q := 17) (v := ni_aP 1) rfl (show ni_us 0 = true by decide +kernel) (show ni_kd 0 = 4 by decide +kernel) rfl rfl (fun _ _ => rfl) ?_
  refine E_Ld (q := 18) rfl rfl (fun _ _ => rfl) ?_
  refine E_Qld (q := 19) (j := r) (v := ni_aP (286 + 11 * r)) rfl (show ni_us 1 = true by decide +kernel) (show ni_kd 1 = 101 by decide +kernel) (show ni_ln 1 = 8 by decide +kernel) ⟨by decide, rfl⟩ rfl (by omega) (by decide) (ni_L9 (show ni_us 1 = true by decide +kernel) (by decide +kernel) (by omega)) (fun _ _ => rfl) (fun _ _ => rfl) ?_
  refine E_Get (q := 22) (v := ni_aP (286 + 11 * r + 5)) rfl (ni_roS r hr).1 (ni_roS r hr).2 rfl rfl (fun _ _ => rfl) ?_
  refine E_Ld (q := 23) rfl rfl (fun _ _ => rfl) ?_
  refine E_Ald (q := 24) (j := o) (e := A (286 + 11 * r + 5) (o)) rfl (ni_o7_5 (ni_roS r hr).1 (ni_roS r hr).2).1 (ni_o7_5 (ni_roS r hr).1 (ni_roS r hr).2).2.1 (ni_o7_5 (ni_roS r hr).1 (ni_roS r hr).2).2.2.1 rfl (by omega) (by decide) (ni_L9 (ni_o7_5 (ni_roS r hr).1 (ni_roS r hr).2).1 (ni_o7_5 (ni_roS r hr).1 (ni_roS r hr).2).2.2.2 (by omega)) (fun _ _ => rfl) ?_
  refine E_R rfl (fun _ _ => rfl) (fun _ _ => rfl) ?_
  exact ⟨rfl, rfl⟩
theorem fc_firsts (hm : St m = some (9, [.ref n0, .ref n1])) (hZ : ∀ ad, Z ad → ad 0 = n0) {r o : Nat} (hr : r < 8) (hrc : (r : Int) < A 0 1) (ho : o < 8) (hoc : (o : Int) < A 0 1) (h1 : A 0 1 ≤ 8) {b : Nat} (hb : A (286 + 11 * r + 6) o = b) (hb14 : b < 16384) : nf_F xs St Z 25 24 [ni_aL (m), ni_aI ((r : Int)), ni_aI ((o : Int))] A (fun v A' => v = some (ni_aI ((ni_bc b : Int))) ∧ A' = A) := by
  have hbc := mt_bitc (xs := xs) (n := b) (by omega)
  rw [← hb] at hbc
  refine nf_Fin (ls := [ni_aL (m), ni_aI ((r : Int)), ni_aI ((o : Int))]) (fun _ => Nat.le_of_ble_eq_true rfl) (fun _ _ => rfl) ?_
  refine E_Ld (q := 1) rfl rfl (fun _ _ => rfl) ?_
  refine E_Ld (q := 2) rfl rfl (fun _ _ => rfl) ?_
  obtain ⟨vc1, Ac1, ⟨hvc1, hAc1⟩, hFc1⟩ := nf_Fup (d' := 24) (fc_router (xs := xs) (A := A) (i := (r : Int)) hm hZ ⟨by omega, hrc⟩ h1) (by decide)
  subst hvc1
  rw [hAc1] at hFc1
  refine E_VT (q := 5) (v := none) rfl rfl rfl hm (Nat.le_of_ble_eq_true rfl) (fun _ _ _ => rfl) (hFc1) (fun _ _ => rfl) (fun _ _ => rfl) ?_
  refine E_Ld (q := 6) rfl rfl (fun _ _ => rfl) ?_
  refine E_Ld (q := 7) rfl rfl (fun _ _ => rfl) ?_
  obtain ⟨vc2, Ac2, ⟨hvc2, hAc2⟩, hFc2⟩ := nf_Fup (d' := 24) (fc_router (xs := xs) (A := A) (i := (o : Int)) hm hZ ⟨by omega, hoc⟩ h1) (by decide)
  subst hvc2
  rw [hAc2] at hFc2
  refine E_VT (q := 10) (v := none) rfl rfl rfl hm (Nat.le_of_ble_eq_true rfl) (fun _ _ _ => rfl) (hFc2) (fun _ _ => rfl) (fun _ _ => rfl) ?_
  refine E_Ld (q := 11) rfl rfl (fun _ _ => rfl) ?_
  refine E_GetT (q := 14) rfl hm hZ ?_
  refine E_Get (q := 17) (v := ni_aP 1) rfl (show ni_us 0 = true by decide +kernel) (show ni_kd 0 = 4 by decide +kernel) rfl rfl (fun _ _ => rfl) ?_
  refine E_Ld (q := 18) rfl rfl (fun _ _ => rfl) ?_
  refine E_Qld (q := 19) (j := r) (v := ni_aP (286 + 11 * r)) rfl (show ni_us 1 = true by decide +kernel) (show ni_kd 1 = 101 by decide +kernel) (show ni_ln 1 = 8 by decide +kernel) ⟨by decide, rfl⟩ rfl (by omega) (by decide) (ni_L9 (show ni_us 1 = true by decide +kernel) (by decide +kernel) (by omega)) (fun _ _ => rfl) (fun _ _ => rfl) ?_
  refine E_Get (q := 22) (v := ni_aP (286 + 11 * r + 6)) rfl (ni_roS r hr).1 (ni_roS r hr).2 rfl rfl (fun _ _ => rfl) ?_
  refine E_Ld (q := 23) rfl rfl (fun _ _ => rfl) ?_
  refine E_Ald (q := 24) (j := o) (e := A (286 + 11 * r + 6) (o)) rfl (ni_o7_6 (ni_roS r hr).1 (ni_roS r hr).2).1 (ni_o7_6 (ni_roS r hr).1 (ni_roS r hr).2).2.1 (ni_o7_6 (ni_roS r hr).1 (ni_roS r hr).2).2.2.1 rfl (by omega) (by decide) (ni_L9 (ni_o7_6 (ni_roS r hr).1 (ni_roS r hr).2).1 (ni_o7_6 (ni_roS r hr).1 (ni_roS r hr).2).2.2.2 (by omega)) (fun _ _ => rfl) ?_
  refine E_C (q := 27) (w := some (ni_aI ((ni_bc b : Int)))) rfl (Nat.le_of_ble_eq_true rfl) rfl rfl (Nat.le_of_ble_eq_true rfl) (ni_PuUp hbc (by decide)) (fun _ _ => rfl) (fun _ _ => rfl) ?_
  refine E_R rfl (fun _ _ => rfl) (fun _ _ => rfl) ?_
  exact ⟨rfl, rfl⟩
theorem fc_letterOf (hm : St m = some (9, [.ref n0, .ref n1])) (hZ : ∀ ad, Z ad → ad 0 = n0) {r o : Nat} (hr : r < 8) (hrc : (r : Int) < A 0 1) (ho : o < 8) (hoc : (o : Int) < A 0 1) (h1 : A 0 1 ≤ 8) {o1 n s1 : Int} {ca na : Nat} (hb : St (A (286 + 11 * r + 4) o).toNat = some (1, [ni_z o1, ni_z n, ni_z s1, .ref ca, .ref na])) : nf_F xs St Z 25 28 [ni_aL (m), ni_aI ((r : Int)), ni_aI ((o : Int))] A (fun v A' => v = some (ni_aI (n)) ∧ A' = A) := by
  refine nf_Fin (ls := [ni_aL (m), ni_aI ((r : Int)), ni_aI ((o : Int))]) (fun _ => Nat.le_of_ble_eq_true rfl) (fun _ _ => rfl) ?_
  refine E_Ld (q := 1) rfl rfl (fun _ _ => rfl) ?_
  refine E_Ld (q := 2) rfl rfl (fun _ _ => rfl) ?_
  obtain ⟨vc1, Ac1, ⟨hvc1, hAc1⟩, hFc1⟩ := nf_Fup (d' := 24) (fc_router (xs := xs) (A := A) (i := (r : Int)) hm hZ ⟨by omega, hrc⟩ h1) (by decide)
  subst hvc1
  rw [hAc1] at hFc1
  refine E_VT (q := 5) (v := none) rfl rfl rfl hm (Nat.le_of_ble_eq_true rfl) (fun _ _ _ => rfl) (hFc1) (fun _ _ => rfl) (fun _ _ => rfl) ?_
  refine E_Ld (q := 6) rfl rfl (fun _ _ => rfl) ?_
  refine E_Ld (q := 7) rfl rfl (fun _ _ => rfl) ?_
  obtain ⟨vc2, Ac2, ⟨hvc2, hAc2⟩, hFc2⟩ := nf_Fup (d' := 24) (fc_router (xs := xs) (A := A) (i := (o : Int)) hm hZ ⟨by omega, hoc⟩ h1) (by decide)
  subst hvc2
  rw [hAc2] at hFc2
  refine E_VT (q := 10) (v := none) rfl rfl rfl hm (Nat.le_of_ble_eq_true rfl) (fun _ _ _ => rfl) (hFc2) (fun _ _ => rfl) (fun _ _ => rfl) ?_
  refine E_Ld (q := 11) rfl rfl (fun _ _ => rfl) ?_
  refine E_GetT (q := 14) rfl hm hZ ?_
  refine E_Get (q := 17) (v := ni_aP 1) rfl (show ni_us 0 = true by decide +kernel) (show ni_kd 0 = 4 by decide +kernel) rfl rfl (fun _ _ => rfl) ?_
  refine E_Ld (q := 18) rfl rfl (fun _ _ => rfl) ?_
  refine E_Qld (q := 19) (j := r) (v := ni_aP (286 + 11 * r)) rfl (show ni_us 1 = true by decide +kernel) (show ni_kd 1 = 101 by decide +kernel) (show ni_ln 1 = 8 by decide +kernel) ⟨by decide, rfl⟩ rfl (by omega) (by decide) (ni_L9 (show ni_us 1 = true by decide +kernel) (by decide +kernel) (by omega)) (fun _ _ => rfl) (fun _ _ => rfl) ?_
  refine E_Get (q := 22) (v := ni_aP (286 + 11 * r + 4)) rfl (ni_roS r hr).1 (ni_roS r hr).2 rfl rfl (fun _ _ => rfl) ?_
  refine E_Ld (q := 23) rfl rfl (fun _ _ => rfl) ?_
  refine E_Qld (q := 24) (j := o) (v := ni_aL (A (286 + 11 * r + 4) (o)).toNat) rfl (ni_o7_4 (ni_roS r hr).1 (ni_roS r hr).2).1 (ni_o7_4 (ni_roS r hr).1 (ni_roS r hr).2).2.1 (ni_o7_4 (ni_roS r hr).1 (ni_roS r hr).2).2.2.1 ⟨by decide, rfl⟩ rfl (by omega) (by decide) (ni_L7 (ni_o7_4 (ni_roS r hr).1 (ni_roS r hr).2).1 (ni_ctR r hr) hrc (by omega)) (fun _ _ => rfl) (fun _ _ => rfl) ?_
  refine E_GetS (q := 27) (v := ni_aI (n)) rfl hb (fun _ _ => rfl) ?_
  refine E_R rfl (fun _ _ => rfl) (fun _ _ => rfl) ?_
  exact ⟨rfl, rfl⟩
theorem fc_entries (hm : St m = some (9, [.ref n0, .ref n1])) (hZ : ∀ ad, Z ad → ad 0 = n0) {r : Nat} (hr : r < 8) (hrc : (r : Int) < A 0 1) (h1 : A 0 1 ≤ 8) : nf_F xs St Z 25 23 [ni_aL (m), ni_aI ((r : Int))] A (fun v A' => v = some (ni_aI (A (286 + 11 * r + 7) 3)) ∧ A' = A) := by
  refine nf_Fin (ls := [ni_aL (m), ni_aI ((r : Int))]) (fun _ => Nat.le_of_ble_eq_true rfl) (fun _ _ => rfl) ?_
  refine E_Ld (q := 1) rfl rfl (fun _ _ => rfl) ?_
  refine E_Ld (q := 2) rfl rfl (fun _ _ => rfl) ?_
  obtain ⟨vc1, Ac1, ⟨hvc1, hAc1⟩, hFc1⟩ := nf_Fup (d' := 24) (fc_router (xs := xs) (A := A) (i := (r : Int)) hm hZ ⟨by omega, hrc⟩ h1) (by decide)
  subst hvc1
  rw [hAc1] at hFc1
  refine E_VT (q := 5) (v := none) rfl rfl rfl hm (Nat.le_of_ble_eq_true rfl) (fun _ _ _ => rfl) (hFc1) (fun _ _ => rfl) (fun _ _ => rfl) ?_
  refine E_Ld (q := 6) rfl rfl (fun _ _ => rfl) ?_
  refine E_GetT (q := 9) rfl hm hZ ?_
  refine E_Get (q := 12) (v := ni_aP 1) rfl (show ni_us 0 = true by decide +kernel) (show ni_kd 0 = 4 by decide +kernel) rfl rfl (fun _ _ => rfl) ?_
  refine E_Ld (q := 13) rfl rfl (fun _ _ => rfl) ?_
  refine E_Qld (q := 14) (j := r) (v := ni_aP (286 + 11 * r)) rfl (show ni_us 1 = true by decide +kernel) (show ni_kd 1 = 101 by decide +kernel) (show ni_ln 1 = 8 by decide +kernel) ⟨by decide, rfl⟩ rfl (by omega) (by decide) (ni_L9 (show ni_us 1 = true by decide +kernel) (by decide +kernel) (by omega)) (fun _ _ => rfl) (fun _ _ => rfl) ?_
  refine E_Get (q := 17) (v := ni_aP (286 + 11 * r + 7)) rfl (ni_roS r hr).1 (ni_roS r hr).2 rfl rfl (fun _ _ => rfl) ?_
  refine E_GetI (q := 20) (e := A (286 + 11 * r + 7) 3) rfl (ni_o7_7 (ni_roS r hr).1 (ni_roS r hr).2).1 (ni_o7_7 (ni_roS r hr).1 (ni_roS r hr).2).2.1 rfl rfl (fun _ _ => rfl) ?_
  refine E_R rfl (fun _ _ => rfl) (fun _ _ => rfl) ?_
  exact ⟨rfl, rfl⟩
theorem fc_nodes (hm : St m = some (9, [.ref n0, .ref n1])) (hZ : ∀ ad, Z ad → ad 0 = n0) {r : Nat} (hr : r < 8) (hrc : (r : Int) < A 0 1) (h1 : A 0 1 ≤ 8) {n : Int} (hq : ni_M xs St 21 145 [ni_aP (286 + 11 * r + 7)] A (fun v A' => v = some (ni_aI n) ∧ A' = A)) : nf_F xs St Z 25 49 [ni_aL (m), ni_aI ((r : Int))] A (fun v A' => v = some (ni_aI (n)) ∧ A' = A) := by
  obtain ⟨vq, Aq, ⟨hvq, hAq⟩, hq⟩ := hq
  subst hvq
  rw [hAq] at hq
  refine nf_Fin (ls := [ni_aL (m), ni_aI ((r : Int))]) (fun _ => Nat.le_of_ble_eq_true rfl) (fun _ _ => rfl) ?_
  refine E_Ld (q := 1) rfl rfl (fun _ _ => rfl) ?_
  refine E_Ld (q := 2) rfl rfl (fun _ _ => rfl) ?_
  obtain ⟨vc1, Ac1, ⟨hvc1, hAc1⟩, hFc1⟩ := nf_Fup (d' := 24) (fc_router (xs := xs) (A := A) (i := (r : Int)) hm hZ ⟨by omega, hrc⟩ h1) (by decide)
  subst hvc1
  rw [hAc1] at hFc1
  refine E_VT (q := 5) (v := none) rfl rfl rfl hm (Nat.le_of_ble_eq_true rfl) (fun _ _ _ => rfl) (hFc1) (fun _ _ => rfl) (fun _ _ => rfl) ?_
  refine E_Ld (q := 6) rfl rfl (fun _ _ => rfl) ?_
  refine E_GetT (q := 9) rfl hm hZ ?_
  refine E_Get (q := 12) (v := ni_aP 1) rfl (show ni_us 0 = true by decide +kernel) (show ni_kd 0 = 4 by decide +kernel) rfl rfl (fun _ _ => rfl) ?_
  refine E_Ld (q := 13) rfl rfl (fun _ _ => rfl) ?_
  refine E_Qld (q := 14) (j := r) (v := ni_aP (286 + 11 * r)) rfl (show ni_us 1 = true by decide +kernel) (show ni_kd 1 = 101 by decide +kernel) (show ni_ln 1 = 8 by decide +kernel) ⟨by decide, rfl⟩ rfl (by omega) (by decide) (ni_L9 (show ni_us 1 = true by decide +kernel) (by decide +kernel) (by omega)) (fun _ _ => rfl) (fun _ _ => rfl) ?_
  refine E_Get (q := 17) (v := ni_aP (286 + 11 * r + 7)) rfl (ni_roS r hr).1 (ni_roS r hr).2 rfl rfl (fun _ _ => rfl) ?_
  refine E_V (q := 20) (w := some (ni_aI (n))) rfl rfl rfl (ni_o7_7 (ni_roS r hr).1 (ni_roS r hr).2).1 (ni_o7_7 (ni_roS r hr).1 (ni_roS r hr).2).2.1 rfl (Nat.le_of_ble_eq_true rfl) (fun _ _ _ => rfl) (ni_Dup hq (by decide)) (fun _ _ => rfl) (fun _ _ => rfl) ?_
  refine E_R rfl (fun _ _ => rfl) (fun _ _ => rfl) ?_
  exact ⟨rfl, rfl⟩
theorem fc_levels (hm : St m = some (9, [.ref n0, .ref n1])) (hZ : ∀ ad, Z ad → ad 0 = n0) {r : Nat} (hr : r < 8) (hrc : (r : Int) < A 0 1) (h1 : A 0 1 ≤ 8) {n : Int} (hq : ni_M xs St 21 144 [ni_aP (286 + 11 * r + 7)] A (fun v A' => v = some (ni_aI n) ∧ A' = A)) : nf_F xs St Z 25 48 [ni_aL (m), ni_aI ((r : Int))] A (fun v A' => v = some (ni_aI (n)) ∧ A' = A) := by
  obtain ⟨vq, Aq, ⟨hvq, hAq⟩, hq⟩ := hq
  subst hvq
  rw [hAq] at hq
  refine nf_Fin (ls := [ni_aL (m), ni_aI ((r : Int))]) (fun _ => Nat.le_of_ble_eq_true rfl) (fun _ _ => rfl) ?_
  refine E_Ld (q := 1) rfl rfl (fun _ _ => rfl) ?_
  refine E_Ld (q := 2) rfl rfl (fun _ _ => rfl) ?_
  obtain ⟨vc1, Ac1, ⟨hvc1, hAc1⟩, hFc1⟩ := nf_Fup (d' := 24) (fc_router (xs := xs) (A := A) (i := (r : Int)) hm hZ ⟨by omega, hrc⟩ h1) (by decide)
  subst hvc1
  rw [hAc1] at hFc1
  refine E_VT (q := 5) (v := none) rfl rfl rfl hm (Nat.le_of_ble_eq_true rfl) (fun _ _ _ => rfl) (hFc1) (fun _ _ => rfl) (fun _ _ => rfl) ?_
  refine E_Ld (q := 6) rfl rfl (fun _ _ => rfl) ?_
  refine E_GetT (q := 9) rfl hm hZ ?_
  refine E_Get (q := 12) (v := ni_aP 1) rfl (show ni_us 0 = true by decide +kernel) (show ni_kd 0 = 4 by decide +kernel) rfl rfl (fun _ _ => rfl) ?_
  refine E_Ld (q := 13) rfl rfl (fun _ _ => rfl) ?_
  refine E_Qld (q := 14) (j := r) (v := ni_aP (286 + 11 * r)) rfl (show ni_us 1 = true by decide +kernel) (show ni_kd 1 = 101 by decide +kernel) (show ni_ln 1 = 8 by decide +kernel) ⟨by decide, rfl⟩ rfl (by omega) (by decide) (ni_L9 (show ni_us 1 = true by decide +kernel) (by decide +kernel) (by omega)) (fun _ _ => rfl) (fun _ _ => rfl) ?_
  refine E_Get (q := 17) (v := ni_aP (286 + 11 * r + 7)) rfl (ni_roS r hr).1 (ni_roS r hr).2 rfl rfl (fun _ _ => rfl) ?_
  refine E_V (q := 20) (w := some (ni_aI (n))) rfl rfl rfl (ni_o7_7 (ni_roS r hr).1 (ni_roS r hr).2).1 (ni_o7_7 (ni_roS r hr).1 (ni_roS r hr).2).2.1 rfl (Nat.le_of_ble_eq_true rfl) (fun _ _ _ => rfl) (ni_Dup hq (by decide)) (fun _ _ => rfl) (fun _ _ => rfl) ?_
  refine E_R rfl (fun _ _ => rfl) (fun _ _ => rfl) ?_
  exact ⟨rfl, rfl⟩
theorem fc_onLink (hm : St m = some (9, [.ref n0, .ref n1])) (hZ : ∀ ad, Z ad → ad 0 = n0) {l : Nat} (hl : l < 14) (hlc : (l : Int) < A 0 2) (h2 : A 0 2 ≤ 14) : nf_F xs St Z 25 31 [ni_aL (m), ni_aI ((l : Int))] A (fun v A' => v = some (ni_aI (A (48 + 17 * l + 1 + 1) 4 + A (48 + 17 * l + 9 + 1) 4)) ∧ A' = A) := by
  refine nf_Fin (ls := [ni_aL (m), ni_aI ((l : Int))]) (fun _ => Nat.le_of_ble_eq_true rfl) (fun _ _ => rfl) ?_
  refine E_Ld (q := 1) rfl rfl (fun _ _ => rfl) ?_
  refine E_Ld (q := 2) rfl rfl (fun _ _ => rfl) ?_
  obtain ⟨vc1, Ac1, ⟨hvc1, hAc1⟩, hFc1⟩ := nf_Fup (d' := 24) (fc_link (xs := xs) (A := A) (i := (l : Int)) hm hZ ⟨by omega, hlc⟩ h2) (by decide)
  subst hvc1
  rw [hAc1] at hFc1
  refine E_VT (q := 5) (v := none) rfl rfl rfl hm (Nat.le_of_ble_eq_true rfl) (fun _ _ _ => rfl) (hFc1) (fun _ _ => rfl) (fun _ _ => rfl) ?_
  refine E_Ld (q := 6) rfl rfl (fun _ _ => rfl) ?_
  refine E_GetT (q := 9) rfl hm hZ ?_
  refine E_Get (q := 12) (v := ni_aP 2) rfl (show ni_us 0 = true by decide +kernel) (show ni_kd 0 = 4 by decide +kernel) rfl rfl (fun _ _ => rfl) ?_
  refine E_Ld (q := 13) rfl rfl (fun _ _ => rfl) ?_
  refine E_Qld (q := 14) (j := l) (v := ni_aP (48 + 17 * l)) rfl (show ni_us 2 = true by decide +kernel) (show ni_kd 2 = 102 by decide +kernel) (show ni_ln 2 = 14 by decide +kernel) ⟨by decide, rfl⟩ rfl (by omega) (by decide) (ni_L9 (show ni_us 2 = true by decide +kernel) (by decide +kernel) (by omega)) (fun _ _ => rfl) (fun _ _ => rfl) ?_
  refine E_V (q := 17) (w := some (ni_aI (A (48 + 17 * l + 1 + 1) 4 + A (48 + 17 * l + 9 + 1) 4))) rfl rfl rfl (ni_liS l hl).1 (ni_liS l hl).2 rfl (Nat.le_of_ble_eq_true rfl) (fun _ _ _ => rfl) (ni_Dup (mt_countP (ni_liS l hl).1 (ni_liS l hl).2) (by decide)) (fun _ _ => rfl) (fun _ _ => rfl) ?_
  refine E_R rfl (fun _ _ => rfl) (fun _ _ => rfl) ?_
  exact ⟨rfl, rfl⟩
theorem fc_isUp (hm : St m = some (9, [.ref n0, .ref n1])) (hZ : ∀ ad, Z ad → ad 0 = n0) {l : Nat} (hl : l < 14) (hlc : (l : Int) < A 0 2) (h2 : A 0 2 ≤ 14) (h5 : A (48 + 17 * l) 5 = 0 ∨ A (48 + 17 * l) 5 = 1) : nf_F xs St Z 25 26 [ni_aL (m), ni_aI ((l : Int))] A (fun v A' => v = some (ni_aI (A (48 + 17 * l) 5)) ∧ A' = A) := by
  refine nf_Fin (ls := [ni_aL (m), ni_aI ((l : Int))]) (fun _ => Nat.le_of_ble_eq_true rfl) (fun _ _ => rfl) ?_
  refine E_Ld (q := 1) rfl rfl (fun _ _ => rfl) ?_
  refine E_Ld (q := 2) rfl rfl (fun _ _ => rfl) ?_
  obtain ⟨vc1, Ac1, ⟨hvc1, hAc1⟩, hFc1⟩ := nf_Fup (d' := 24) (fc_link (xs := xs) (A := A) (i := (l : Int)) hm hZ ⟨by omega, hlc⟩ h2) (by decide)
  subst hvc1
  rw [hAc1] at hFc1
  refine E_VT (q := 5) (v := none) rfl rfl rfl hm (Nat.le_of_ble_eq_true rfl) (fun _ _ _ => rfl) (hFc1) (fun _ _ => rfl) (fun _ _ => rfl) ?_
  refine E_Ld (q := 6) rfl rfl (fun _ _ => rfl) ?_
  refine E_GetT (q := 9) rfl hm hZ ?_
  refine E_Get (q := 12) (v := ni_aP 2) rfl (show ni_us 0 = true by decide +kernel) (show ni_kd 0 = 4 by decide +kernel) rfl rfl (fun _ _ => rfl) ?_
  refine E_Ld (q := 13) rfl rfl (fun _ _ => rfl) ?_
  refine E_Qld (q := 14) (j := l) (v := ni_aP (48 + 17 * l)) rfl (show ni_us 2 = true by decide +kernel) (show ni_kd 2 = 102 by decide +kernel) (show ni_ln 2 = 14 by decide +kernel) ⟨by decide, rfl⟩ rfl (by omega) (by decide) (ni_L9 (show ni_us 2 = true by decide +kernel) (by decide +kernel) (by omega)) (fun _ _ => rfl) (fun _ _ => rfl) ?_
  refine E_GetI (q := 17) (e := A (48 + 17 * l) 5) rfl (ni_liS l hl).1 (ni_liS l hl).2 rfl rfl (fun _ _ => rfl) ?_
  refine E_R rfl (fun _ _ => ni_rokB h5) (fun _ _ => rfl) ?_
  exact ⟨rfl, rfl⟩
theorem fc_port0 (hm : St m = some (9, [.ref n0, .ref n1])) (hZ : ∀ ad, Z ad → ad 0 = n0) {l : Nat} (hl : l < 14) : nf_F xs St Z 3 33 [ni_aL (m), ni_aI ((l : Int)), ni_aI (0)] A (fun v A' => v = some (ni_aP (48 + 17 * l + 1)) ∧ A' = A) := by
  refine nf_Fin (ls := [ni_aL (m), ni_aI ((l : Int)), ni_aI (0)]) (fun _ => Nat.le_of_ble_eq_true rfl) (fun _ _ => rfl) ?_
  refine E_Ld (q := 1) rfl rfl (fun _ _ => rfl) ?_
  refine E_If true rfl (zf_eq_t ⟨by omega, by omega⟩ (by omega)) ?_
  refine E_Ld (q := 20) rfl rfl (fun _ _ => rfl) ?_
  refine E_GetT (q := 23) rfl hm hZ ?_
  refine E_Get (q := 26) (v := ni_aP 2) rfl (show ni_us 0 = true by decide +kernel) (show ni_kd 0 = 4 by decide +kernel) rfl rfl (fun _ _ => rfl) ?_
  refine E_Ld (q := 27) rfl rfl (fun _ _ => rfl) ?_
  refine E_Qld (q := 28) (j := l) (v := ni_aP (48 + 17 * l)) rfl (show ni_us 2 = true by decide +kernel) (show ni_kd 2 = 102 by decide +kernel) (show ni_ln 2 = 14 by decide +kernel) ⟨by decide, rfl⟩ rfl (by omega) (by decide) (ni_L9 (show ni_us 2 = true by decide +kernel) (by decide +kernel) (by omega)) (fun _ _ => rfl) (fun _ _ => rfl) ?_
  refine E_Get (q := 31) (v := ni_aP (48 + 17 * l + 1)) rfl (ni_liS l hl).1 (ni_liS l hl).2 rfl rfl (fun _ _ => rfl) ?_
  refine E_R rfl (fun _ _ => rfl) (fun _ _ => rfl) ?_
  exact ⟨rfl, rfl⟩
theorem fc_sending0 (hm : St m = some (9, [.ref n0, .ref n1])) (hZ : ∀ ad, Z ad → ad 0 = n0) {l : Nat} (hl : l < 14) (hlc : (l : Int) < A 0 2) (h2 : A 0 2 ≤ 14) : nf_F xs St Z 25 38 [ni_aL (m), ni_aI ((l : Int)), ni_aI (0)] A (fun v A' => v = some (ni_aI (A (48 + 17 * l + 1) 13)) ∧ A' = A) := by
  refine nf_Fin (ls := [ni_aL (m), ni_aI ((l : Int)), ni_aI (0)]) (fun _ => Nat.le_of_ble_eq_true rfl) (fun _ _ => rfl) ?_
  refine E_Ld (q := 1) rfl rfl (fun _ _ => rfl) ?_
  refine E_Ld (q := 2) rfl rfl (fun _ _ => rfl) ?_
  obtain ⟨vc1, Ac1, ⟨hvc1, hAc1⟩, hFc1⟩ := nf_Fup (d' := 24) (fc_link (xs := xs) (A := A) (i := (l : Int)) hm hZ ⟨by omega, hlc⟩ h2) (by decide)
  subst hvc1
  rw [hAc1] at hFc1
  refine E_VT (q := 5) (v := none) rfl rfl rfl hm (Nat.le_of_ble_eq_true rfl) (fun _ _ _ => rfl) (hFc1) (fun _ _ => rfl) (fun _ _ => rfl) ?_
  refine E_Ld (q := 6) rfl rfl (fun _ _ => rfl) ?_
  refine E_Ld (q := 7) rfl rfl (fun _ _ => rfl) ?_
  refine E_Ld (q := 8) rfl rfl (fun _ _ => rfl) ?_
  obtain ⟨vp, Ap, ⟨hvp, hAp⟩, hFp⟩ := nf_Fup (d' := 24) (fc_port0 (xs := xs) (A := A) (l := l) hm hZ hl) (by decide)
  subst hvp
  rw [hAp] at hFp
  refine E_VT (q := 11) (v := some (ni_aP (48 + 17 * l + 1))) rfl rfl rfl hm (Nat.le_of_ble_eq_true rfl) (fun _ _ _ => rfl) (hFp) (fun _ _ => rfl) (fun _ _ => rfl) ?_
  refine E_GetI (q := 14) (e := A (48 + 17 * l + 1) 13) rfl (ni_o3_1 (ni_liS l hl).1 (ni_liS l hl).2).1 (ni_o3_1 (ni_liS l hl).1 (ni_liS l hl).2).2.1 rfl rfl (fun _ _ => rfl) ?_
  refine E_R rfl (fun _ _ => rfl) (fun _ _ => rfl) ?_
  exact ⟨rfl, rfl⟩
theorem fc_waiting0 (hm : St m = some (9, [.ref n0, .ref n1])) (hZ : ∀ ad, Z ad → ad 0 = n0) {l : Nat} (hl : l < 14) (hlc : (l : Int) < A 0 2) (h2 : A 0 2 ≤ 14) : nf_F xs St Z 25 50 [ni_aL (m), ni_aI ((l : Int)), ni_aI (0)] A (fun v A' => v = some (ni_aI (A (48 + 17 * l + 1) 11)) ∧ A' = A) := by
  refine nf_Fin (ls := [ni_aL (m), ni_aI ((l : Int)), ni_aI (0)]) (fun _ => Nat.le_of_ble_eq_true rfl) (fun _ _ => rfl) ?_
  refine E_Ld (q := 1) rfl rfl (fun _ _ => rfl) ?_
  refine E_Ld (q := 2) rfl rfl (fun _ _ => rfl) ?_
  obtain ⟨vc1, Ac1, ⟨hvc1, hAc1⟩, hFc1⟩ := nf_Fup (d' := 24) (fc_link (xs := xs) (A := A) (i := (l : Int)) hm hZ ⟨by omega, hlc⟩ h2) (by decide)
  subst hvc1
  rw [hAc1] at hFc1
  refine E_VT (q := 5) (v := none) rfl rfl rfl hm (Nat.le_of_ble_eq_true rfl) (fun _ _ _ => rfl) (hFc1) (fun _ _ => rfl) (fun _ _ => rfl) ?_
  refine E_Ld (q := 6) rfl rfl (fun _ _ => rfl) ?_
  refine E_Ld (q := 7) rfl rfl (fun _ _ => rfl) ?_
  refine E_Ld (q := 8) rfl rfl (fun _ _ => rfl) ?_
  obtain ⟨vp, Ap, ⟨hvp, hAp⟩, hFp⟩ := nf_Fup (d' := 24) (fc_port0 (xs := xs) (A := A) (l := l) hm hZ hl) (by decide)
  subst hvp
  rw [hAp] at hFp
  refine E_VT (q := 11) (v := some (ni_aP (48 + 17 * l + 1))) rfl rfl rfl hm (Nat.le_of_ble_eq_true rfl) (fun _ _ _ => rfl) (hFp) (fun _ _ => rfl) (fun _ _ => rfl) ?_
  refine E_GetI (q := 14) (e := A (48 + 17 * l + 1) 11) rfl (ni_o3_1 (ni_liS l hl).1 (ni_liS l hl).2).1 (ni_o3_1 (ni_liS l hl).1 (ni_liS l hl).2).2.1 rfl rfl (fun _ _ => rfl) ?_
  refine E_R rfl (fun _ _ => rfl) (fun _ _ => rfl) ?_
  exact ⟨rfl, rfl⟩
theorem fc_deficit0 (hm : St m = some (9, [.ref n0, .ref n1])) (hZ : ∀ ad, Z ad → ad 0 = n0) {l : Nat} (hl : l < 14) (hlc : (l : Int) < A 0 2) (h2 : A 0 2 ≤ 14) {c : Nat} (hc : c < 4) : nf_F xs St Z 25 13 [ni_aL (m), ni_aI ((l : Int)), ni_aI (0), ni_aI ((c : Int))] A (fun v A' => v = some (ni_aI (A (48 + 17 * l + 1 + 6) c)) ∧ A' = A) := by
  refine nf_Fin (ls := [ni_aL (m), ni_aI ((l : Int)), ni_aI (0), ni_aI ((c : Int))]) (fun _ => Nat.le_of_ble_eq_true rfl) (fun _ _ => rfl) ?_
  refine E_Ld (q := 1) rfl rfl (fun _ _ => rfl) ?_
  refine E_Ld (q := 2) rfl rfl (fun _ _ => rfl) ?_
  obtain ⟨vc1, Ac1, ⟨hvc1, hAc1⟩, hFc1⟩ := nf_Fup (d' := 24) (fc_link (xs := xs) (A := A) (i := (l : Int)) hm hZ ⟨by omega, hlc⟩ h2) (by decide)
  subst hvc1
  rw [hAc1] at hFc1
  refine E_VT (q := 5) (v := none) rfl rfl rfl hm (Nat.le_of_ble_eq_true rfl) (fun _ _ _ => rfl) (hFc1) (fun _ _ => rfl) (fun _ _ => rfl) ?_
  refine E_Ld (q := 6) rfl rfl (fun _ _ => rfl) ?_
  refine E_push (q := 7) (c := 4) (z := 4) rfl rfl ?_
  refine E_C (q := 10) (w := none) rfl (Nat.le_of_ble_eq_true rfl) rfl rfl (Nat.le_of_ble_eq_true rfl) (ni_PuUp (mt_chkI (i := (c : Int)) (n := 4) (by omega) (by omega)) (by decide)) (fun _ _ => rfl) (fun _ _ => rfl) ?_
  refine E_Ld (q := 11) rfl rfl (fun _ _ => rfl) ?_
  refine E_Ld (q := 12) rfl rfl (fun _ _ => rfl) ?_
  refine E_Ld (q := 13) rfl rfl (fun _ _ => rfl) ?_
  obtain ⟨vp, Ap, ⟨hvp, hAp⟩, hFp⟩ := nf_Fup (d' := 24) (fc_port0 (xs := xs) (A := A) (l := l) hm hZ hl) (by decide)
  subst hvp
  rw [hAp] at hFp
  refine E_VT (q := 16) (v := some (ni_aP (48 + 17 * l + 1))) rfl rfl rfl hm (Nat.le_of_ble_eq_true rfl) (fun _ _ _ => rfl) (hFp) (fun _ _ => rfl) (fun _ _ => rfl) ?_
  refine E_Get (q := 19) (v := ni_aP (48 + 17 * l + 1 + 6)) rfl (ni_o3_1 (ni_liS l hl).1 (ni_liS l hl).2).1 (ni_o3_1 (ni_liS l hl).1 (ni_liS l hl).2).2.1 rfl rfl (fun _ _ => rfl) ?_
  refine E_Ld (q := 20) rfl rfl (fun _ _ => rfl) ?_
  refine E_Ald (q := 21) (j := c) (e := A (48 + 17 * l + 1 + 6) (c)) rfl (ni_o5_6 (ni_o3_1 (ni_liS l hl).1 (ni_liS l hl).2).1 (ni_o3_1 (ni_liS l hl).1 (ni_liS l hl).2).2.1).1 (ni_o5_6 (ni_o3_1 (ni_liS l hl).1 (ni_liS l hl).2).1 (ni_o3_1 (ni_liS l hl).1 (ni_liS l hl).2).2.1).2.1 (ni_o5_6 (ni_o3_1 (ni_liS l hl).1 (ni_liS l hl).2).1 (ni_o3_1 (ni_liS l hl).1 (ni_liS l hl).2).2.1).2.2.1 rfl (by omega) (by decide) (ni_L9 (ni_o5_6 (ni_o3_1 (ni_liS l hl).1 (ni_liS l hl).2).1 (ni_o3_1 (ni_liS l hl).1 (ni_liS l hl).2).2.1).1 (ni_o5_6 (ni_o3_1 (ni_liS l hl).1 (ni_liS l hl).2).1 (ni_o3_1 (ni_liS l hl).1 (ni_liS l hl).2).2.1).2.2.2 (by omega)) (fun _ _ => rfl) ?_
  refine E_R rfl (fun _ _ => rfl) (fun _ _ => rfl) ?_
  exact ⟨rfl, rfl⟩
theorem fc_queued0 (hm : St m = some (9, [.ref n0, .ref n1])) (hZ : ∀ ad, Z ad → ad 0 = n0) {l : Nat} (hl : l < 14) (hlc : (l : Int) < A 0 2) (h2 : A 0 2 ≤ 14) {c : Nat} (hc : c < 4) (hn : 0 ≤ A (48 + 17 * l + 1) 10 ∧ A (48 + 17 * l + 1) 10 ≤ 250) (hq : ∀ i : Nat, (i : Int) < A (48 + 17 * l + 1) 10 → 0 ≤ A (48 + 17 * l + 1 + 7) i ∧ A (48 + 17 * l + 1 + 7) i ≤ 2147483647) : nf_F xs St Z 25 34 [ni_aL (m), ni_aI ((l : Int)), ni_aI (0), ni_aI ((c : Int))] A (fun v A' => v = some (ni_aI (ni_cn A (48 + 17 * l + 1) c (A (48 + 17 * l + 1) 10).toNat)) ∧ A' = A) := by
  refine nf_Fin (ls := [ni_aL (m), ni_aI ((l : Int)), ni_aI (0), ni_aI ((c : Int))]) (fun _ => Nat.le_of_ble_eq_true rfl) (fun _ _ => rfl) ?_
  refine E_Ld (q := 1) rfl rfl (fun _ _ => rfl) ?_
  refine E_Ld (q := 2) rfl rfl (fun _ _ => rfl) ?_
  obtain ⟨vc1, Ac1, ⟨hvc1, hAc1⟩, hFc1⟩ := nf_Fup (d' := 24) (fc_link (xs := xs) (A := A) (i := (l : Int)) hm hZ ⟨by omega, hlc⟩ h2) (by decide)
  subst hvc1
  rw [hAc1] at hFc1
  refine E_VT (q := 5) (v := none) rfl rfl rfl hm (Nat.le_of_ble_eq_true rfl) (fun _ _ _ => rfl) (hFc1) (fun _ _ => rfl) (fun _ _ => rfl) ?_
  refine E_Ld (q := 6) rfl rfl (fun _ _ => rfl) ?_
  refine E_push (q := 7) (c := 4) (z := 4) rfl rfl ?_
  refine E_C (q := 10) (w := none) rfl (Nat.le_of_ble_eq_true rfl) rfl rfl (Nat.le_of_ble_eq_true rfl) (ni_PuUp (mt_chkI (i := (c : Int)) (n := 4) (by omega) (by omega)) (by decide)) (fun _ _ => rfl) (fun _ _ => rfl) ?_
  refine E_Ld (q := 11) rfl rfl (fun _ _ => rfl) ?_
  refine E_Ld (q := 12) rfl rfl (fun _ _ => rfl) ?_
  refine E_Ld (q := 13) rfl rfl (fun _ _ => rfl) ?_
  obtain ⟨vp, Ap, ⟨hvp, hAp⟩, hFp⟩ := nf_Fup (d' := 24) (fc_port0 (xs := xs) (A := A) (l := l) hm hZ hl) (by decide)
  subst hvp
  rw [hAp] at hFp
  refine E_VT (q := 16) (v := some (ni_aP (48 + 17 * l + 1))) rfl rfl rfl hm (Nat.le_of_ble_eq_true rfl) (fun _ _ _ => rfl) (hFp) (fun _ _ => rfl) (fun _ _ => rfl) ?_
  refine E_Ld (q := 17) rfl rfl (fun _ _ => rfl) ?_
  refine E_V (q := 20) (w := some (ni_aI (ni_cn A (48 + 17 * l + 1) c (A (48 + 17 * l + 1) 10).toNat))) rfl rfl rfl (ni_o3_1 (ni_liS l hl).1 (ni_liS l hl).2).1 (ni_o3_1 (ni_liS l hl).1 (ni_liS l hl).2).2.1 rfl (Nat.le_of_ble_eq_true rfl) (fun _ _ _ => rfl) (ni_Dup (mt_count (p := 48 + 17 * l + 1) (c := (c : Int)) (by omega) hn hq (ni_o3_1 (ni_liS l hl).1 (ni_liS l hl).2).1 (ni_o3_1 (ni_liS l hl).1 (ni_liS l hl).2).2.1) (by decide)) (fun _ _ => rfl) (fun _ _ => rfl) ?_
  refine E_R rfl (fun _ _ => rfl) (fun _ _ => rfl) ?_
  exact ⟨rfl, rfl⟩
theorem fc_port1 (hm : St m = some (9, [.ref n0, .ref n1])) (hZ : ∀ ad, Z ad → ad 0 = n0) {l : Nat} (hl : l < 14) : nf_F xs St Z 3 33 [ni_aL (m), ni_aI ((l : Int)), ni_aI (1)] A (fun v A' => v = some (ni_aP (48 + 17 * l + 9)) ∧ A' = A) := by
  refine nf_Fin (ls := [ni_aL (m), ni_aI ((l : Int)), ni_aI (1)]) (fun _ => Nat.le_of_ble_eq_true rfl) (fun _ _ => rfl) ?_
  refine E_Ld (q := 1) rfl rfl (fun _ _ => rfl) ?_
  refine E_If false rfl (zf_eq_f ⟨by omega, by omega⟩ (by omega)) ?_
  refine E_Ld (q := 5) rfl rfl (fun _ _ => rfl) ?_
  refine E_GetT (q := 8) rfl hm hZ ?_
  refine E_Get (q := 11) (v := ni_aP 2) rfl (show ni_us 0 = true by decide +kernel) (show ni_kd 0 = 4 by decide +kernel) rfl rfl (fun _ _ => rfl) ?_
  refine E_Ld (q := 12) rfl rfl (fun _ _ => rfl) ?_
  refine E_Qld (q := 13) (j := l) (v := ni_aP (48 + 17 * l)) rfl (show ni_us 2 = true by decide +kernel) (show ni_kd 2 = 102 by decide +kernel) (show ni_ln 2 = 14 by decide +kernel) ⟨by decide, rfl⟩ rfl (by omega) (by decide) (ni_L9 (show ni_us 2 = true by decide +kernel) (by decide +kernel) (by omega)) (fun _ _ => rfl) (fun _ _ => rfl) ?_
  refine E_Get (q := 16) (v := ni_aP (48 + 17 * l + 9)) rfl (ni_liS l hl).1 (ni_liS l hl).2 rfl rfl (fun _ _ => rfl) ?_
  refine E_Go (q := 31) rfl ?_
  refine E_R rfl (fun _ _ => rfl) (fun _ _ => rfl) ?_
  exact ⟨rfl, rfl⟩
theorem fc_sending1 (hm : St m = some (9, [.ref n0, .ref n1])) (hZ : ∀ ad, Z ad → ad 0 = n0) {l : Nat} (hl : l < 14) (hlc : (l : Int) < A 0 2) (h2 : A 0 2 ≤ 14) : nf_F xs St Z 25 38 [ni_aL (m), ni_aI ((l : Int)), ni_aI (1)] A (fun v A' => v = some (ni_aI (A (48 + 17 * l + 9) 13)) ∧ A' = A) := by
  refine nf_Fin (ls := [ni_aL (m), ni_aI ((l : Int)), ni_aI (1)]) (fun _ => Nat.le_of_ble_eq_true rfl) (fun _ _ => rfl) ?_
  refine E_Ld (q := 1) rfl rfl (fun _ _ => rfl) ?_
  refine E_Ld (q := 2) rfl rfl (fun _ _ => rfl) ?_
  obtain ⟨vc1, Ac1, ⟨hvc1, hAc1⟩, hFc1⟩ := nf_Fup (d' := 24) (fc_link (xs := xs) (A := A) (i := (l : Int)) hm hZ ⟨by omega, hlc⟩ h2) (by decide)
  subst hvc1
  rw [hAc1] at hFc1
  refine E_VT (q := 5) (v := none) rfl rfl rfl hm (Nat.le_of_ble_eq_true rfl) (fun _ _ _ => rfl) (hFc1) (fun _ _ => rfl) (fun _ _ => rfl) ?_
  refine E_Ld (q := 6) rfl rfl (fun _ _ => rfl) ?_
  refine E_Ld (q := 7) rfl rfl (fun _ _ => rfl) ?_
  refine E_Ld (q := 8) rfl rfl (fun _ _ => rfl) ?_
  obtain ⟨vp, Ap, ⟨hvp, hAp⟩, hFp⟩ := nf_Fup (d' := 24) (fc_port1 (xs := xs) (A := A) (l := l) hm hZ hl) (by decide)
  subst hvp
  rw [hAp] at hFp
  refine E_VT (q := 11) (v := some (ni_aP (48 + 17 * l + 9))) rfl rfl rfl hm (Nat.le_of_ble_eq_true rfl) (fun _ _ _ => rfl) (hFp) (fun _ _ => rfl) (fun _ _ => rfl) ?_
  refine E_GetI (q := 14) (e := A (48 + 17 * l + 9) 13) rfl (ni_o3_9 (ni_liS l hl).1 (ni_liS l hl).2).1 (ni_o3_9 (ni_liS l hl).1 (ni_liS l hl).2).2.1 rfl rfl (fun _ _ => rfl) ?_
  refine E_R rfl (fun _ _ => rfl) (fun _ _ => rfl) ?_
  exact ⟨rfl, rfl⟩
theorem fc_waiting1 (hm : St m = some (9, [.ref n0, .ref n1])) (hZ : ∀ ad, Z ad → ad 0 = n0) {l : Nat} (hl : l < 14) (hlc : (l : Int) < A 0 2) (h2 : A 0 2 ≤ 14) : nf_F xs St Z 25 50 [ni_aL (m), ni_aI ((l : Int)), ni_aI (1)] A (fun v A' => v = some (ni_aI (A (48 + 17 * l + 9) 11)) ∧ A' = A) := by
  refine nf_Fin (ls := [ni_aL (m), ni_aI ((l : Int)), ni_aI (1)]) (fun _ => Nat.le_of_ble_eq_true rfl) (fun _ _ => rfl) ?_
  refine E_Ld (q := 1) rfl rfl (fun _ _ => rfl) ?_
  refine E_Ld (q := 2) rfl rfl (fun _ _ => rfl) ?_
  obtain ⟨vc1, Ac1, ⟨hvc1, hAc1⟩, hFc1⟩ := nf_Fup (d' := 24) (fc_link (xs := xs) (A := A) (i := (l : Int)) hm hZ ⟨by omega, hlc⟩ h2) (by decide)
  subst hvc1
  rw [hAc1] at hFc1
  refine E_VT (q := 5) (v := none) rfl rfl rfl hm (Nat.le_of_ble_eq_true rfl) (fun _ _ _ => rfl) (hFc1) (fun _ _ => rfl) (fun _ _ => rfl) ?_
  refine E_Ld (q := 6) rfl rfl (fun _ _ => rfl) ?_
  refine E_Ld (q := 7) rfl rfl (fun _ _ => rfl) ?_
  refine E_Ld (q := 8) rfl rfl (fun _ _ => rfl) ?_
  obtain ⟨vp, Ap, ⟨hvp, hAp⟩, hFp⟩ := nf_Fup (d' := 24) (fc_port1 (xs := xs) (A := A) (l := l) hm hZ hl) (by decide)
  subst hvp
  rw [hAp] at hFp
  refine E_VT (q := 11) (v := some (ni_aP (48 + 17 * l + 9))) rfl rfl rfl hm (Nat.le_of_ble_eq_true rfl) (fun _ _ _ => rfl) (hFp) (fun _ _ => rfl) (fun _ _ => rfl) ?_
  refine E_GetI (q := 14) (e := A (48 + 17 * l + 9) 11) rfl (ni_o3_9 (ni_liS l hl).1 (ni_liS l hl).2).1 (ni_o3_9 (ni_liS l hl).1 (ni_liS l hl).2).2.1 rfl rfl (fun _ _ => rfl) ?_
  refine E_R rfl (fun _ _ => rfl) (fun _ _ => rfl) ?_
  exact ⟨rfl, rfl⟩
theorem fc_deficit1 (hm : St m = some (9, [.ref n0, .ref n1])) (hZ : ∀ ad, Z ad → ad 0 = n0) {l : Nat} (hl : l < 14) (hlc : (l : Int) < A 0 2) (h2 : A 0 2 ≤ 14) {c : Nat} (hc : c < 4) : nf_F xs St Z 25 13 [ni_aL (m), ni_aI ((l : Int)), ni_aI (1), ni_aI ((c : Int))] A (fun v A' => v = some (ni_aI (A (48 + 17 * l + 9 + 6) c)) ∧ A' = A) := by
  refine nf_Fin (ls := [ni_aL (m), ni_aI ((l : Int)), ni_aI (1), ni_aI ((c : Int))]) (fun _ => Nat.le_of_ble_eq_true rfl) (fun _ _ => rfl) ?_
  refine E_Ld (q := 1) rfl rfl (fun _ _ => rfl) ?_
  refine E_Ld (q := 2) rfl rfl (fun _ _ => rfl) ?_
  obtain ⟨vc1, Ac1, ⟨hvc1, hAc1⟩, hFc1⟩ := nf_Fup (d' := 24) (fc_link (xs := xs) (A := A) (i := (l : Int)) hm hZ ⟨by omega, hlc⟩ h2) (by decide)
  subst hvc1
  rw [hAc1] at hFc1
  refine E_VT (q := 5) (v := none) rfl rfl rfl hm (Nat.le_of_ble_eq_true rfl) (fun _ _ _ => rfl) (hFc1) (fun _ _ => rfl) (fun _ _ => rfl) ?_
  refine E_Ld (q := 6) rfl rfl (fun _ _ => rfl) ?_
  refine E_push (q := 7) (c := 4) (z := 4) rfl rfl ?_
  refine E_C (q := 10) (w := none) rfl (Nat.le_of_ble_eq_true rfl) rfl rfl (Nat.le_of_ble_eq_true rfl) (ni_PuUp (mt_chkI (i := (c : Int)) (n := 4) (by omega) (by omega)) (by decide)) (fun _ _ => rfl) (fun _ _ => rfl) ?_
  refine E_Ld (q := 11) rfl rfl (fun _ _ => rfl) ?_
  refine E_Ld (q := 12) rfl rfl (fun _ _ => rfl) ?_
  refine E_Ld (q := 13) rfl rfl (fun _ _ => rfl) ?_
  obtain ⟨vp, Ap, ⟨hvp, hAp⟩, hFp⟩ := nf_Fup (d' := 24) (fc_port1 (xs := xs) (A := A) (l := l) hm hZ hl) (by decide)
  subst hvp
  rw [hAp] at hFp
  refine E_VT (q := 16) (v := some (ni_aP (48 + 17 * l + 9))) rfl rfl rfl hm (Nat.le_of_ble_eq_true rfl) (fun _ _ _ => rfl) (hFp) (fun _ _ => rfl) (fun _ _ => rfl) ?_
  refine E_Get (q := 19) (v := ni_aP (48 + 17 * l + 9 + 6)) rfl (ni_o3_9 (ni_liS l hl).1 (ni_liS l hl).2).1 (ni_o3_9 (ni_liS l hl).1 (ni_liS l hl).2).2.1 rfl rfl (fun _ _ => rfl) ?_
  refine E_Ld (q := 20) rfl rfl (fun _ _ => rfl) ?_
  refine E_Ald (q := 21) (j := c) (e := A (48 + 17 * l + 9 + 6) (c)) rfl (ni_o5_6 (ni_o3_9 (ni_liS l hl).1 (ni_liS l hl).2).1 (ni_o3_9 (ni_liS l hl).1 (ni_liS l hl).2).2.1).1 (ni_o5_6 (ni_o3_9 (ni_liS l hl).1 (ni_liS l hl).2).1 (ni_o3_9 (ni_liS l hl).1 (ni_liS l hl).2).2.1).2.1 (ni_o5_6 (ni_o3_9 (ni_liS l hl).1 (ni_liS l hl).2).1 (ni_o3_9 (ni_liS l hl).1 (ni_liS l hl).2).2.1).2.2.1 rfl (by omega) (by decide) (ni_L9 (ni_o5_6 (ni_o3_9 (ni_liS l hl).1 (ni_liS l hl).2).1 (ni_o3_9 (ni_liS l hl).1 (ni_liS l hl).2).2.1).1 (ni_o5_6 (ni_o3_9 (ni_liS l hl).1 (ni_liS l hl).2).1 (ni_o3_9 (ni_liS l hl).1 (ni_liS l hl).2).2.1).2.2.2 (by omega)) (fun _ _ => rfl) ?_
  refine E_R rfl (fun _ _ => rfl) (fun _ _ => rfl) ?_
  exact ⟨rfl, rfl⟩
theorem fc_queued1 (hm : St m = some (9, [.ref n0, .ref n1])) (hZ : ∀ ad, Z ad → ad 0 = n0) {l : Nat} (hl : l < 14) (hlc : (l : Int) < A 0 2) (h2 : A 0 2 ≤ 14) {c : Nat} (hc : c < 4) (hn : 0 ≤ A (48 + 17 * l + 9) 10 ∧ A (48 + 17 * l + 9) 10 ≤ 250) (hq : ∀ i : Nat, (i : Int) < A (48 + 17 * l + 9) 10 → 0 ≤ A (48 + 17 * l + 9 + 7) i ∧ A (48 + 17 * l + 9 + 7) i ≤ 2147483647) : nf_F xs St Z 25 34 [ni_aL (m), ni_aI ((l : Int)), ni_aI (1), ni_aI ((c : Int))] A (fun v A' => v = some (ni_aI (ni_cn A (48 + 17 * l + 9) c (A (48 + 17 * l + 9) 10).toNat)) ∧ A' = A) := by
  refine nf_Fin (ls := [ni_aL (m), ni_aI ((l : Int)), ni_aI (1), ni_aI ((c : Int))]) (fun _ => Nat.le_of_ble_eq_true rfl) (fun _ _ => rfl) ?_
  refine E_Ld (q := 1) rfl rfl (fun _ _ => rfl) ?_
  refine E_Ld (q := 2) rfl rfl (fun _ _ => rfl) ?_
  obtain ⟨vc1, Ac1, ⟨hvc1, hAc1⟩, hFc1⟩ := nf_Fup (d' := 24) (fc_link (xs := xs) (A := A) (i := (l : Int)) hm hZ ⟨by omega, hlc⟩ h2) (by decide)
  subst hvc1
  rw [hAc1] at hFc1
  refine E_VT (q := 5) (v := none) rfl rfl rfl hm (Nat.le_of_ble_eq_true rfl) (fun _ _ _ => rfl) (hFc1) (fun _ _ => rfl) (fun _ _ => rfl) ?_
  refine E_Ld (q := 6) rfl rfl (fun _ _ => rfl) ?_
  refine E_push (q := 7) (c := 4) (z := 4) rfl rfl ?_
  refine E_C (q := 10) (w := none) rfl (Nat.le_of_ble_eq_true rfl) rfl rfl (Nat.le_of_ble_eq_true rfl) (ni_PuUp (mt_chkI (i := (c : Int)) (n := 4) (by omega) (by omega)) (by decide)) (fun _ _ => rfl) (fun _ _ => rfl) ?_
  refine E_Ld (q := 11) rfl rfl (fun _ _ => rfl) ?_
  refine E_Ld (q := 12) rfl rfl (fun _ _ => rfl) ?_
  refine E_Ld (q := 13) rfl rfl (fun _ _ => rfl) ?_
  obtain ⟨vp, Ap, ⟨hvp, hAp⟩, hFp⟩ := nf_Fup (d' := 24) (fc_port1 (xs := xs) (A := A) (l := l) hm hZ hl) (by decide)
  subst hvp
  rw [hAp] at hFp
  refine E_VT (q := 16) (v := some (ni_aP (48 + 17 * l + 9))) rfl rfl rfl hm (Nat.le_of_ble_eq_true rfl) (fun _ _ _ => rfl) (hFp) (fun _ _ => rfl) (fun _ _ => rfl) ?_
  refine E_Ld (q := 17) rfl rfl (fun _ _ => rfl) ?_
  refine E_V (q := 20) (w := some (ni_aI (ni_cn A (48 + 17 * l + 9) c (A (48 + 17 * l + 9) 10).toNat))) rfl rfl rfl (ni_o3_9 (ni_liS l hl).1 (ni_liS l hl).2).1 (ni_o3_9 (ni_liS l hl).1 (ni_liS l hl).2).2.1 rfl (Nat.le_of_ble_eq_true rfl) (fun _ _ _ => rfl) (ni_Dup (mt_count (p := 48 + 17 * l + 9) (c := (c : Int)) (by omega) hn hq (ni_o3_9 (ni_liS l hl).1 (ni_liS l hl).2).1 (ni_o3_9 (ni_liS l hl).1 (ni_liS l hl).2).2.1) (by decide)) (fun _ _ => rfl) (fun _ _ => rfl) ?_
  refine E_R rfl (fun _ _ => rfl) (fun _ _ => rfl) ?_
  exact ⟨rfl, rfl⟩
theorem fc_route (hm : St m = some (9, [.ref n0, .ref n1])) (hZ : ∀ ad, Z ad → ad 0 = n0) {f : Nat} (hf : f < 12) (hfc : (f : Int) < A 0 3) (h3 : A 0 3 ≤ 12) (hC : nq_C A) (hLE : nq_LE2 A) : nf_F xs St Z 25 35 [ni_aL (m), ni_aI ((f : Int))] A (fun v A' => ∃ x : Int, v = some (ni_aI x) ∧ A' = A ∧ x ≤ A 0 1) := by
  refine nf_Fin (ls := [ni_aL (m), ni_aI ((f : Int))]) (fun _ => Nat.le_of_ble_eq_true rfl) (fun _ _ => rfl) ?_
  refine E_Ld (q := 1) rfl rfl (fun _ _ => rfl) ?_
  refine E_Ld (q := 2) rfl rfl (fun _ _ => rfl) ?_
  obtain ⟨vc1, Ac1, ⟨hvc1, hAc1⟩, hFc1⟩ := nf_Fup (d' := 24) (fc_flow (xs := xs) (A := A) (i := (f : Int)) hm hZ ⟨by omega, hfc⟩ h3) (by decide)
  subst hvc1
  rw [hAc1] at hFc1
  refine E_VT (q := 5) (v := none) rfl rfl rfl hm (Nat.le_of_ble_eq_true rfl) (fun _ _ _ => rfl) (hFc1) (fun _ _ => rfl) (fun _ _ => rfl) ?_
  refine E_Ld (q := 6) rfl rfl (fun _ _ => rfl) ?_
  refine E_GetT (q := 9) rfl hm hZ ?_
  refine E_Ld (q := 10) rfl rfl (fun _ _ => rfl) ?_
  obtain ⟨vf, Af, ⟨x, hvf, hAf, hx⟩, hDf⟩ := mt_follow (xs := xs) (St := St) hf hfc hC hLE
  subst hvf
  rw [hAf] at hDf
  refine E_V (q := 13) (w := some (ni_aI (x))) rfl rfl rfl (show ni_us 0 = true by decide +kernel) (show ni_kd 0 = 4 by decide +kernel) rfl (Nat.le_of_ble_eq_true rfl) (fun _ _ _ => rfl) (ni_Dup hDf (by decide)) (fun _ _ => rfl) (fun _ _ => rfl) ?_
  refine E_R rfl (fun _ _ => rfl) (fun _ _ => rfl) ?_
  exact ⟨x, rfl, rfl, hx⟩
theorem fc_settled (hm : St m = some (9, [.ref n0, .ref n1])) (hZ : ∀ ad, Z ad → ad 0 = n0) (h2 : 0 ≤ A 0 2 ∧ A 0 2 ≤ 14) (hw : 0 ≤ ni_lw A (A 0 2).toNat ∧ ni_lw A (A 0 2).toNat ≤ 1000000) : nf_F xs St Z 25 25 [ni_aL (m)] A (fun v A' => A' = A ∧ ((v = some (ni_aI 1) ∧ ni_lw A (A 0 2).toNat = 0) ∨ (v = some (ni_aI 0) ∧ ni_lw A (A 0 2).toNat ≠ 0))) := by
  refine nf_Fin (ls := [ni_aL (m)]) (fun _ => Nat.le_of_ble_eq_true rfl) (fun _ _ => rfl) ?_
  refine E_Ld (q := 1) rfl rfl (fun _ _ => rfl) ?_
  refine E_GetT (q := 4) rfl hm hZ ?_
  refine E_V (q := 7) (w := some (ni_aI (ni_lw A (A 0 2).toNat))) rfl rfl rfl (show ni_us 0 = true by decide +kernel) (show ni_kd 0 = 4 by decide +kernel) rfl (Nat.le_of_ble_eq_true rfl) (fun _ _ _ => rfl) (ni_Dup (mt_way h2) (by decide)) (fun _ _ => rfl) (fun _ _ => rfl) ?_
  by_cases g7 : ¬ (ni_lw A (A 0 2).toNat) = 0
  · refine E_If true rfl (zf_ne_t ⟨by omega, by omega⟩ g7) ?_
    refine E_push (q := 15) (c := 0) (z := 0) rfl rfl ?_
    refine E_R rfl (fun _ _ => rfl) (fun _ _ => rfl) ?_
    exact ⟨rfl, Or.inr ⟨rfl, by omega⟩⟩
  · refine E_If false rfl (zf_ne_f ⟨by omega, by omega⟩ g7) ?_
    refine E_push (q := 11) (c := 1) (z := 1) rfl rfl ?_
    refine E_Go (q := 15) rfl ?_
    refine E_R rfl (fun _ _ => rfl) (fun _ _ => rfl) ?_
    exact ⟨rfl, Or.inl ⟨rfl, by omega⟩⟩
end NFC
