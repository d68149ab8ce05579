/-! WHAT BECOMES OF A PACKET -/
section MDL
variable {xs : List Int32} {St : Nat → Option ni_C} {A : Nat → Nat → Int}
/-- a packet waits, as the last one -/
def ni_putQ (B : Nat → Nat → Int) (p : Nat) (x q b : Int) : Nat → Nat → Int := ni_u2 (ni_u2 (ni_u2 B (p + 7) q.toNat x) p 10 (q + 1)) p 11 (b + x / 4096 % 512)
/-- what a port may do with a packet that comes -/
def ni_acc (A : Nat → Nat → Int) (p : Nat) (x v : Int) (A2 : Nat → Nat → Int) : Prop := (v = 4 ∧ A2 = A) ∨ (v = 5 ∧ A2 = ni_u2 A p 4 (A p 4 + 1)) ∨ (v = -1 ∧ A p 10 < 250 ∧ A p 11 + x / 4096 % 512 ≤ A p 2 ∧ ∃ B, (B = A ∨ B = ni_u2 A p 4 (A p 4 + 1)) ∧ A2 = ni_putQ B p x (A p 10) (A p 11))
theorem mt_accept {p : Nat} {x : Int} (hx : 0 ≤ x ∧ x ≤ 2147483647) (h11 : 0 ≤ A p 11 ∧ A p 11 ≤ 1000000) (h2 : 0 ≤ A p 2 ∧ A p 2 ≤ 1000000) (h10 : 0 ≤ A p 10 ∧ A p 10 ≤ 250) (h4 : 0 ≤ A p 4 ∧ A p 4 ≤ 1000000) (h3 : A p 3 = 0 ∨ A p 3 = 1) (hs : ni_us p = true) (hk : ni_kd p = 5) : ∃ (v : Int) (A2 : Nat → Nat → Int), ni_Dc xs St 2 106 (fun ad => [.ref (ad p), ni_z x]) A (fun _ => some (ni_z v)) A2 ∧ ni_acc A p x v A2 := by
  by_cases g1 : A p 2 < A p 11 + x / 4096 % 512
  · exact ⟨4, A, mt_acc0 hx h11 h2 h10 h4 g1 hs hk, Or.inl ⟨rfl, rfl⟩⟩
  · by_cases g2 : 250 ≤ A p 10
    · exact ⟨4, A, mt_acc1 hx h11 h2 h10 h4 (by omega) g2 hs hk, Or.inl ⟨rfl, rfl⟩⟩
    · rcases h3 with h3 | h3
      · exact ⟨-1, _, mt_acc2 hx h11 h2 h10 h4 (by omega) (by omega) h3 hs hk, Or.inr (Or.inr ⟨rfl, by omega, by omega, A, Or.inl rfl, rfl⟩)⟩
      · by_cases g3 : 2 * A p 11 < A p 2
        · exact ⟨-1, _, mt_acc3 hx h11 h2 h10 h4 (by omega) (by omega) h3 g3 hs hk, Or.inr (Or.inr ⟨rfl, by omega, by omega, A, Or.inl rfl, rfl⟩)⟩
        · by_cases g4 : (A p 4 + 1) % 3 = 0
          · exact ⟨5, _, mt_acc4 hx h11 h2 h10 h4 (by omega) (by omega) h3 (by omega) g4 hs hk, Or.inr (Or.inl ⟨rfl, rfl⟩)⟩
          · exact ⟨-1, _, mt_acc5 hx h11 h2 h10 h4 (by omega) (by omega) h3 (by omega) g4 hs hk, Or.inr (Or.inr ⟨rfl, by omega, by omega, _, Or.inr rfl, rfl⟩)⟩
theorem mt_so1 {l : Nat} {r x : Int} (hx : 0 ≤ x ∧ x ≤ 2147483647) (hs : ni_us l = true) (hk : ni_kd l = 3) (h : x / 2097152 ≤ 1) : ni_Dc xs St 3 91 (fun ad => [.ref (ad 0), ni_z r, ni_z x, .ref (ad l)]) A (fun _ => some (ni_z (2))) A := by
  have h374 := (ni_usT hs).1
  refine ni_Dw (fun _ => Nat.le_of_ble_eq_true rfl) (fun _ => rfl) ?_
  intro M0 ad rw cp hR
  have h0 : ni_Sx St M0 ad rw cp M0 rw cp A (ni_live A) := ⟨hR, ni_KpR⟩
  have c0 := ni_clR A
  refine wp_Ld rfl rfl rfl ?_
  refine ws_P rfl (Nat.le_of_ble_eq_true rfl) rfl rfl (Nat.le_of_ble_eq_true rfl) (ni_PuUp (mt_lifeOf hx) (by decide)) ?_
  refine wp_P (g := ni_gPush (.int (1)) 5) rfl (wp_push (z := 1) rfl) ?_
  refine wp_Ic false rfl (zc_gt_f ⟨by omega, by omega⟩ ⟨by omega, by omega⟩ (by omega)) ?_
  refine wp_P (g := ni_gPush (.int (2)) 9) rfl (wp_push (z := 2) rfl) ?_
  exact ws_R (v := fun _ => some (ni_z (2))) rfl rfl h0 c0 rfl
theorem mt_so2 {l : Nat} {r x : Int} (hx : 0 ≤ x ∧ x ≤ 2147483647) (hs : ni_us l = true) (hk : ni_kd l = 3) (h : 1 < x / 2097152) (h5 : A l 5 = 0) : ni_Dc xs St 3 91 (fun ad => [.ref (ad 0), ni_z r, ni_z x, .ref (ad l)]) A (fun _ => some (ni_z (3))) A := by
  have h374 := (ni_usT hs).1
  refine ni_Dw (fun _ => Nat.le_of_ble_eq_true rfl) (fun _ => rfl) ?_
  intro M0 ad rw cp hR
  have h0 : ni_Sx St M0 ad rw cp M0 rw cp A (ni_live A) := ⟨hR, ni_KpR⟩
  have c0 := ni_clR A
  refine wp_Ld rfl rfl rfl ?_
  refine ws_P rfl (Nat.le_of_ble_eq_true rfl) rfl rfl (Nat.le_of_ble_eq_true rfl) (ni_PuUp (mt_lifeOf hx) (by decide)) ?_
  refine wp_P (g := ni_gPush (.int (1)) 5) rfl (wp_push (z := 1) rfl) ?_
  refine wp_Ic true rfl (zc_gt_t ⟨by omega, by omega⟩ ⟨by omega, by omega⟩ (by omega)) ?_
  refine wp_Ld rfl rfl rfl ?_
  refine ws_Get (v := ni_z (A (l) 5)) rfl h0 hs hk rfl rfl rfl ?_
  refine wp_If true rfl (zf_eq_t ⟨by omega, by omega⟩ (by omega)) ?_
  refine wp_P (g := ni_gPush (.int (3)) 33) rfl (wp_push (z := 3) rfl) ?_
  exact ws_R (v := fun _ => some (ni_z (3))) rfl rfl h0 c0 rfl
theorem mt_so3 {l : Nat} {r x : Int} (hx : 0 ≤ x ∧ x ≤ 2147483647) (hs : ni_us l = true) (hk : ni_kd l = 3) (h : 1 < x / 2097152) (h5 : A l 5 = 1) (hr : 0 ≤ r ∧ r ≤ 100) (h0a : 0 ≤ A l 0 ∧ A l 0 ≤ 100) (h1a : 0 ≤ A l 1 ∧ A l 1 ≤ 100) {v : Int} {A2 : Nat → Nat → Int} (hra : r = A l 0) (hacc : ni_Dc xs St 2 106 (fun ad => [.ref (ad (l + 1)), ni_z (x - 2097152)]) A (fun _ => some (ni_z v)) A2) : ni_Dc xs St 3 91 (fun ad => [.ref (ad 0), ni_z r, ni_z x, .ref (ad l)]) A (fun _ => some (ni_z (v))) A2 := by
  have h374 := (ni_usT hs).1
  refine ni_Dw (fun _ => Nat.le_of_ble_eq_true rfl) (fun _ => rfl) ?_
  intro M0 ad rw cp hR
  have h0 : ni_Sx St M0 ad rw cp M0 rw cp A (ni_live A) := ⟨hR, ni_KpR⟩
  have c0 := ni_clR A
  refine wp_Ld rfl rfl rfl ?_
  refine ws_P rfl (Nat.le_of_ble_eq_true rfl) rfl rfl (Nat.le_of_ble_eq_true rfl) (ni_PuUp (mt_lifeOf hx) (by decide)) ?_
  refine wp_P (g := ni_gPush (.int (1)) 5) rfl (wp_push (z := 1) rfl) ?_
  refine wp_Ic true rfl (zc_gt_t ⟨by omega, by omega⟩ ⟨by omega, by omega⟩ (by omega)) ?_
  refine wp_Ld rfl rfl rfl ?_
  refine ws_Get (v := ni_z (A (l) 5)) rfl h0 hs hk rfl rfl rfl ?_
  refine wp_If false rfl (zf_eq_f ⟨by omega, by omega⟩ (by omega)) ?_
  refine wp_Ld rfl rfl rfl ?_
  refine wp_Ld rfl rfl rfl ?_
  refine ws_V rfl rfl rfl h0 c0 hs hk rfl (Nat.le_of_ble_eq_true rfl) (ni_Dup (mt_portA hr h0a h1a hra hs hk) (by decide)) rfl ?_
  intro M1 rw1 cp1 h1
  have c1 := ni_clR (A)
  clear h0 c0
  refine wp_Ld rfl rfl rfl ?_
  refine ws_P rfl (Nat.le_of_ble_eq_true rfl) rfl rfl (Nat.le_of_ble_eq_true rfl) (ni_PuUp mt_older (by decide)) ?_
  refine ws_V rfl rfl rfl h1 c1 (ni_o3_1 hs hk).1 (ni_o3_1 hs hk).2.1 rfl (Nat.le_of_ble_eq_true rfl) (hacc) rfl ?_
  intro M2 rw2 cp2 h2
  have c2 := ni_clR (A2)
  clear h1 c1
  refine wp_P (g := ni_gGo 33) rfl rfl ?_
  exact ws_R (v := fun _ => some (ni_z (v))) rfl rfl h2 c2 rfl
theorem mt_so4 {l : Nat} {r x : Int} (hx : 0 ≤ x ∧ x ≤ 2147483647) (hs : ni_us l = true) (hk : ni_kd l = 3) (h : 1 < x / 2097152) (h5 : A l 5 = 1) (hr : 0 ≤ r ∧ r ≤ 100) (h0a : 0 ≤ A l 0 ∧ A l 0 ≤ 100) (h1a : 0 ≤ A l 1 ∧ A l 1 ≤ 100) {v : Int} {A2 : Nat → Nat → Int} (hra : ¬ r = A l 0) (hacc : ni_Dc xs St 2 106 (fun ad => [.ref (ad (l + 9)), ni_z (x - 2097152)]) A (fun _ => some (ni_z v)) A2) : ni_Dc xs St 3 91 (fun ad => [.ref (ad 0), ni_z r, ni_z x, .ref (ad l)]) A (fun _ => some (ni_z (v))) A2 := by
  have h374 := (ni_usT hs).1
  refine ni_Dw (fun _ => Nat.le_of_ble_eq_true rfl) (fun _ => rfl) ?_
  intro M0 ad rw cp hR
  have h0 : ni_Sx St M0 ad rw cp M0 rw cp A (ni_live A) := ⟨hR, ni_KpR⟩
  have c0 := ni_clR A
  refine wp_Ld rfl rfl rfl ?_
  refine ws_P rfl (Nat.le_of_ble_eq_true rfl) rfl rfl (Nat.le_of_ble_eq_true rfl) (ni_PuUp (mt_lifeOf hx) (by decide)) ?_
  refine wp_P (g := ni_gPush (.int (1)) 5) rfl (wp_push (z := 1) rfl) ?_
  refine wp_Ic true rfl (zc_gt_t ⟨by omega, by omega⟩ ⟨by omega, by omega⟩ (by omega)) ?_
  refine wp_Ld rfl rfl rfl ?_
  refine ws_Get (v := ni_z (A (l) 5)) rfl h0 hs hk rfl rfl rfl ?_
  refine wp_If false rfl (zf_eq_f ⟨by omega, by omega⟩ (by omega)) ?_
  refine wp_Ld rfl rfl rfl ?_
  refine wp_Ld rfl rfl rfl ?_
  refine ws_V rfl rfl rfl h0 c0 hs hk rfl (Nat.le_of_ble_eq_true rfl) (ni_Dup (mt_portB hr h0a h1a hra hs hk) (by decide)) rfl ?_
  intro M1 rw1 cp1 h1
  have c1 := ni_clR (A)
  clear h0 c0
  refine wp_Ld rfl rfl rfl ?_
  refine ws_P rfl (Nat.le_of_ble_eq_true rfl) rfl rfl (Nat.le_of_ble_eq_true rfl) (ni_PuUp mt_older (by decide)) ?_
  refine ws_V rfl rfl rfl h1 c1 (ni_o3_9 hs hk).1 (ni_o3_9 hs hk).2.1 rfl (Nat.le_of_ble_eq_true rfl) (hacc) rfl ?_
  intro M2 rw2 cp2 h2
  have c2 := ni_clR (A2)
  clear h1 c1
  refine wp_P (g := ni_gGo 33) rfl rfl ?_
  exact ws_R (v := fun _ => some (ni_z (v))) rfl rfl h2 c2 rfl
set_option maxRecDepth 8000 in
theorem mt_dealN {r : Nat} {x : Int} (h : x = -1) : ni_Dc xs St 5 79 (fun ad => [.ref (ad 0), ni_z (r : Int), ni_z x]) A (fun _ => none) A := by
  refine ni_Dw (fun _ => Nat.le_of_ble_eq_true rfl) (fun _ => rfl) ?_
  intro M0 ad rw cp hR
  have h0 : ni_Sx St M0 ad rw cp M0 rw cp A (ni_live A) := ⟨hR, ni_KpR⟩
  have c0 := ni_clR A
  refine wp_Ld rfl rfl rfl ?_
  refine wp_P (g := ni_gPush (.int (-1)) 2) rfl (wp_push (z := -1) rfl) ?_
  refine wp_Ic false rfl (zc_ne_f ⟨by omega, by omega⟩ ⟨by omega, by omega⟩ (by omega)) ?_
  exact ws_Rv (v := fun _ => none) rfl rfl h0 c0 rfl
set_option maxRecDepth 8000 in
theorem mt_dealH {r : Nat} {x : Int} (hx : 0 ≤ x ∧ x ≤ 2147483647) {f : Nat} (hF : x % 16 = f) (hf : f < 12) {v : Int} (htow : ni_Dc xs St 4 83 (fun ad => [.ref (ad 0), ni_z (r : Int), ni_z (f : Int)]) A (fun _ => some (ni_z v)) A) (hv : v = -2) {A2 : Nat → Nat → Int} (hdel : ni_Dc xs St 1 53 (fun ad => [.ref (ad (12 + 3 * f)), ni_z (x / 16 % 64), ni_z (A 0 0)]) A (fun _ => none) A2) : ni_Dc xs St 5 79 (fun ad => [.ref (ad 0), ni_z (r : Int), ni_z x]) A (fun _ => none) A2 := by
  have hfo := mt_flowOf (xs := xs) hx
  rw [hF] at hfo
  have hfo := ni_PuUp hfo (d' := 4) (by decide)
  refine ni_Dw (fun _ => Nat.le_of_ble_eq_true rfl) (fun _ => rfl) ?_
  intro M0 ad rw cp hR
  have h0 : ni_Sx St M0 ad rw cp M0 rw cp A (ni_live A) := ⟨hR, ni_KpR⟩
  have c0 := ni_clR A
  refine wp_Ld rfl rfl rfl ?_
  refine wp_P (g := ni_gPush (.int (-1)) 2) rfl (wp_push (z := -1) rfl) ?_
  refine wp_Ic true rfl (zc_ne_t ⟨by omega, by omega⟩ ⟨by omega, by omega⟩ (by omega)) ?_
  refine wp_Ld rfl rfl rfl ?_
  refine ws_Get (v := .ref (ad 3)) rfl h0 (show ni_us 0 = true by decide +kernel) (show ni_kd 0 = 4 by decide +kernel) rfl rfl rfl ?_
  refine wp_Ld rfl rfl rfl ?_
  refine ws_P rfl (Nat.le_of_ble_eq_true rfl) rfl rfl (Nat.le_of_ble_eq_true rfl) (hfo) ?_
  refine ws_Qld (j := f) (v := .ref (ad (12 + 3 * f))) rfl h0 (show ni_us 3 = true by decide +kernel) (show ni_kd 3 = 103 by decide +kernel) (show ni_ln 3 = 12 by decide +kernel) ⟨by decide, rfl⟩ rfl (by omega) (by decide) (ni_LR h0 (show ni_us 3 = true by decide +kernel) (by decide +kernel) (by omega)) rfl rfl ?_
  refine wp_St (ls' := [.ref (ad (0)), ni_z ((r : Int)), ni_z (x), .ref (ad (12 + 3 * f)), ni_J, ni_J]) rfl rfl rfl ?_
  refine wp_Ld rfl rfl rfl ?_
  refine wp_Ld rfl rfl rfl ?_
  refine wp_Ld rfl rfl rfl ?_
  refine ws_P rfl (Nat.le_of_ble_eq_true rfl) rfl rfl (Nat.le_of_ble_eq_true rfl) (hfo) ?_
  refine ws_V rfl rfl rfl h0 c0 (show ni_us 0 = true by decide +kernel) (show ni_kd 0 = 4 by decide +kernel) rfl (Nat.le_of_ble_eq_true rfl) (htow) rfl ?_
  intro M1 rw1 cp1 h1
  have c1 := ni_clR (A)
  clear h0 c0
  refine wp_St (ls' := [.ref (ad (0)), ni_z ((r : Int)), ni_z (x), .ref (ad (12 + 3 * f)), ni_z (v), ni_J]) rfl rfl rfl ?_
  refine wp_Ld rfl rfl rfl ?_
  refine wp_P (g := ni_gPush (.int (-2)) 31) rfl (wp_push (z := -2) rfl) ?_
  refine wp_Ic false rfl (zc_ne_f ⟨by omega, by omega⟩ ⟨by omega, by omega⟩ (by omega)) ?_
  refine wp_Ld rfl rfl rfl ?_
  refine wp_Ld rfl rfl rfl ?_
  refine ws_P rfl (Nat.le_of_ble_eq_true rfl) rfl rfl (Nat.le_of_ble_eq_true rfl) (ni_PuUp (mt_numberOf hx) (by decide)) ?_
  refine wp_Ld rfl rfl rfl ?_
  refine ws_Get (v := ni_z (A (0) 0)) rfl h1 (show ni_us 0 = true by decide +kernel) (show ni_kd 0 = 4 by decide +kernel) rfl rfl rfl ?_
  refine ws_V rfl rfl rfl h1 c1 (ni_flS f hf).1 (ni_flS f hf).2 rfl (Nat.le_of_ble_eq_true rfl) (ni_Dup hdel (by decide)) rfl ?_
  intro M2 rw2 cp2 h2
  have c2 := ni_clR (A2)
  clear h1 c1
  exact ws_Rv (v := fun _ => none) rfl rfl h2 c2 rfl
set_option maxRecDepth 8000 in
theorem mt_dealE {r : Nat} {x : Int} (hx : 0 ≤ x ∧ x ≤ 2147483647) {f : Nat} (hF : x % 16 = f) (hf : f < 12) {v : Int} (htow : ni_Dc xs St 4 83 (fun ad => [.ref (ad 0), ni_z (r : Int), ni_z (f : Int)]) A (fun _ => some (ni_z v)) A) (hv : v = -1) : ni_Dc xs St 5 79 (fun ad => [.ref (ad 0), ni_z (r : Int), ni_z x]) A (fun _ => none) (ni_u2 A (12 + 3 * f + 2) 1 ((A (12 + 3 * f + 2) 1) + 1)) := by
  have hfo := mt_flowOf (xs := xs) hx
  rw [hF] at hfo
  have hfo := ni_PuUp hfo (d' := 4) (by decide)
  refine ni_Dw (fun _ => Nat.le_of_ble_eq_true rfl) (fun _ => rfl) ?_
  intro M0 ad rw cp hR
  have h0 : ni_Sx St M0 ad rw cp M0 rw cp A (ni_live A) := ⟨hR, ni_KpR⟩
  have c0 := ni_clR A
  refine wp_Ld rfl rfl rfl ?_
  refine wp_P (g := ni_gPush (.int (-1)) 2) rfl (wp_push (z := -1) rfl) ?_
  refine wp_Ic true rfl (zc_ne_t ⟨by omega, by omega⟩ ⟨by omega, by omega⟩ (by omega)) ?_
  refine wp_Ld rfl rfl rfl ?_
  refine ws_Get (v := .ref (ad 3)) rfl h0 (show ni_us 0 = true by decide +kernel) (show ni_kd 0 = 4 by decide +kernel) rfl rfl rfl ?_
  refine wp_Ld rfl rfl rfl ?_
  refine ws_P rfl (Nat.le_of_ble_eq_true rfl) rfl rfl (Nat.le_of_ble_eq_true rfl) (hfo) ?_
  refine ws_Qld (j := f) (v := .ref (ad (12 + 3 * f))) rfl h0 (show ni_us 3 = true by decide +kernel) (show ni_kd 3 = 103 by decide +kernel) (show ni_ln 3 = 12 by decide +kernel) ⟨by decide, rfl⟩ rfl (by omega) (by decide) (ni_LR h0 (show ni_us 3 = true by decide +kernel) (by decide +kernel) (by omega)) rfl rfl ?_
  refine wp_St (ls' := [.ref (ad (0)), ni_z ((r : Int)), ni_z (x), .ref (ad (12 + 3 * f)), ni_J, ni_J]) rfl rfl rfl ?_
  refine wp_Ld rfl rfl rfl ?_
  refine wp_Ld rfl rfl rfl ?_
  refine wp_Ld rfl rfl rfl ?_
  refine ws_P rfl (Nat.le_of_ble_eq_true rfl) rfl rfl (Nat.le_of_ble_eq_true rfl) (hfo) ?_
  refine ws_V rfl rfl rfl h0 c0 (show ni_us 0 = true by decide +kernel) (show ni_kd 0 = 4 by decide +kernel) rfl (Nat.le_of_ble_eq_true rfl) (htow) rfl ?_
  intro M1 rw1 cp1 h1
  have c1 := ni_clR (A)
  clear h0 c0
  refine wp_St (ls' := [.ref (ad (0)), ni_z ((r : Int)), ni_z (x), .ref (ad (12 + 3 * f)), ni_z (v), ni_J]) rfl rfl rfl ?_
  refine wp_Ld rfl rfl rfl ?_
  refine wp_P (g := ni_gPush (.int (-2)) 31) rfl (wp_push (z := -2) rfl) ?_
  refine wp_Ic true rfl (zc_ne_t ⟨by omega, by omega⟩ ⟨by omega, by omega⟩ (by omega)) ?_
  refine wp_Ld rfl rfl rfl ?_
  refine wp_P (g := ni_gPush (.int (-1)) 50) rfl (wp_push (z := -1) rfl) ?_
  refine wp_Ic false rfl (zc_ne_f ⟨by omega, by omega⟩ ⟨by omega, by omega⟩ (by omega)) ?_
  refine wp_P (g := ni_gPush (.int (1)) 54) rfl (wp_push (z := 1) rfl) ?_
  refine wp_P (g := ni_gGo 70) rfl rfl ?_
  refine wp_St (ls' := [.ref (ad (0)), ni_z ((r : Int)), ni_z (x), .ref (ad (12 + 3 * f)), ni_z (v), ni_z (1)]) rfl rfl rfl ?_
  refine wp_Ld rfl rfl rfl ?_
  refine wp_P (g := ni_gPush (.int (-1)) 75) rfl (wp_push (z := -1) rfl) ?_
  refine wp_Ic false rfl (zc_eq_f ⟨by omega, by omega⟩ ⟨by omega, by omega⟩ (by omega)) ?_
  refine wp_Ld rfl rfl rfl ?_
  refine ws_Get (v := .ref (ad (12 + 3 * f + 2))) rfl h1 (ni_flS f hf).1 (ni_flS f hf).2 rfl rfl rfl ?_
  refine wp_Ld rfl rfl rfl ?_
  refine wp_P (g := ni_gDup2 85) rfl rfl ?_
  refine ws_Ald (j := 1) (v := ni_z (A (12 + 3 * f + 2) 1)) rfl h1 (ni_o0_2 (ni_flS f hf).1 (ni_flS f hf).2).1 (ni_o0_2 (ni_flS f hf).1 (ni_flS f hf).2).2.1 (ni_o0_2 (ni_flS f hf).1 (ni_flS f hf).2).2.2.1 ⟨by decide, rfl⟩ rfl (by omega) (by decide) (ni_LR h1 (ni_o0_2 (ni_flS f hf).1 (ni_flS f hf).2).1 (ni_o0_2 (ni_flS f hf).1 (ni_flS f hf).2).2.2.2 (by omega)) rfl rfl ?_
  refine wp_P (g := ni_gPush (.int (1)) 87) rfl (wp_push (z := 1) rfl) ?_
  refine wp_P rfl wp_add ?_
  refine ws_Ast (j := 1) (x := (A (12 + 3 * f + 2) 1) + 1) rfl h1 (ni_o0_2 (ni_flS f hf).1 (ni_flS f hf).2).1 (ni_o0_2 (ni_flS f hf).1 (ni_flS f hf).2).2.1 (ni_o0_2 (ni_flS f hf).1 (ni_flS f hf).2).2.2.1 ⟨by decide, rfl⟩ rfl (by omega) (by decide) (Or.inl rfl) (congrArg ni_z ni_u2e.symm) ⟨rfl, rfl⟩ ?_
  intro M2 h2
  have c2 := ni_clU (j := 1) (x := (A (12 + 3 * f + 2) 1) + 1) c1 (ni_o0_2 (ni_flS f hf).1 (ni_flS f hf).2).1 (ni_o0_2 (ni_flS f hf).1 (ni_flS f hf).2).2.1 rfl
  clear h1 c1
  exact ws_Rv (v := fun _ => none) rfl rfl h2 c2 rfl
set_option maxRecDepth 8000 in
theorem mt_dealW {r : Nat} {x : Int} (hx : 0 ≤ x ∧ x ≤ 2147483647) {f : Nat} (hF : x % 16 = f) (hf : f < 12) {v : Int} (htow : ni_Dc xs St 4 83 (fun ad => [.ref (ad 0), ni_z (r : Int), ni_z (f : Int)]) A (fun _ => some (ni_z v)) A) {L : Nat} (hL : v = L) (hL2 : L < 14) {w : Int} {A2 : Nat → Nat → Int} (hso : ni_Dc xs St 3 91 (fun ad => [.ref (ad 0), ni_z (r : Int), ni_z x, .ref (ad (48 + 17 * L))]) A (fun _ => some (ni_z w)) A2) (hw : w = -1) : ni_Dc xs St 5 79 (fun ad => [.ref (ad 0), ni_z (r : Int), ni_z x]) A (fun _ => none) A2 := by
  have hfo := mt_flowOf (xs := xs) hx
  rw [hF] at hfo
  have hfo := ni_PuUp hfo (d' := 4) (by decide)
  refine ni_Dw (fun _ => Nat.le_of_ble_eq_true rfl) (fun _ => rfl) ?_
  intro M0 ad rw cp hR
  have h0 : ni_Sx St M0 ad rw cp M0 rw cp A (ni_live A) := ⟨hR, ni_KpR⟩
  have c0 := ni_clR A
  refine wp_Ld rfl rfl rfl ?_
  refine wp_P (g := ni_gPush (.int (-1)) 2) rfl (wp_push (z := -1) rfl) ?_
  refine wp_Ic true rfl (zc_ne_t ⟨by omega, by omega⟩ ⟨by omega, by omega⟩ (by omega)) ?_
  refine wp_Ld rfl rfl rfl ?_
  refine ws_Get (v := .ref (ad 3)) rfl h0 (show ni_us 0 = true by decide +kernel) (show ni_kd 0 = 4 by decide +kernel) rfl rfl rfl ?_
  refine wp_Ld rfl rfl rfl ?_
  refine ws_P rfl (Nat.le_of_ble_eq_true rfl) rfl rfl (Nat.le_of_ble_eq_true rfl) (hfo) ?_
  refine ws_Qld (j := f) (v := .ref (ad (12 + 3 * f))) rfl h0 (show ni_us 3 = true by decide +kernel) (show ni_kd 3 = 103 by decide +kernel) (show ni_ln 3 = 12 by decide +kernel) ⟨by decide, rfl⟩ rfl (by omega) (by decide) (ni_LR h0 (show ni_us 3 = true by decide +kernel) (by decide +kernel) (by omega)) rfl rfl ?_
  refine wp_St (ls' := [.ref (ad (0)), ni_z ((r : Int)), ni_z (x), .ref (ad (12 + 3 * f)), ni_J, ni_J]) rfl rfl rfl ?_
  refine wp_Ld rfl rfl rfl ?_
  refine wp_Ld rfl rfl rfl ?_
  refine wp_Ld rfl rfl rfl ?_
  refine ws_P rfl (Nat.le_of_ble_eq_true rfl) rfl rfl (Nat.le_of_ble_eq_true rfl) (hfo) ?_
  refine ws_V rfl rfl rfl h0 c0 (show ni_us 0 = true by decide +kernel) (show ni_kd 0 = 4 by decide +kernel) rfl (Nat.le_of_ble_eq_true rfl) (htow) rfl ?_
  intro M1 rw1 cp1 h1
  have c1 := ni_clR (A)
  clear h0 c0
  refine wp_St (ls' := [.ref (ad (0)), ni_z ((r : Int)), ni_z (x), .ref (ad (12 + 3 * f)), ni_z (v), ni_J]) rfl rfl rfl ?_
  refine wp_Ld rfl rfl rfl ?_
  refine wp_P (g := ni_gPush (.int (-2)) 31) rfl (wp_push (z := -2) rfl) ?_
  refine wp_Ic true rfl (zc_ne_t ⟨by omega, by omega⟩ ⟨by omega, by omega⟩ (by omega)) ?_
  refine wp_Ld rfl rfl rfl ?_
  refine wp_P (g := ni_gPush (.int (-1)) 50) rfl (wp_push (z := -1) rfl) ?_
  refine wp_Ic true rfl (zc_ne_t ⟨by omega, by omega⟩ ⟨by omega, by omega⟩ (by omega)) ?_
  refine wp_Ld rfl rfl rfl ?_
  refine wp_Ld rfl rfl rfl ?_
  refine wp_Ld rfl rfl rfl ?_
  refine wp_Ld rfl rfl rfl ?_
  refine ws_Get (v := .ref (ad 2)) rfl h1 (show ni_us 0 = true by decide +kernel) (show ni_kd 0 = 4 by decide +kernel) rfl rfl rfl ?_
  refine wp_Ld rfl rfl rfl ?_
  refine ws_Qld (j := L) (v := .ref (ad (48 + 17 * L))) rfl h1 (show ni_us 2 = true by decide +kernel) (show ni_kd 2 = 102 by decide +kernel) (show ni_ln 2 = 14 by decide +kernel) ⟨by decide, rfl⟩ hL (by omega) (by decide) (ni_LR h1 (show ni_us 2 = true by decide +kernel) (by decide +kernel) (by omega)) rfl rfl ?_
  refine ws_V rfl rfl rfl h1 c1 (show ni_us 0 = true by decide +kernel) (show ni_kd 0 = 4 by decide +kernel) rfl (Nat.le_of_ble_eq_true rfl) (ni_Dup hso (by decide)) rfl ?_
  intro M2 rw2 cp2 h2
  have c2 := ni_clR (A2)
  clear h1 c1
  refine wp_St (ls' := [.ref (ad (0)), ni_z ((r : Int)), ni_z (x), .ref (ad (12 + 3 * f)), ni_z (v), ni_z (w)]) rfl rfl rfl ?_
  refine wp_Ld rfl rfl rfl ?_
  refine wp_P (g := ni_gPush (.int (-1)) 75) rfl (wp_push (z := -1) rfl) ?_
  refine wp_Ic true rfl (zc_eq_t ⟨by omega, by omega⟩ ⟨by omega, by omega⟩ (by omega)) ?_
  exact ws_Rv (v := fun _ => none) rfl rfl h2 c2 rfl
set_option maxRecDepth 8000 in
theorem mt_dealD {r : Nat} {x : Int} (hx : 0 ≤ x ∧ x ≤ 2147483647) {f : Nat} (hF : x % 16 = f) (hf : f < 12) {v : Int} (htow : ni_Dc xs St 4 83 (fun ad => [.ref (ad 0), ni_z (r : Int), ni_z (f : Int)]) A (fun _ => some (ni_z v)) A) {L : Nat} (hL : v = L) (hL2 : L < 14) {w : Int} {A2 : Nat → Nat → Int} (hso : ni_Dc xs St 3 91 (fun ad => [.ref (ad 0), ni_z (r : Int), ni_z x, .ref (ad (48 + 17 * L))]) A (fun _ => some (ni_z w)) A2) {n : Nat} (hw : w = n) (hn : n < 7) : ni_Dc xs St 5 79 (fun ad => [.ref (ad 0), ni_z (r : Int), ni_z x]) A (fun _ => none) (ni_u2 A2 (12 + 3 * f + 2) (n) ((A2 (12 + 3 * f + 2) (n)) + 1)) := by
  have hfo := mt_flowOf (xs := xs) hx
  rw [hF] at hfo
  have hfo := ni_PuUp hfo (d' := 4) (by decide)
  refine ni_Dw (fun _ => Nat.le_of_ble_eq_true rfl) (fun _ => rfl) ?_
  intro M0 ad rw cp hR
  have h0 : ni_Sx St M0 ad rw cp M0 rw cp A (ni_live A) := ⟨hR, ni_KpR⟩
  have c0 := ni_clR A
  refine wp_Ld rfl rfl rfl ?_
  refine wp_P (g := ni_gPush (.int (-1)) 2) rfl (wp_push (z := -1) rfl) ?_
  refine wp_Ic true rfl (zc_ne_t ⟨by omega, by omega⟩ ⟨by omega, by omega⟩ (by omega)) ?_
  refine wp_Ld rfl rfl rfl ?_
  refine ws_Get (v := .ref (ad 3)) rfl h0 (show ni_us 0 = true by decide +kernel) (show ni_kd 0 = 4 by decide +kernel) rfl rfl rfl ?_
  refine wp_Ld rfl rfl rfl ?_
  refine ws_P rfl (Nat.le_of_ble_eq_true rfl) rfl rfl (Nat.le_of_ble_eq_true rfl) (hfo) ?_
  refine ws_Qld (j := f) (v := .ref (ad (12 + 3 * f))) rfl h0 (show ni_us 3 = true by decide +kernel) (show ni_kd 3 = 103 by decide +kernel) (show ni_ln 3 = 12 by decide +kernel) ⟨by decide, rfl⟩ rfl (by omega) (by decide) (ni_LR h0 (show ni_us 3 = true by decide +kernel) (by decide +kernel) (by omega)) rfl rfl ?_
  refine wp_St (ls' := [.ref (ad (0)), ni_z ((r : Int)), ni_z (x), .ref (ad (12 + 3 * f)), ni_J, ni_J]) rfl rfl rfl ?_
  refine wp_Ld rfl rfl rfl ?_
  refine wp_Ld rfl rfl rfl ?_
  refine wp_Ld rfl rfl rfl ?_
  refine ws_P rfl (Nat.le_of_ble_eq_true rfl) rfl rfl (Nat.le_of_ble_eq_true rfl) (hfo) ?_
  refine ws_V rfl rfl rfl h0 c0 (show ni_us 0 = true by decide +kernel) (show ni_kd 0 = 4 by decide +kernel) rfl (Nat.le_of_ble_eq_true rfl) (htow) rfl ?_
  intro M1 rw1 cp1 h1
  have c1 := ni_clR (A)
  clear h0 c0
  refine wp_St (ls' := [.ref (ad (0)), ni_z ((r : Int)), ni_z (x), .ref (ad (12 + 3 * f)), ni_z (v), ni_J]) rfl rfl rfl ?_
  refine wp_Ld rfl rfl rfl ?_
  refine wp_P (g := ni_gPush (.int (-2)) 31) rfl (wp_push (z := -2) rfl) ?_
  refine wp_Ic true rfl (zc_ne_t ⟨by omega, by omega⟩ ⟨by omega, by omega⟩ (by omega)) ?_
  refine wp_Ld rfl rfl rfl ?_
  refine wp_P (g := ni_gPush (.int (-1)) 50) rfl (wp_push (z := -1) rfl) ?_
  refine wp_Ic true rfl (zc_ne_t ⟨by omega, by omega⟩ ⟨by omega, by omega⟩ (by omega)) ?_
  refine wp_Ld rfl rfl rfl ?_
  refine wp_Ld rfl rfl rfl ?_
  refine wp_Ld rfl rfl rfl ?_
  refine wp_Ld rfl rfl rfl ?_
  refine ws_Get (v := .ref (ad 2)) rfl h1 (show ni_us 0 = true by decide +kernel) (show ni_kd 0 = 4 by decide +kernel) rfl rfl rfl ?_
  refine wp_Ld rfl rfl rfl ?_
  refine ws_Qld (j := L) (v := .ref (ad (48 + 17 * L))) rfl h1 (show ni_us 2 = true by decide +kernel) (show ni_kd 2 = 102 by decide +kernel) (show ni_ln 2 = 14 by decide +kernel) ⟨by decide, rfl⟩ hL (by omega) (by decide) (ni_LR h1 (show ni_us 2 = true by decide +kernel) (by decide +kernel) (by omega)) rfl rfl ?_
  refine ws_V rfl rfl rfl h1 c1 (show ni_us 0 = true by decide +kernel) (show ni_kd 0 = 4 by decide +kernel) rfl (Nat.le_of_ble_eq_true rfl) (ni_Dup hso (by decide)) rfl ?_
  intro M2 rw2 cp2 h2
  have c2 := ni_clR (A2)
  clear h1 c1
  refine wp_St (ls' := [.ref (ad (0)), ni_z ((r : Int)), ni_z (x), .ref (ad (12 + 3 * f)), ni_z (v), ni_z (w)]) rfl rfl rfl ?_
  refine wp_Ld rfl rfl rfl ?_
  refine wp_P (g := ni_gPush (.int (-1)) 75) rfl (wp_push (z := -1) rfl) ?_
  refine wp_Ic false rfl (zc_eq_f ⟨by omega, by omega⟩ ⟨by omega, by omega⟩ (by omega)) ?_
  refine wp_Ld rfl rfl rfl ?_
  refine ws_Get (v := .ref (ad (12 + 3 * f + 2))) rfl h2 (ni_flS f hf).1 (ni_flS f hf).2 rfl rfl rfl ?_
  refine wp_Ld rfl rfl rfl ?_
  refine wp_P (g := ni_gDup2 85) rfl rfl ?_
  refine ws_Ald (j := n) (v := ni_z (A2 (12 + 3 * f + 2) (n))) rfl h2 (ni_o0_2 (ni_flS f hf).1 (ni_flS f hf).2).1 (ni_o0_2 (ni_flS f hf).1 (ni_flS f hf).2).2.1 (ni_o0_2 (ni_flS f hf).1 (ni_flS f hf).2).2.2.1 ⟨by decide, rfl⟩ hw (by omega) (by decide) (ni_LR h2 (ni_o0_2 (ni_flS f hf).1 (ni_flS f hf).2).1 (ni_o0_2 (ni_flS f hf).1 (ni_flS f hf).2).2.2.2 (by omega)) rfl rfl ?_
  refine wp_P (g := ni_gPush (.int (1)) 87) rfl (wp_push (z := 1) rfl) ?_
  refine wp_P rfl wp_add ?_
  refine ws_Ast (j := n) (x := (A2 (12 + 3 * f + 2) (n)) + 1) rfl h2 (ni_o0_2 (ni_flS f hf).1 (ni_flS f hf).2).1 (ni_o0_2 (ni_flS f hf).1 (ni_flS f hf).2).2.1 (ni_o0_2 (ni_flS f hf).1 (ni_flS f hf).2).2.2.1 ⟨by decide, rfl⟩ hw (by omega) (by decide) (Or.inl rfl) (congrArg ni_z ni_u2e.symm) ⟨rfl, rfl⟩ ?_
  intro M3 h3
  have c3 := ni_clU (j := n) (x := (A2 (12 + 3 * f + 2) (n)) + 1) c2 (ni_o0_2 (ni_flS f hf).1 (ni_flS f hf).2).1 (ni_o0_2 (ni_flS f hf).1 (ni_flS f hf).2).2.1 rfl
  clear h2 c2
  exact ws_Rv (v := fun _ => none) rfl rfl h3 c3 rfl
end MDL
