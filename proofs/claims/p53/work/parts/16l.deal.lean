/-! WHAT BECOMES OF A PACKET -/
section MDL
variable {xs : List Int32} {St : Nat → Option ni_C} {A : Nat → Nat → Int}
/-- a packet waits, as the last one -/
def ni_putQ (B : Nat → Nat → Int) (p : Nat) (x q b : Int) : Nat → Nat → Int := ni_u2 (ni_u2 (ni_u2 B (p + 7) q.toNat x) p 10 (q + 1)) p 11 (b + x / 4096 % 512)
/-- what a port may do with a packet that comes -/
def ni_acc (A : Nat → Nat → Int) (p : Nat) (x v : Int) (A2 : Nat → Nat → Int) : Prop := (v = 4 ∧ A2 = A) ∨ (v = 5 ∧ A2 = ni_u2 A p 4 (A p 4 + 1)) ∨ (v = -1 ∧ A p 10 < 250 ∧ A p 11 + x / 4096 % 512 ≤ A p 2 ∧ ∃ B, (B = A ∨ B = ni_u2 A p 4 (A p 4 + 1)) ∧ A2 = ni_putQ B p x (A p 10) (A p 11))
theorem mt_accept {p : Nat} {x : Int} (hx : 0 ≤ x ∧ x ≤ 2147483647) (h11 : 0 ≤ A p 11 ∧ A p 11 ≤ 1000000) (h2 : 0 ≤ A p 2 ∧ A p 2 ≤ 1000000) (h10 : 0 ≤ A p 10 ∧ A p 10 ≤ 250) (h4 : 0 ≤ A p 4 ∧ A p 4 ≤ 1000000) (h3 : A p 3 = 0 ∨ A p 3 = 1) (hs : ni_us p = true) (hk : ni_kd p = 5) : ∃ (v : Int) (A2 : Nat → Nat → Int), ni_Dc xs St 2 106 (fun ad => [.ref (ad p), ni_z x]) A (fun _ => some (ni_z v)) A2 ∧ ni_acc A p x v A2 := by
  by_cases g1 : A p 2 < A p 11 + x / 4096 % 512
  · exact ⟨4, A, mt_acc0 hx h11 h2 h10 h4 g1 hs hk, Or.inl ⟨rfl, rfl⟩⟩
  · by_cases g2 : 250 ≤ A p 10
    · exact ⟨4, A, mt_acc1 hx h11 h2 h10 h4 (by omega) g2 hs hk, Or.inl ⟨rfl, rfl⟩⟩
    · rcases h3 with h3 | h3
      · exact ⟨-1, _, mt_acc2 hx h11 h2 h10 h4 (by omega) (by omega) h3 hs hk, Or.inr (Or.inr ⟨rfl, by omega, by omega, A, Or.inl rfl, rfl⟩)⟩
      · by_cases g3 : 2 * A p 11 < A p 2
        · exact ⟨-1, _, mt_acc3 hx h11 h2 h10 h4 (by omega) (by omega) h3 g3 hs hk, Or.inr (Or.inr ⟨rfl, by omega, by omega, A, Or.inl rfl, rfl⟩)⟩
        · by_cases g4 : (A p 4 + 1) % 3 = 0
          · exact ⟨5, _, mt_acc4 hx h11 h2 h10 h4 (by omega) (by omega) h3 (by omega) g4 hs hk, Or.inr (Or.inl ⟨rfl, rfl⟩)⟩
          · exact ⟨-1, _, mt_acc5 hx h11 h2 h10 h4 (by omega) (by omega) h3 (by omega) g4 hs hk, Or.inr (Or.inr ⟨rfl, by omega, by omega, _, Or.inr rfl, rfl⟩)⟩
theorem mt_so1 {l : Nat} {r x : Int} (hx : 0 ≤ x ∧ x ≤ 2147483647) (hs : ni_us l = true) (hk : ni_kd l = 3) (h : x / 2097152 ≤ 1) : ni_Dc xs St 3 91 (fun ad => [.ref (ad 0), ni_z r, ni_z x, .ref (ad l)]) A (fun _ => some (ni_z (2))) A := by
  have h374 := (ni_usT hs).1
  refine ni_Dw (fun _ => Nat.le_of_ble_eq_true rfl) (fun _ => rfl) ?_
  intro M0 ad rw cp hR
  have h0 : ni_Sx St M0 ad rw cp M0 rw cp A (ni_live A) := ⟨hR, ni_KpR⟩
  have c0 := ni_clR A
  refine wp_Ld rfl rfl rfl ?_
  refine ws_P rfl (Nat.le_of_ble_eq_true rfl) rfl rfl (Nat.le_of_ble_eq_true rfl) (ni_PuUp (mt_lifeOf hx) (by decide)) ?_
  refine wp_P (g := ni_gPush (.int (1)) 5) rfl (wp_push (z := 1) rfl) ?_
  refine wp_Ic false rfl (zc_gt_f ⟨by omega, by omega⟩ ⟨by omega, by omega⟩ (by omega)) ?_
  refine wp_P (g := ni_gPush (.int (2)) 9) rfl (wp_push (z := 2) rfl) ?_
  exact ws_R (v := fun _ => some (ni_z (2))) rfl rfl h0 c0 rfl
theorem mt_so2 {l : Nat} {r x : Int} (hx : 0 ≤ x ∧ x ≤ 2147483647) (hs : ni_us l = true) (hk : ni_kd l = 3) (h : 1 < x / 2097152) (h5 : A l 5 = 0) : ni_Dc xs St 3 91 (fun ad => [.ref (ad 0), ni_z r, ni_z x, .ref (ad l)]) A (fun _ => some (ni_z (3))) A := by
  have h374 := (ni_usT hs).1
  refine ni_Dw (fun _ => Nat.le_of_ble_eq_true rfl) (fun _ => rfl) ?_
  intro M0 ad rw cp hR
  have h0 : ni_Sx St M0 ad rw cp M0 rw cp A (ni_live A) := ⟨hR, ni_KpR⟩
  have c0 := ni_clR A
  refine wp_Ld rfl rfl rfl ?_
  refine ws_P rfl (Nat.le_of_ble_eq_true rfl) rfl rfl (Nat.le_of_ble_eq_true rfl) (ni_PuUp (mt_lifeOf hx) (by decide)) ?_
  refine wp_P (g := ni_gPush (.int (1)) 5) rfl (wp_push (z := 1) rfl) ?_
  refine wp_Ic true rfl (zc_gt_t ⟨by omega, by omega⟩ ⟨by omega, by omega⟩ (by omega)) ?_
  refine wp_Ld rfl rfl rfl ?_
  refine ws_Get (v := ni_z (A (l) 5)) rfl h0 hs hk rfl rfl rfl ?_
  refine wp_If true rfl (zf_eq_t ⟨by omega, by omega⟩ (by omega)) ?_
  refine wp_P (g := ni_gPush (.int (3)) 33) rfl (wp_push (z := 3) rfl) ?_
  exact ws_R (v := fun _ => some (ni_z (3))) rfl rfl h0 c0 rfl
theorem mt_so3 {l : Nat} {r x : Int} (hx : 0 ≤ x ∧ x ≤ 2147483647) (hs : ni_us l = true) (hk : ni_kd l = 3) (h : 1 < x / 2097152) (h5 : A l 5 = 1) (hr : 0 ≤ r ∧ r ≤ 100) (h0a : 0 ≤ A l 0 ∧ A l 0 ≤ 100) (h1a : 0 ≤ A l 1 ∧ A l 1 ≤ 100) {v : Int} {A2 : Nat → Nat → Int} (hra : r = A l 0) (hacc : ni_Dc xs St 2 106 (fun ad => [.ref (ad (l + 1)), ni_z (x - 2097152)]) A (fun _ => some (ni_z v)) A2) : ni_Dc xs St 3 91 (fun ad => [.ref (ad 0), ni_z r, ni_z x, .ref (ad l)]) A (fun _ => some (ni_z (v))) A2 := by
  have h374 := (ni_usT hs).1
  refine ni_Dw (fun _ => Nat.le_of_ble_eq_true rfl) (fun _ => rfl) ?_
  intro M0 ad rw cp hR
  have h0 : ni_Sx St M0 ad rw cp M0 rw cp A (ni_live A) := ⟨hR, ni_KpR⟩
  have c0 := ni_clR A
  refine wp_Ld rfl rfl rfl ?_
  refine ws_P rfl (Nat.le_of_ble_eq_true rfl) rfl rfl (Nat.le_of_ble_eq_true rfl) (ni_PuUp (mt_lifeOf hx) (by decide)) ?_
  refine wp_P (g := ni_gPush (.int (1)) 5) rfl (wp_push (z := 1) rfl) ?_
  refine wp_Ic true rfl (zc_gt_t ⟨by omega, by omega⟩ ⟨by omega, by omega⟩ (by omega)) ?_
  refine wp_Ld rfl rfl rfl ?_
  refine ws_Get (v := ni_z (A (l) 5)) rfl h0 hs hk rfl rfl rfl ?_
  refine wp_If false rfl (zf_eq_f ⟨by omega, by omega⟩ (by omega)) ?_
  refine wp_Ld rfl rfl rfl ?_
  refine wp_Ld rfl rfl rfl ?_
  refine ws_V rfl rfl rfl h0 c0 hs hk rfl (Nat.le_of_ble_eq_true rfl) (ni_Dup (mt_portA hr h0a h1a hra hs hk) (by decide)) rfl ?_
  intro M1 rw1 cp1 h1
  have c1 := ni_clR (A)
  clear h0 c0
  refine wp_Ld rfl rfl rfl ?_
  refine ws_P rfl (Nat.le_of_ble_eq_true rfl) rfl rfl (Nat.le_of_ble_eq_true rfl) (ni_PuUp mt_older (by decide)) ?_
  refine ws_V rfl rfl rfl h1 c1 (ni_o3_1 hs hk).1 (ni_o3_1 hs hk).2.1 rfl (Nat.le_of_ble_eq_true rfl) (hacc) rfl ?_
  intro M2 rw2 cp2 h2
  have c2 := ni_clR (A2)
  clear h1 c1
  refine wp_P (g := ni_gGo 33) rfl rfl ?_
  exact ws_R (v := fun _ => some (ni_z (v))) rfl rfl h2 c2 rfl
theorem mt_so4 {l : Nat} {r x : Int} (hx : 0 ≤ x ∧ x ≤ 2147483647) (hs : ni_us l = true) (hk : ni_kd l = 3) (h : 1 < x / 2097152) (h5 : A l 5 = 1) (hr : 0 ≤ r ∧ r ≤ 100) (h0a : 0 ≤ A l 0 ∧ A l 0 ≤ 100) (h1a : 0 ≤ A l 1 ∧ A l 1 ≤ 100) {v : Int} {A2 : Nat → Nat → Int} (hra : ¬ r = A l 0) (hacc : ni_Dc xs St 2 106 (fun ad => [.ref (ad (l + 9)), ni_z (x - 2097152)]) A (fun _ => some (ni_z v)) A2) : ni_Dc xs St 3 91 (fun ad => [.ref (ad 0), ni_z r, ni_z x, .ref (ad l)]) A (fun _ => some (ni_z (v))) A2 := by
  have h374 := (ni_usT hs).1
  refine ni_Dw (fun _ => Nat.le_of_ble_eq_true rfl) (fun _ => rfl) ?_
  intro M0 ad rw cp hR
  have h0 : ni_Sx St M0 ad rw cp M0 rw cp A (ni_live A) := ⟨hR, ni_KpR⟩
  have c0 := ni_clR A
  refine wp_Ld rfl rfl rfl ?_
  refine ws_P rfl (Nat.le_of_ble_eq_true rfl) rfl rfl (Nat.le_of_ble_eq_true rfl) (ni_PuUp (mt_lifeOf hx) (by decide)) ?_
  refine wp_P (g := ni_gPush (.int (1)) 5) rfl (wp_push (z := 1) rfl) ?_
  refine wp_Ic true rfl (zc_gt_t ⟨by omega, by omega⟩ ⟨by omega, by omega⟩ (by omega)) ?_
  refine wp_Ld rfl rfl rfl ?_
  refine ws_Get (v := ni_z (A (l) 5)) rfl h0 hs hk rfl rfl rfl ?_
  refine wp_If false rfl (zf_eq_f ⟨by omega, by omega⟩ (by omega)) ?_
  refine wp_Ld rfl rfl rfl ?_
  refine wp_Ld rfl rfl rfl ?_
  refine ws_V rfl rfl rfl h0 c0 hs hk rfl (Nat.le_of_ble_eq_true rfl) (ni_Dup (mt_portB hr h0a h1a hra hs hk) (by decide)) rfl ?_
  intro M1 rw1 cp1 h1
  have c1 := ni_clR (A)
  clear h0 c0
  refine wp_Ld rfl rfl rfl ?_
  refine ws_P rfl (Nat.le_of_ble_eq_true rfl) rfl rfl (Nat.le_of_ble_eq_true rfl) (ni_PuUp mt_older (by decide)) ?_
  refine ws_V rfl rfl rfl h1 c1 (ni_o3_9 hs hk).1 (ni_o3_9 hs hk).2.1 rfl (Nat.le_of_ble_eq_true rfl) (hacc) rfl ?_
  intro M2 rw2 cp2 h2
  have c2 := ni_clR (A2)
  clear h1 c1
  refine wp_P (g := ni_gGo 33) rfl rfl ?_
  exact ws_R (v := fun _ => some (ni_z (v))) rfl rfl h2 c2 rfl
end MDL
