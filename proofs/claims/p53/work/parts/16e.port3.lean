/-! WHAT A PORT SENDS -/
section MPS
variable {xs : List Int32} {St : Nat → Option ni_C} {A : Nat → Nat → Int}
/-- the turns of a port are in order -/
def ni_PT (A : Nat → Nat → Int) (p : Nat) : Prop := (0 ≤ A p 7 ∧ A p 7 ≤ 3) ∧ (A p 8 = 0 ∨ A p 8 = 1) ∧ ∀ j : Nat, j < 4 → (1 ≤ A (p + 5) j ∧ A (p + 5) j ≤ 4) ∧ 0 ≤ A (p + 6) j ∧ A (p + 6) j ≤ 511 + (if A p 8 = 1 ∧ A p 7 = j then 400 else 0)
/-- nothing but the turns of the port p is changed -/
def ni_fT (A A' : Nat → Nat → Int) (p : Nat) : Prop := ∀ s j, s ≠ p + 6 → ¬ (s = p ∧ (j = 7 ∨ j = 8)) → A' s j = A s j
theorem ni_fTr {p : Nat} : ni_fT A A p := fun _ _ _ _ => rfl
theorem ni_fTt {A' A2 : Nat → Nat → Int} {p : Nat} (h : ni_fT A A' p) (h' : ni_fT A' A2 p) : ni_fT A A2 p := fun s j h1 h2 => (h' s j h1 h2).trans (h s j h1 h2)
theorem ni_fTu {A' : Nat → Nat → Int} {p j : Nat} {x : Int} (h : ni_fT A A' p) : ni_fT A (ni_u2 A' (p + 6) j x) p := fun s j' h1 h2 => (ni_u2n (Or.inl h1)).trans (h s j' h1 h2)
theorem ni_fTv {A' : Nat → Nat → Int} {p j : Nat} {x : Int} (hj : j = 7 ∨ j = 8) (h : ni_fT A A' p) : ni_fT A (ni_u2 A' p j x) p := fun s j' h1 h2 => (ni_u2n (by
  by_cases e : s = p
  · exact Or.inr (fun z => h2 ⟨e, by omega⟩)
  · exact Or.inl e)).trans (h s j' h1 h2)
theorem ni_fTq {A' : Nat → Nat → Int} {p : Nat} (h : ni_fT A A' p) : A' p 10 = A p 10 ∧ (∀ i, A' (p + 7) i = A (p + 7) i) ∧ A' p 11 = A p 11 ∧ A' p 1 = A p 1 ∧ A' p 2 = A p 2 ∧ A' p 12 = A p 12 ∧ A' p 13 = A p 13 := ⟨h _ _ (by omega) (by omega), fun i => h _ _ (by omega) (by omega), h _ _ (by omega) (by omega), h _ _ (by omega) (by omega), h _ _ (by omega) (by omega), h _ _ (by omega) (by omega), h _ _ (by omega) (by omega)⟩
theorem mt_byCL {p : Nat} (hn : 0 ≤ A p 10 ∧ A p 10 ≤ 250) (hq : ∀ i : Nat, (i : Int) < A p 10 → 0 ≤ A (p + 7) i ∧ A (p + 7) i ≤ 2147483647) (hs : ni_us p = true) (hk : ni_kd p = 5) : ∀ k i : Nat, i + k = 4 → ∀ w : Value, ∃ v : Int, ni_Dr xs St 2 115 2 (fun ad => [.ref (ad p), ni_z (i : Int), w]) A (fun _ => some (ni_z v)) A ∧ (v = -1 ∨ (0 ≤ v ∧ v < A p 10)) := by
  have h374 := (ni_usT hs).1
  intro k
  induction k with
  | zero =>
    intro i hi w
    have hin : i = 4 := by omega
    subst hin
    refine ⟨-1, ?_, Or.inl rfl⟩
    · intro M0 ad rw cp hR
      have h0 : ni_Sx St M0 ad rw cp M0 rw cp A (ni_live A) := ⟨hR, ni_KpR⟩
      have c0 := ni_clR A
      refine wp_Ld rfl rfl rfl ?_
      refine wp_P (g := ni_gPush (.int (4)) 4) rfl (wp_push (z := 4) rfl) ?_
      refine wp_Ic true rfl (zc_ge_t ⟨by omega, by omega⟩ ⟨by omega, by omega⟩ (by omega)) ?_
      refine wp_P (g := ni_gPush (.int (-1)) 27) rfl (wp_push (z := -1) rfl) ?_
      exact ws_R (v := fun _ => some (ni_z (-1))) rfl rfl h0 c0 rfl
  | succ k ih =>
    intro i hi w
    obtain ⟨v, hD, hv⟩ := mt_first (xs := xs) (St := St) (c := (i : Int)) (by omega) hn hq hs hk
    by_cases e : v = -1
    · obtain ⟨v2, g, hv2⟩ := ih (i + 1) (by omega) (ni_z v)
      refine ⟨v2, ?_, hv2⟩
      · intro M0 ad rw cp hR
        have h0 : ni_Sx St M0 ad rw cp M0 rw cp A (ni_live A) := ⟨hR, ni_KpR⟩
        have c0 := ni_clR A
        refine wp_Ld rfl rfl rfl ?_
        refine wp_P (g := ni_gPush (.int (4)) 4) rfl (wp_push (z := 4) rfl) ?_
        refine wp_Ic false rfl (zc_ge_f ⟨by omega, by omega⟩ ⟨by omega, by omega⟩ (by omega)) ?_
        refine wp_Ld rfl rfl rfl ?_
        refine wp_Ld rfl rfl rfl ?_
        refine ws_V rfl rfl rfl h0 c0 hs hk rfl (Nat.le_of_ble_eq_true rfl) (hD) rfl ?_
        intro M1 rw1 cp1 h1
        have c1 := ni_clR (A)
        clear h0 c0
        refine wp_St rfl rfl rfl ?_
        refine wp_Ld rfl rfl rfl ?_
        refine wp_P (g := ni_gPush (.int (-1)) 15) rfl (wp_push (z := -1) rfl) ?_
        refine wp_Ic true rfl (zc_eq_t ⟨by omega, by omega⟩ ⟨by omega, by omega⟩ (by omega)) ?_
        refine wp_Inc (x' := (i : Int) + 1) rfl rfl (zi_inc (z := 1) rfl) rfl ?_
        refine wp_P (g := ni_gGo 2) rfl rfl ?_
        exact ws_Dg h1 c1 g rfl
    · have hv9 : 0 ≤ v ∧ v < A p 10 := by
        rcases hv with h | ⟨j, h1, h2, h3⟩
        · exact absurd h.1 e
        · omega
      refine ⟨v, ?_, Or.inr hv9⟩
      · intro M0 ad rw cp hR
        have h0 : ni_Sx St M0 ad rw cp M0 rw cp A (ni_live A) := ⟨hR, ni_KpR⟩
        have c0 := ni_clR A
        refine wp_Ld rfl rfl rfl ?_
        refine wp_P (g := ni_gPush (.int (4)) 4) rfl (wp_push (z := 4) rfl) ?_
        refine wp_Ic false rfl (zc_ge_f ⟨by omega, by omega⟩ ⟨by omega, by omega⟩ (by omega)) ?_
        refine wp_Ld rfl rfl rfl ?_
        refine wp_Ld rfl rfl rfl ?_
        refine ws_V rfl rfl rfl h0 c0 hs hk rfl (Nat.le_of_ble_eq_true rfl) (hD) rfl ?_
        intro M1 rw1 cp1 h1
        have c1 := ni_clR (A)
        clear h0 c0
        refine wp_St rfl rfl rfl ?_
        refine wp_Ld rfl rfl rfl ?_
        refine wp_P (g := ni_gPush (.int (-1)) 15) rfl (wp_push (z := -1) rfl) ?_
        refine wp_Ic false rfl (zc_eq_f ⟨by omega, by omega⟩ ⟨by omega, by omega⟩ (by omega)) ?_
        refine wp_Ld rfl rfl rfl ?_
        exact ws_R (v := fun _ => some (ni_z v)) rfl rfl h1 c1 rfl
theorem mt_byC {p : Nat} (hn : 0 ≤ A p 10 ∧ A p 10 ≤ 250) (hq : ∀ i : Nat, (i : Int) < A p 10 → 0 ≤ A (p + 7) i ∧ A (p + 7) i ≤ 2147483647) (hs : ni_us p = true) (hk : ni_kd p = 5) : ∃ v : Int, ni_Dc xs St 3 115 (fun ad => [.ref (ad p)]) A (fun _ => some (ni_z v)) A ∧ (v = -1 ∨ (0 ≤ v ∧ v < A p 10)) := by
  obtain ⟨v, g, hv⟩ := mt_byCL (xs := xs) (St := St) hn hq hs hk 4 0 (by omega) ni_J
  refine ⟨v, ?_, hv⟩
  · refine ni_Dw (fun _ => Nat.le_of_ble_eq_true rfl) (fun _ => rfl) ?_
    intro M0 ad rw cp hR
    have h0 : ni_Sx St M0 ad rw cp M0 rw cp A (ni_live A) := ⟨hR, ni_KpR⟩
    have c0 := ni_clR A
    refine wp_P (g := ni_gPush (.int (0)) 1) rfl (wp_push (z := 0) rfl) ?_
    refine wp_St rfl rfl rfl ?_
    exact ws_Dg h0 c0 g rfl
theorem ni_PTn {p T : Nat} {A2 : Nat → Nat → Int} (h : ni_PT A p) (hT : A p 7 = T) (hf : ni_fT A A2 p) (h7 : A2 p 7 = (A p 7 + 1) % 4) (h8 : A2 p 8 = 0) (hd : 0 ≤ A2 (p + 6) T ∧ A2 (p + 6) T ≤ 511) (ho : ∀ j, j ≠ T → A2 (p + 6) j = A (p + 6) j) : ni_PT A2 p := by
  obtain ⟨g1, g2, g3⟩ := h
  have m0 : 0 ≤ (A p 7 + 1) % 4 := Int.emod_nonneg _ (by omega)
  have m1 : (A p 7 + 1) % 4 < 4 := Int.emod_lt_of_pos _ (by omega)
  refine ⟨by omega, Or.inl h8, fun j hj => ⟨?_, ?_⟩⟩
  · rw [hf (p + 5) j (by omega) (by omega)]
    exact (g3 j hj).1
  · rw [if_neg (by omega)]
    by_cases e : j = T
    · rw [e]
      omega
    · rw [ho j e]
      have := (g3 j hj).2
      rw [if_neg (by omega)] at this
      omega
theorem mt_tn {p T i : Nat} {v : Int} {w2 w3 : Value} (hs : ni_us p = true) (hk : ni_kd p = 5) (hT : A p 7 = T) (hT4 : T < 4) (hi : i < 100) (hv : v = -1) (hD : ni_Dc xs St 2 111 (fun ad => [.ref (ad p), ni_z (A p 7)]) A (fun _ => some (ni_z v)) A) {v2 : Int} {A3 : Nat → Nat → Int} (k1 : ni_Dr xs St 2 116 2 (fun ad => [.ref (ad p), ni_z ((i + 1 : Nat) : Int), ni_z v, w3]) (ni_u2 (ni_u2 (ni_u2 A (p + 6) (T) (0)) (p) 7 ((A (p) 7 + 1) % 4)) (p) 8 (0)) (fun _ => some (ni_z v2)) A3) : ni_Dr xs St 2 116 2 (fun ad => [.ref (ad p), ni_z (i : Int), w2, w3]) A (fun _ => some (ni_z v2)) A3 := by
  have h374 := (ni_usT hs).1
  intro M0 ad rw cp hR
  have h0 : ni_Sx St M0 ad rw cp M0 rw cp A (ni_live A) := ⟨hR, ni_KpR⟩
  have c0 := ni_clR A
  refine wp_Ld rfl rfl rfl ?_
  refine wp_P (g := ni_gPush (.int (100)) 5) rfl (wp_push (z := 100) rfl) ?_
  refine wp_Ic false rfl (zc_ge_f ⟨by omega, by omega⟩ ⟨by omega, by omega⟩ (by omega)) ?_
  refine wp_Ld rfl rfl rfl ?_
  refine wp_Ld rfl rfl rfl ?_
  refine ws_Get (v := ni_z (A (p) 7)) rfl h0 hs hk rfl rfl rfl ?_
  refine ws_V rfl rfl rfl h0 c0 hs hk rfl (Nat.le_of_ble_eq_true rfl) (hD) rfl ?_
  intro M1 rw1 cp1 h1
  have c1 := ni_clR (A)
  clear h0 c0
  refine wp_St rfl rfl rfl ?_
  refine wp_Ld rfl rfl rfl ?_
  refine wp_P (g := ni_gPush (.int (-1)) 19) rfl (wp_push (z := -1) rfl) ?_
  refine wp_Ic false rfl (zc_ne_f ⟨by omega, by omega⟩ ⟨by omega, by omega⟩ (by omega)) ?_
  refine wp_Ld rfl rfl rfl ?_
  refine ws_Get (v := .ref (ad (p + 6))) rfl h1 hs hk rfl rfl rfl ?_
  refine wp_Ld rfl rfl rfl ?_
  refine ws_Get (v := ni_z (A (p) 7)) rfl h1 hs hk rfl rfl rfl ?_
  refine wp_P (g := ni_gPush (.int (0)) 31) rfl (wp_push (z := 0) rfl) ?_
  refine ws_Ast (j := T) (x := 0) rfl h1 (ni_o5_6 hs hk).1 (ni_o5_6 hs hk).2.1 (ni_o5_6 hs hk).2.2.1 ⟨by decide, rfl⟩ hT (by omega) (by decide) (Or.inl rfl) (congrArg ni_z ni_u2e.symm) ⟨rfl, rfl⟩ ?_
  intro M2 h2
  have c2 := ni_clU (j := T) (x := 0) c1 (ni_o5_6 hs hk).1 (ni_o5_6 hs hk).2.1 rfl
  clear h1 c1
  refine wp_P (g := ni_gGo 109) rfl rfl ?_
  refine wp_Ld rfl rfl rfl ?_
  refine wp_Ld rfl rfl rfl ?_
  refine ws_Get (v := ni_z (A (p) 7)) rfl h2 hs hk rfl rfl (congrArg ni_z (ni_u2n (Or.inl (by omega)))) ?_
  refine wp_P (g := ni_gPush (.int (1)) 115) rfl (wp_push (z := 1) rfl) ?_
  refine wp_P rfl wp_add ?_
  refine wp_P (g := ni_gPush (.int (4)) 117) rfl (wp_push (z := 4) rfl) ?_
  refine wp_P rfl (wp_I0 (c := (A (p) 7 + 1) % 4) (zi_rem ⟨by omega, by omega⟩ (by omega) (by omega))) ?_
  refine ws_Put rfl h2 hs hk rfl rfl (fun _ => rfl) rfl (fun z => absurd z (by decide)) ?_
  intro M3 h3
  have c3 := ni_clU (j := 7) (x := (A (p) 7 + 1) % 4) c2 hs hk rfl
  clear h2 c2
  refine wp_Ld rfl rfl rfl ?_
  refine wp_P (g := ni_gPush (.int (0)) 123) rfl (wp_push (z := 0) rfl) ?_
  refine ws_Put rfl h3 hs hk rfl rfl (fun _ => rfl) rfl (fun z => absurd z (by decide)) ?_
  intro M4 h4
  have c4 := ni_clU (j := 8) (x := 0) c3 hs hk rfl
  clear h3 c3
  refine wp_Inc (x' := (i : Int) + 1) rfl rfl (zi_inc (z := 1) rfl) rfl ?_
  refine wp_P (g := ni_gGo 2) rfl rfl ?_
  exact ws_Dg h4 c4 k1 rfl
theorem mt_t00 {p T i : Nat} {v : Int} {w2 w3 : Value} (hs : ni_us p = true) (hk : ni_kd p = 5) (hT : A p 7 = T) (hT4 : T < 4) (hi : i < 100) (hd : 0 ≤ A (p + 6) T ∧ A (p + 6) T ≤ 1000) (hw : 0 ≤ A (p + 5) T ∧ A (p + 5) T ≤ 4) (h10 : 0 ≤ A p 10 ∧ A p 10 ≤ 250) {j : Nat} (hj : v = j) (hj2 : (j : Int) < A p 10) (hz : 0 ≤ A (p + 7) j ∧ A (p + 7) j ≤ 2147483647) (h8 : A p 8 = 0) (he : A (p + 6) T + 100 * A (p + 5) T < A (p + 7) j / 4096 % 512) (hD : ni_Dc xs St 2 111 (fun ad => [.ref (ad p), ni_z (A p 7)]) A (fun _ => some (ni_z v)) A) {v2 : Int} {A3 : Nat → Nat → Int} (k1 : ni_Dr xs St 2 116 2 (fun ad => [.ref (ad p), ni_z ((i + 1 : Nat) : Int), ni_z v, ni_z (A (p + 7) j / 4096 % 512)]) (ni_u2 (ni_u2 (ni_u2 (ni_u2 A (p + 6) (T) ((A (p + 6) (T)) + (100 * (A (p + 5) (T))))) (p) 8 (1)) (p) 7 ((A (p) 7 + 1) % 4)) (p) 8 (0)) (fun _ => some (ni_z v2)) A3) : ni_Dr xs St 2 116 2 (fun ad => [.ref (ad p), ni_z (i : Int), w2, w3]) A (fun _ => some (ni_z v2)) A3 := by
  have h374 := (ni_usT hs).1
  have hz0 : 0 ≤ A (p + 7) j / 4096 % 512 := Int.emod_nonneg _ (by omega)
  have hz1 : A (p + 7) j / 4096 % 512 < 512 := Int.emod_lt_of_pos _ (by omega)
  intro M0 ad rw cp hR
  have h0 : ni_Sx St M0 ad rw cp M0 rw cp A (ni_live A) := ⟨hR, ni_KpR⟩
  have c0 := ni_clR A
  refine wp_Ld rfl rfl rfl ?_
  refine wp_P (g := ni_gPush (.int (100)) 5) rfl (wp_push (z := 100) rfl) ?_
  refine wp_Ic false rfl (zc_ge_f ⟨by omega, by omega⟩ ⟨by omega, by omega⟩ (by omega)) ?_
  refine wp_Ld rfl rfl rfl ?_
  refine wp_Ld rfl rfl rfl ?_
  refine ws_Get (v := ni_z (A (p) 7)) rfl h0 hs hk rfl rfl rfl ?_
  refine ws_V rfl rfl rfl h0 c0 hs hk rfl (Nat.le_of_ble_eq_true rfl) (hD) rfl ?_
  intro M1 rw1 cp1 h1
  have c1 := ni_clR (A)
  clear h0 c0
  refine wp_St rfl rfl rfl ?_
  refine wp_Ld rfl rfl rfl ?_
  refine wp_P (g := ni_gPush (.int (-1)) 19) rfl (wp_push (z := -1) rfl) ?_
  refine wp_Ic true rfl (zc_ne_t ⟨by omega, by omega⟩ ⟨by omega, by omega⟩ (by omega)) ?_
  refine wp_Ld rfl rfl rfl ?_
  refine ws_Get (v := ni_z (A (p) 8)) rfl h1 hs hk rfl rfl rfl ?_
  refine wp_If false rfl (zf_ne_f ⟨by omega, by omega⟩ (by omega)) ?_
  refine wp_Ld rfl rfl rfl ?_
  refine ws_Get (v := .ref (ad (p + 6))) rfl h1 hs hk rfl rfl rfl ?_
  refine wp_Ld rfl rfl rfl ?_
  refine ws_Get (v := ni_z (A (p) 7)) rfl h1 hs hk rfl rfl rfl ?_
  refine wp_P (g := ni_gDup2 51) rfl rfl ?_
  refine ws_Ald (j := T) (v := ni_z (A (p + 6) (T))) rfl h1 (ni_o5_6 hs hk).1 (ni_o5_6 hs hk).2.1 (ni_o5_6 hs hk).2.2.1 ⟨by decide, rfl⟩ hT (by omega) (by decide) (ni_LR h1 (ni_o5_6 hs hk).1 (ni_o5_6 hs hk).2.2.2 (by omega)) rfl rfl ?_
  refine wp_P (g := ni_gPush (.int (100)) 54) rfl (wp_push (z := 100) rfl) ?_
  refine wp_Ld rfl rfl rfl ?_
  refine ws_Get (v := .ref (ad (p + 5))) rfl h1 hs hk rfl rfl rfl ?_
  refine wp_Ld rfl rfl rfl ?_
  refine ws_Get (v := ni_z (A (p) 7)) rfl h1 hs hk rfl rfl rfl ?_
  refine ws_Ald (j := T) (v := ni_z (A (p + 5) (T))) rfl h1 (ni_o5_5 hs hk).1 (ni_o5_5 hs hk).2.1 (ni_o5_5 hs hk).2.2.1 ⟨by decide, rfl⟩ hT (by omega) (by decide) (ni_LR h1 (ni_o5_5 hs hk).1 (ni_o5_5 hs hk).2.2.2 (by omega)) rfl rfl ?_
  refine wp_P rfl wp_mul ?_
  refine wp_P rfl wp_add ?_
  refine ws_Ast (j := T) (x := (A (p + 6) (T)) + (100 * (A (p + 5) (T)))) rfl h1 (ni_o5_6 hs hk).1 (ni_o5_6 hs hk).2.1 (ni_o5_6 hs hk).2.2.1 ⟨by decide, rfl⟩ hT (by omega) (by decide) (Or.inl rfl) (congrArg ni_z ni_u2e.symm) ⟨rfl, rfl⟩ ?_
  intro M2 h2
  have c2 := ni_clU (j := T) (x := (A (p + 6) (T)) + (100 * (A (p + 5) (T)))) c1 (ni_o5_6 hs hk).1 (ni_o5_6 hs hk).2.1 rfl
  clear h1 c1
  refine wp_Ld rfl rfl rfl ?_
  refine wp_P (g := ni_gPush (.int (1)) 68) rfl (wp_push (z := 1) rfl) ?_
  refine ws_Put rfl h2 hs hk rfl rfl (fun _ => rfl) rfl (fun z => absurd z (by decide)) ?_
  intro M3 h3
  have c3 := ni_clU (j := 8) (x := 1) c2 hs hk rfl
  clear h2 c2
  refine wp_Ld rfl rfl rfl ?_
  refine ws_Get (v := .ref (ad (p + 7))) rfl h3 hs hk rfl rfl rfl ?_
  refine wp_Ld rfl rfl rfl ?_
  refine ws_Ald (j := j) (v := ni_z (A (p + 7) (j))) rfl h3 (ni_o5_7 hs hk).1 (ni_o5_7 hs hk).2.1 (ni_o5_7 hs hk).2.2.1 ⟨by decide, rfl⟩ hj (by omega) (by decide) (ni_LQ (ni_o5_7 hs hk).2.2.2 (by omega) (by omega)) (congrArg ni_z ((ni_u2n (Or.inl (by omega))).trans (ni_u2n (Or.inl (by omega))))) rfl ?_
  refine ws_P rfl (Nat.le_of_ble_eq_true rfl) rfl rfl (Nat.le_of_ble_eq_true rfl) (ni_PuUp (mt_sizeOf hz) (by decide)) ?_
  refine wp_St rfl rfl rfl ?_
  refine wp_Ld rfl rfl rfl ?_
  refine ws_Get (v := .ref (ad (p + 6))) rfl h3 hs hk rfl rfl rfl ?_
  refine wp_Ld rfl rfl rfl ?_
  refine ws_Get (v := ni_z (A (p) 7)) rfl h3 hs hk rfl rfl (congrArg ni_z ((ni_u2n (Or.inr (by decide))).trans (ni_u2n (Or.inl (by omega))))) ?_
  refine ws_Ald (j := T) (v := ni_z ((A (p + 6) (T)) + (100 * (A (p + 5) (T))))) rfl h3 (ni_o5_6 hs hk).1 (ni_o5_6 hs hk).2.1 (ni_o5_6 hs hk).2.2.1 ⟨by decide, rfl⟩ hT (by omega) (by decide) (ni_LR h3 (ni_o5_6 hs hk).1 (ni_o5_6 hs hk).2.2.2 (by omega)) (congrArg ni_z ((ni_u2n (Or.inl (by omega))).trans (ni_u2e))) rfl ?_
  refine wp_Ld rfl rfl rfl ?_
  refine wp_Ic true rfl (zc_lt_t ⟨by omega, by omega⟩ ⟨by omega, by omega⟩ (by omega)) ?_
  refine wp_Ld rfl rfl rfl ?_
  refine wp_Ld rfl rfl rfl ?_
  refine ws_Get (v := ni_z (A (p) 7)) rfl h3 hs hk rfl rfl (congrArg ni_z ((ni_u2n (Or.inr (by decide))).trans (ni_u2n (Or.inl (by omega))))) ?_
  refine wp_P (g := ni_gPush (.int (1)) 115) rfl (wp_push (z := 1) rfl) ?_
  refine wp_P rfl wp_add ?_
  refine wp_P (g := ni_gPush (.int (4)) 117) rfl (wp_push (z := 4) rfl) ?_
  refine wp_P rfl (wp_I0 (c := (A (p) 7 + 1) % 4) (zi_rem ⟨by omega, by omega⟩ (by omega) (by omega))) ?_
  refine ws_Put rfl h3 hs hk rfl rfl (fun _ => rfl) rfl (fun z => absurd z (by decide)) ?_
  intro M4 h4
  have c4 := ni_clU (j := 7) (x := (A (p) 7 + 1) % 4) c3 hs hk rfl
  clear h3 c3
  refine wp_Ld rfl rfl rfl ?_
  refine wp_P (g := ni_gPush (.int (0)) 123) rfl (wp_push (z := 0) rfl) ?_
  refine ws_Put rfl h4 hs hk rfl rfl (fun _ => rfl) rfl (fun z => absurd z (by decide)) ?_
  intro M5 h5
  have c5 := ni_clU (j := 8) (x := 0) c4 hs hk rfl
  clear h4 c4
  refine wp_Inc (x' := (i : Int) + 1) rfl rfl (zi_inc (z := 1) rfl) rfl ?_
  refine wp_P (g := ni_gGo 2) rfl rfl ?_
  exact ws_Dg h5 c5 k1 rfl
theorem mt_t10 {p T i : Nat} {v : Int} {w2 w3 : Value} (hs : ni_us p = true) (hk : ni_kd p = 5) (hT : A p 7 = T) (hT4 : T < 4) (hi : i < 100) (hd : 0 ≤ A (p + 6) T ∧ A (p + 6) T ≤ 1000) (hw : 0 ≤ A (p + 5) T ∧ A (p + 5) T ≤ 4) (h10 : 0 ≤ A p 10 ∧ A p 10 ≤ 250) {j : Nat} (hj : v = j) (hj2 : (j : Int) < A p 10) (hz : 0 ≤ A (p + 7) j ∧ A (p + 7) j ≤ 2147483647) (h8 : A p 8 = 1) (he : A (p + 6) T < A (p + 7) j / 4096 % 512) (hD : ni_Dc xs St 2 111 (fun ad => [.ref (ad p), ni_z (A p 7)]) A (fun _ => some (ni_z v)) A) {v2 : Int} {A3 : Nat → Nat → Int} (k1 : ni_Dr xs St 2 116 2 (fun ad => [.ref (ad p), ni_z ((i + 1 : Nat) : Int), ni_z v, ni_z (A (p + 7) j / 4096 % 512)]) (ni_u2 (ni_u2 A (p) 7 ((A (p) 7 + 1) % 4)) (p) 8 (0)) (fun _ => some (ni_z v2)) A3) : ni_Dr xs St 2 116 2 (fun ad => [.ref (ad p), ni_z (i : Int), w2, w3]) A (fun _ => some (ni_z v2)) A3 := by
  have h374 := (ni_usT hs).1
  have hz0 : 0 ≤ A (p + 7) j / 4096 % 512 := Int.emod_nonneg _ (by omega)
  have hz1 : A (p + 7) j / 4096 % 512 < 512 := Int.emod_lt_of_pos _ (by omega)
  intro M0 ad rw cp hR
  have h0 : ni_Sx St M0 ad rw cp M0 rw cp A (ni_live A) := ⟨hR, ni_KpR⟩
  have c0 := ni_clR A
  refine wp_Ld rfl rfl rfl ?_
  refine wp_P (g := ni_gPush (.int (100)) 5) rfl (wp_push (z := 100) rfl) ?_
  refine wp_Ic false rfl (zc_ge_f ⟨by omega, by omega⟩ ⟨by omega, by omega⟩ (by omega)) ?_
  refine wp_Ld rfl rfl rfl ?_
  refine wp_Ld rfl rfl rfl ?_
  refine ws_Get (v := ni_z (A (p) 7)) rfl h0 hs hk rfl rfl rfl ?_
  refine ws_V rfl rfl rfl h0 c0 hs hk rfl (Nat.le_of_ble_eq_true rfl) (hD) rfl ?_
  intro M1 rw1 cp1 h1
  have c1 := ni_clR (A)
  clear h0 c0
  refine wp_St rfl rfl rfl ?_
  refine wp_Ld rfl rfl rfl ?_
  refine wp_P (g := ni_gPush (.int (-1)) 19) rfl (wp_push (z := -1) rfl) ?_
  refine wp_Ic true rfl (zc_ne_t ⟨by omega, by omega⟩ ⟨by omega, by omega⟩ (by omega)) ?_
  refine wp_Ld rfl rfl rfl ?_
  refine ws_Get (v := ni_z (A (p) 8)) rfl h1 hs hk rfl rfl rfl ?_
  refine wp_If true rfl (zf_ne_t ⟨by omega, by omega⟩ (by omega)) ?_
  refine wp_Ld rfl rfl rfl ?_
  refine ws_Get (v := .ref (ad (p + 7))) rfl h1 hs hk rfl rfl rfl ?_
  refine wp_Ld rfl rfl rfl ?_
  refine ws_Ald (j := j) (v := ni_z (A (p + 7) (j))) rfl h1 (ni_o5_7 hs hk).1 (ni_o5_7 hs hk).2.1 (ni_o5_7 hs hk).2.2.1 ⟨by decide, rfl⟩ hj (by omega) (by decide) (ni_LQ (ni_o5_7 hs hk).2.2.2 (by omega) (by omega)) rfl rfl ?_
  refine ws_P rfl (Nat.le_of_ble_eq_true rfl) rfl rfl (Nat.le_of_ble_eq_true rfl) (ni_PuUp (mt_sizeOf hz) (by decide)) ?_
  refine wp_St rfl rfl rfl ?_
  refine wp_Ld rfl rfl rfl ?_
  refine ws_Get (v := .ref (ad (p + 6))) rfl h1 hs hk rfl rfl rfl ?_
  refine wp_Ld rfl rfl rfl ?_
  refine ws_Get (v := ni_z (A (p) 7)) rfl h1 hs hk rfl rfl rfl ?_
  refine ws_Ald (j := T) (v := ni_z (A (p + 6) (T))) rfl h1 (ni_o5_6 hs hk).1 (ni_o5_6 hs hk).2.1 (ni_o5_6 hs hk).2.2.1 ⟨by decide, rfl⟩ hT (by omega) (by decide) (ni_LR h1 (ni_o5_6 hs hk).1 (ni_o5_6 hs hk).2.2.2 (by omega)) rfl rfl ?_
  refine wp_Ld rfl rfl rfl ?_
  refine wp_Ic true rfl (zc_lt_t ⟨by omega, by omega⟩ ⟨by omega, by omega⟩ (by omega)) ?_
  refine wp_Ld rfl rfl rfl ?_
  refine wp_Ld rfl rfl rfl ?_
  refine ws_Get (v := ni_z (A (p) 7)) rfl h1 hs hk rfl rfl rfl ?_
  refine wp_P (g := ni_gPush (.int (1)) 115) rfl (wp_push (z := 1) rfl) ?_
  refine wp_P rfl wp_add ?_
  refine wp_P (g := ni_gPush (.int (4)) 117) rfl (wp_push (z := 4) rfl) ?_
  refine wp_P rfl (wp_I0 (c := (A (p) 7 + 1) % 4) (zi_rem ⟨by omega, by omega⟩ (by omega) (by omega))) ?_
  refine ws_Put rfl h1 hs hk rfl rfl (fun _ => rfl) rfl (fun z => absurd z (by decide)) ?_
  intro M2 h2
  have c2 := ni_clU (j := 7) (x := (A (p) 7 + 1) % 4) c1 hs hk rfl
  clear h1 c1
  refine wp_Ld rfl rfl rfl ?_
  refine wp_P (g := ni_gPush (.int (0)) 123) rfl (wp_push (z := 0) rfl) ?_
  refine ws_Put rfl h2 hs hk rfl rfl (fun _ => rfl) rfl (fun z => absurd z (by decide)) ?_
  intro M3 h3
  have c3 := ni_clU (j := 8) (x := 0) c2 hs hk rfl
  clear h2 c2
  refine wp_Inc (x' := (i : Int) + 1) rfl rfl (zi_inc (z := 1) rfl) rfl ?_
  refine wp_P (g := ni_gGo 2) rfl rfl ?_
  exact ws_Dg h3 c3 k1 rfl
theorem mt_t01 {p T i : Nat} {v : Int} {w2 w3 : Value} (hs : ni_us p = true) (hk : ni_kd p = 5) (hT : A p 7 = T) (hT4 : T < 4) (hi : i < 100) (hd : 0 ≤ A (p + 6) T ∧ A (p + 6) T ≤ 1000) (hw : 0 ≤ A (p + 5) T ∧ A (p + 5) T ≤ 4) (h10 : 0 ≤ A p 10 ∧ A p 10 ≤ 250) {j : Nat} (hj : v = j) (hj2 : (j : Int) < A p 10) (hz : 0 ≤ A (p + 7) j ∧ A (p + 7) j ≤ 2147483647) (h8 : A p 8 = 0) (he : A (p + 7) j / 4096 % 512 ≤ A (p + 6) T + 100 * A (p + 5) T) (hD : ni_Dc xs St 2 111 (fun ad => [.ref (ad p), ni_z (A p 7)]) A (fun _ => some (ni_z v)) A) : ni_Dr xs St 2 116 2 (fun ad => [.ref (ad p), ni_z (i : Int), w2, w3]) A (fun _ => some (ni_z v)) (ni_u2 (ni_u2 (ni_u2 A (p + 6) (T) ((A (p + 6) (T)) + (100 * (A (p + 5) (T))))) (p) 8 (1)) (p + 6) (T) (((A (p + 6) (T)) + (100 * (A (p + 5) (T)))) - (A (p + 7) j / 4096 % 512))) := by
  have h374 := (ni_usT hs).1
  have hz0 : 0 ≤ A (p + 7) j / 4096 % 512 := Int.emod_nonneg _ (by omega)
  have hz1 : A (p + 7) j / 4096 % 512 < 512 := Int.emod_lt_of_pos _ (by omega)
  intro M0 ad rw cp hR
  have h0 : ni_Sx St M0 ad rw cp M0 rw cp A (ni_live A) := ⟨hR, ni_KpR⟩
  have c0 := ni_clR A
  refine wp_Ld rfl rfl rfl ?_
  refine wp_P (g := ni_gPush (.int (100)) 5) rfl (wp_push (z := 100) rfl) ?_
  refine wp_Ic false rfl (zc_ge_f ⟨by omega, by omega⟩ ⟨by omega, by omega⟩ (by omega)) ?_
  refine wp_Ld rfl rfl rfl ?_
  refine wp_Ld rfl rfl rfl ?_
  refine ws_Get (v := ni_z (A (p) 7)) rfl h0 hs hk rfl rfl rfl ?_
  refine ws_V rfl rfl rfl h0 c0 hs hk rfl (Nat.le_of_ble_eq_true rfl) (hD) rfl ?_
  intro M1 rw1 cp1 h1
  have c1 := ni_clR (A)
  clear h0 c0
  refine wp_St rfl rfl rfl ?_
  refine wp_Ld rfl rfl rfl ?_
  refine wp_P (g := ni_gPush (.int (-1)) 19) rfl (wp_push (z := -1) rfl) ?_
  refine wp_Ic true rfl (zc_ne_t ⟨by omega, by omega⟩ ⟨by omega, by omega⟩ (by omega)) ?_
  refine wp_Ld rfl rfl rfl ?_
  refine ws_Get (v := ni_z (A (p) 8)) rfl h1 hs hk rfl rfl rfl ?_
  refine wp_If false rfl (zf_ne_f ⟨by omega, by omega⟩ (by omega)) ?_
  refine wp_Ld rfl rfl rfl ?_
  refine ws_Get (v := .ref (ad (p + 6))) rfl h1 hs hk rfl rfl rfl ?_
  refine wp_Ld rfl rfl rfl ?_
  refine ws_Get (v := ni_z (A (p) 7)) rfl h1 hs hk rfl rfl rfl ?_
  refine wp_P (g := ni_gDup2 51) rfl rfl ?_
  refine ws_Ald (j := T) (v := ni_z (A (p + 6) (T))) rfl h1 (ni_o5_6 hs hk).1 (ni_o5_6 hs hk).2.1 (ni_o5_6 hs hk).2.2.1 ⟨by decide, rfl⟩ hT (by omega) (by decide) (ni_LR h1 (ni_o5_6 hs hk).1 (ni_o5_6 hs hk).2.2.2 (by omega)) rfl rfl ?_
  refine wp_P (g := ni_gPush (.int (100)) 54) rfl (wp_push (z := 100) rfl) ?_
  refine wp_Ld rfl rfl rfl ?_
  refine ws_Get (v := .ref (ad (p + 5))) rfl h1 hs hk rfl rfl rfl ?_
  refine wp_Ld rfl rfl rfl ?_
  refine ws_Get (v := ni_z (A (p) 7)) rfl h1 hs hk rfl rfl rfl ?_
  refine ws_Ald (j := T) (v := ni_z (A (p + 5) (T))) rfl h1 (ni_o5_5 hs hk).1 (ni_o5_5 hs hk).2.1 (ni_o5_5 hs hk).2.2.1 ⟨by decide, rfl⟩ hT (by omega) (by decide) (ni_LR h1 (ni_o5_5 hs hk).1 (ni_o5_5 hs hk).2.2.2 (by omega)) rfl rfl ?_
  refine wp_P rfl wp_mul ?_
  refine wp_P rfl wp_add ?_
  refine ws_Ast (j := T) (x := (A (p + 6) (T)) + (100 * (A (p + 5) (T)))) rfl h1 (ni_o5_6 hs hk).1 (ni_o5_6 hs hk).2.1 (ni_o5_6 hs hk).2.2.1 ⟨by decide, rfl⟩ hT (by omega) (by decide) (Or.inl rfl) (congrArg ni_z ni_u2e.symm) ⟨rfl, rfl⟩ ?_
  intro M2 h2
  have c2 := ni_clU (j := T) (x := (A (p + 6) (T)) + (100 * (A (p + 5) (T)))) c1 (ni_o5_6 hs hk).1 (ni_o5_6 hs hk).2.1 rfl
  clear h1 c1
  refine wp_Ld rfl rfl rfl ?_
  refine wp_P (g := ni_gPush (.int (1)) 68) rfl (wp_push (z := 1) rfl) ?_
  refine ws_Put rfl h2 hs hk rfl rfl (fun _ => rfl) rfl (fun z => absurd z (by decide)) ?_
  intro M3 h3
  have c3 := ni_clU (j := 8) (x := 1) c2 hs hk rfl
  clear h2 c2
  refine wp_Ld rfl rfl rfl ?_
  refine ws_Get (v := .ref (ad (p + 7))) rfl h3 hs hk rfl rfl rfl ?_
  refine wp_Ld rfl rfl rfl ?_
  refine ws_Ald (j := j) (v := ni_z (A (p + 7) (j))) rfl h3 (ni_o5_7 hs hk).1 (ni_o5_7 hs hk).2.1 (ni_o5_7 hs hk).2.2.1 ⟨by decide, rfl⟩ hj (by omega) (by decide) (ni_LQ (ni_o5_7 hs hk).2.2.2 (by omega) (by omega)) (congrArg ni_z ((ni_u2n (Or.inl (by omega))).trans (ni_u2n (Or.inl (by omega))))) rfl ?_
  refine ws_P rfl (Nat.le_of_ble_eq_true rfl) rfl rfl (Nat.le_of_ble_eq_true rfl) (ni_PuUp (mt_sizeOf hz) (by decide)) ?_
  refine wp_St rfl rfl rfl ?_
  refine wp_Ld rfl rfl rfl ?_
  refine ws_Get (v := .ref (ad (p + 6))) rfl h3 hs hk rfl rfl rfl ?_
  refine wp_Ld rfl rfl rfl ?_
  refine ws_Get (v := ni_z (A (p) 7)) rfl h3 hs hk rfl rfl (congrArg ni_z ((ni_u2n (Or.inr (by decide))).trans (ni_u2n (Or.inl (by omega))))) ?_
  refine ws_Ald (j := T) (v := ni_z ((A (p + 6) (T)) + (100 * (A (p + 5) (T))))) rfl h3 (ni_o5_6 hs hk).1 (ni_o5_6 hs hk).2.1 (ni_o5_6 hs hk).2.2.1 ⟨by decide, rfl⟩ hT (by omega) (by decide) (ni_LR h3 (ni_o5_6 hs hk).1 (ni_o5_6 hs hk).2.2.2 (by omega)) (congrArg ni_z ((ni_u2n (Or.inl (by omega))).trans (ni_u2e))) rfl ?_
  refine wp_Ld rfl rfl rfl ?_
  refine wp_Ic false rfl (zc_lt_f ⟨by omega, by omega⟩ ⟨by omega, by omega⟩ (by omega)) ?_
  refine wp_Ld rfl rfl rfl ?_
  refine ws_Get (v := .ref (ad (p + 6))) rfl h3 hs hk rfl rfl rfl ?_
  refine wp_Ld rfl rfl rfl ?_
  refine ws_Get (v := ni_z (A (p) 7)) rfl h3 hs hk rfl rfl (congrArg ni_z ((ni_u2n (Or.inr (by decide))).trans (ni_u2n (Or.inl (by omega))))) ?_
  refine wp_P (g := ni_gDup2 103) rfl rfl ?_
  refine ws_Ald (j := T) (v := ni_z ((A (p + 6) (T)) + (100 * (A (p + 5) (T))))) rfl h3 (ni_o5_6 hs hk).1 (ni_o5_6 hs hk).2.1 (ni_o5_6 hs hk).2.2.1 ⟨by decide, rfl⟩ hT (by omega) (by decide) (ni_LR h3 (ni_o5_6 hs hk).1 (ni_o5_6 hs hk).2.2.2 (by omega)) (congrArg ni_z ((ni_u2n (Or.inl (by omega))).trans (ni_u2e))) rfl ?_
  refine wp_Ld rfl rfl rfl ?_
  refine wp_P rfl wp_sub ?_
  refine ws_Ast (j := T) (x := ((A (p + 6) (T)) + (100 * (A (p + 5) (T)))) - (A (p + 7) j / 4096 % 512)) rfl h3 (ni_o5_6 hs hk).1 (ni_o5_6 hs hk).2.1 (ni_o5_6 hs hk).2.2.1 ⟨by decide, rfl⟩ hT (by omega) (by decide) (Or.inl rfl) (congrArg ni_z ni_u2e.symm) ⟨rfl, rfl⟩ ?_
  intro M4 h4
  have c4 := ni_clU (j := T) (x := ((A (p + 6) (T)) + (100 * (A (p + 5) (T)))) - (A (p + 7) j / 4096 % 512)) c3 (ni_o5_6 hs hk).1 (ni_o5_6 hs hk).2.1 rfl
  clear h3 c3
  refine wp_Ld rfl rfl rfl ?_
  exact ws_R (v := fun _ => some (ni_z v)) rfl rfl h4 c4 rfl
theorem mt_t11 {p T i : Nat} {v : Int} {w2 w3 : Value} (hs : ni_us p = true) (hk : ni_kd p = 5) (hT : A p 7 = T) (hT4 : T < 4) (hi : i < 100) (hd : 0 ≤ A (p + 6) T ∧ A (p + 6) T ≤ 1000) (hw : 0 ≤ A (p + 5) T ∧ A (p + 5) T ≤ 4) (h10 : 0 ≤ A p 10 ∧ A p 10 ≤ 250) {j : Nat} (hj : v = j) (hj2 : (j : Int) < A p 10) (hz : 0 ≤ A (p + 7) j ∧ A (p + 7) j ≤ 2147483647) (h8 : A p 8 = 1) (he : A (p + 7) j / 4096 % 512 ≤ A (p + 6) T) (hD : ni_Dc xs St 2 111 (fun ad => [.ref (ad p), ni_z (A p 7)]) A (fun _ => some (ni_z v)) A) : ni_Dr xs St 2 116 2 (fun ad => [.ref (ad p), ni_z (i : Int), w2, w3]) A (fun _ => some (ni_z v)) (ni_u2 A (p + 6) (T) ((A (p + 6) (T)) - (A (p + 7) j / 4096 % 512))) := by
  have h374 := (ni_usT hs).1
  have hz0 : 0 ≤ A (p + 7) j / 4096 % 512 := Int.emod_nonneg _ (by omega)
  have hz1 : A (p + 7) j / 4096 % 512 < 512 := Int.emod_lt_of_pos _ (by omega)
  intro M0 ad rw cp hR
  have h0 : ni_Sx St M0 ad rw cp M0 rw cp A (ni_live A) := ⟨hR, ni_KpR⟩
  have c0 := ni_clR A
  refine wp_Ld rfl rfl rfl ?_
  refine wp_P (g := ni_gPush (.int (100)) 5) rfl (wp_push (z := 100) rfl) ?_
  refine wp_Ic false rfl (zc_ge_f ⟨by omega, by omega⟩ ⟨by omega, by omega⟩ (by omega)) ?_
  refine wp_Ld rfl rfl rfl ?_
  refine wp_Ld rfl rfl rfl ?_
  refine ws_Get (v := ni_z (A (p) 7)) rfl h0 hs hk rfl rfl rfl ?_
  refine ws_V rfl rfl rfl h0 c0 hs hk rfl (Nat.le_of_ble_eq_true rfl) (hD) rfl ?_
  intro M1 rw1 cp1 h1
  have c1 := ni_clR (A)
  clear h0 c0
  refine wp_St rfl rfl rfl ?_
  refine wp_Ld rfl rfl rfl ?_
  refine wp_P (g := ni_gPush (.int (-1)) 19) rfl (wp_push (z := -1) rfl) ?_
  refine wp_Ic true rfl (zc_ne_t ⟨by omega, by omega⟩ ⟨by omega, by omega⟩ (by omega)) ?_
  refine wp_Ld rfl rfl rfl ?_
  refine ws_Get (v := ni_z (A (p) 8)) rfl h1 hs hk rfl rfl rfl ?_
  refine wp_If true rfl (zf_ne_t ⟨by omega, by omega⟩ (by omega)) ?_
  refine wp_Ld rfl rfl rfl ?_
  refine ws_Get (v := .ref (ad (p + 7))) rfl h1 hs hk rfl rfl rfl ?_
  refine wp_Ld rfl rfl rfl ?_
  refine ws_Ald (j := j) (v := ni_z (A (p + 7) (j))) rfl h1 (ni_o5_7 hs hk).1 (ni_o5_7 hs hk).2.1 (ni_o5_7 hs hk).2.2.1 ⟨by decide, rfl⟩ hj (by omega) (by decide) (ni_LQ (ni_o5_7 hs hk).2.2.2 (by omega) (by omega)) rfl rfl ?_
  refine ws_P rfl (Nat.le_of_ble_eq_true rfl) rfl rfl (Nat.le_of_ble_eq_true rfl) (ni_PuUp (mt_sizeOf hz) (by decide)) ?_
  refine wp_St rfl rfl rfl ?_
  refine wp_Ld rfl rfl rfl ?_
  refine ws_Get (v := .ref (ad (p + 6))) rfl h1 hs hk rfl rfl rfl ?_
  refine wp_Ld rfl rfl rfl ?_
  refine ws_Get (v := ni_z (A (p) 7)) rfl h1 hs hk rfl rfl rfl ?_
  refine ws_Ald (j := T) (v := ni_z (A (p + 6) (T))) rfl h1 (ni_o5_6 hs hk).1 (ni_o5_6 hs hk).2.1 (ni_o5_6 hs hk).2.2.1 ⟨by decide, rfl⟩ hT (by omega) (by decide) (ni_LR h1 (ni_o5_6 hs hk).1 (ni_o5_6 hs hk).2.2.2 (by omega)) rfl rfl ?_
  refine wp_Ld rfl rfl rfl ?_
  refine wp_Ic false rfl (zc_lt_f ⟨by omega, by omega⟩ ⟨by omega, by omega⟩ (by omega)) ?_
  refine wp_Ld rfl rfl rfl ?_
  refine ws_Get (v := .ref (ad (p + 6))) rfl h1 hs hk rfl rfl rfl ?_
  refine wp_Ld rfl rfl rfl ?_
  refine ws_Get (v := ni_z (A (p) 7)) rfl h1 hs hk rfl rfl rfl ?_
  refine wp_P (g := ni_gDup2 103) rfl rfl ?_
  refine ws_Ald (j := T) (v := ni_z (A (p + 6) (T))) rfl h1 (ni_o5_6 hs hk).1 (ni_o5_6 hs hk).2.1 (ni_o5_6 hs hk).2.2.1 ⟨by decide, rfl⟩ hT (by omega) (by decide) (ni_LR h1 (ni_o5_6 hs hk).1 (ni_o5_6 hs hk).2.2.2 (by omega)) rfl rfl ?_
  refine wp_Ld rfl rfl rfl ?_
  refine wp_P rfl wp_sub ?_
  refine ws_Ast (j := T) (x := (A (p + 6) (T)) - (A (p + 7) j / 4096 % 512)) rfl h1 (ni_o5_6 hs hk).1 (ni_o5_6 hs hk).2.1 (ni_o5_6 hs hk).2.2.1 ⟨by decide, rfl⟩ hT (by omega) (by decide) (Or.inl rfl) (congrArg ni_z ni_u2e.symm) ⟨rfl, rfl⟩ ?_
  intro M2 h2
  have c2 := ni_clU (j := T) (x := (A (p + 6) (T)) - (A (p + 7) j / 4096 % 512)) c1 (ni_o5_6 hs hk).1 (ni_o5_6 hs hk).2.1 rfl
  clear h1 c1
  refine wp_Ld rfl rfl rfl ?_
  exact ws_R (v := fun _ => some (ni_z v)) rfl rfl h2 c2 rfl
theorem mt_turnL {p : Nat} (hs : ni_us p = true) (hk : ni_kd p = 5) : ∀ k i : Nat, i + k = 100 → ∀ (A : Nat → Nat → Int) (w2 w3 : Value), ni_PT A p → (0 ≤ A p 10 ∧ A p 10 ≤ 250) → (∀ i : Nat, (i : Int) < A p 10 → 0 ≤ A (p + 7) i ∧ A (p + 7) i ≤ 2147483647) → ∃ (v : Int) (A2 : Nat → Nat → Int), ni_Dr xs St 2 116 2 (fun ad => [.ref (ad p), ni_z (i : Int), w2, w3]) A (fun _ => some (ni_z v)) A2 ∧ (v = -1 ∨ (0 ≤ v ∧ v < A p 10)) ∧ ni_fT A A2 p ∧ ni_PT A2 p := by
  have h374 := (ni_usT hs).1
  intro k
  induction k with
  | zero =>
    intro i hi A w2 w3 hPT hn hq
    have hin : i = 100 := by omega
    subst hin
    refine ⟨-1, A, ?_, Or.inl rfl, ni_fTr, hPT⟩
    · intro M0 ad rw cp hR
      have h0 : ni_Sx St M0 ad rw cp M0 rw cp A (ni_live A) := ⟨hR, ni_KpR⟩
      have c0 := ni_clR A
      refine wp_Ld rfl rfl rfl ?_
      refine wp_P (g := ni_gPush (.int (100)) 5) rfl (wp_push (z := 100) rfl) ?_
      refine wp_Ic true rfl (zc_ge_t ⟨by omega, by omega⟩ ⟨by omega, by omega⟩ (by omega)) ?_
      refine wp_P (g := ni_gPush (.int (-1)) 133) rfl (wp_push (z := -1) rfl) ?_
      exact ws_R (v := fun _ => some (ni_z (-1))) rfl rfl h0 c0 rfl
  | succ k ih =>
    intro i hi A w2 w3 hPT hn hq
    have key : ∀ (A2 : Nat → Nat → Int) (u2 u3 : Value), ni_fT A A2 p → ni_PT A2 p → ∃ (v2 : Int) (A3 : Nat → Nat → Int), ni_Dr xs St 2 116 2 (fun ad => [.ref (ad p), ni_z ((i + 1 : Nat) : Int), u2, u3]) A2 (fun _ => some (ni_z v2)) A3 ∧ (v2 = -1 ∨ (0 ≤ v2 ∧ v2 < A p 10)) ∧ ni_fT A A3 p ∧ ni_PT A3 p := by
      intro A2 u2 u3 hf hP
      have q := ni_fTq hf
      obtain ⟨v2, A3, k1, k2, k3, k4⟩ := ih (i + 1) (by omega) A2 u2 u3 hP (by rw [q.1]; exact hn) (fun i hi => by rw [q.2.1]; exact hq i (by rw [← q.1]; exact hi))
      rw [q.1] at k2
      exact ⟨v2, A3, k1, k2, ni_fTt hf k3, k4⟩
    have hPT' := hPT
    obtain ⟨g1, g2, g3⟩ := hPT'
    obtain ⟨T, hT⟩ := Int.eq_ofNat_of_zero_le g1.1
    have gT := g3 T (by omega)
    obtain ⟨v, hD, hv⟩ := mt_first (xs := xs) (St := St) (c := A p 7) g1 hn hq hs hk
    rcases hv with ⟨hv1, -⟩ | ⟨j, hj, hj2, -⟩
    · have hu : True := trivial
      have hf : ni_fT A (ni_u2 (ni_u2 (ni_u2 A (p + 6) (T) (0)) (p) 7 ((A (p) 7 + 1) % 4)) (p) 8 (0)) p := (ni_fTv (Or.inr rfl) (ni_fTv (Or.inl rfl) (ni_fTu (ni_fTr))))
      have hdT : (ni_u2 (ni_u2 (ni_u2 A (p + 6) (T) (0)) (p) 7 ((A (p) 7 + 1) % 4)) (p) 8 (0)) (p + 6) T = 0 := (ni_u2n (Or.inl (by omega))).trans ((ni_u2n (Or.inl (by omega))).trans ni_u2e)
      obtain ⟨v2, A3, k1, k2, k3, k4⟩ := key (ni_u2 (ni_u2 (ni_u2 A (p + 6) (T) (0)) (p) 7 ((A (p) 7 + 1) % 4)) (p) 8 (0)) (ni_z v) w3 hf (ni_PTn hPT hT hf ((ni_u2n (Or.inr (by decide))).trans ni_u2e) ni_u2e (by omega) (fun j2 hj2 => (ni_u2n (Or.inl (by omega))).trans ((ni_u2n (Or.inl (by omega))).trans (ni_u2n (Or.inr hj2)))))
      exact ⟨v2, A3, mt_tn hs hk hT (by omega) (by omega) hv1 hD k1, k2, k3, k4⟩
    · have hz0 : 0 ≤ A (p + 7) j / 4096 % 512 := Int.emod_nonneg _ (by omega)
      have hz1 : A (p + 7) j / 4096 % 512 < 512 := Int.emod_lt_of_pos _ (by omega)
      by_cases h8 : A p 8 = 0
      · rw [if_neg (by omega)] at gT
        by_cases hen : A (p + 7) j / 4096 % 512 ≤ A (p + 6) T + 100 * A (p + 5) T
        · have hdT : (ni_u2 (ni_u2 (ni_u2 A (p + 6) (T) ((A (p + 6) (T)) + (100 * (A (p + 5) (T))))) (p) 8 (1)) (p + 6) (T) (((A (p + 6) (T)) + (100 * (A (p + 5) (T)))) - (A (p + 7) j / 4096 % 512))) (p + 6) T = A (p + 6) T + 100 * A (p + 5) T - A (p + 7) j / 4096 % 512 := ni_u2e
          have e7 : (ni_u2 (ni_u2 (ni_u2 A (p + 6) (T) ((A (p + 6) (T)) + (100 * (A (p + 5) (T))))) (p) 8 (1)) (p + 6) (T) (((A (p + 6) (T)) + (100 * (A (p + 5) (T)))) - (A (p + 7) j / 4096 % 512))) p 7 = A p 7 := (ni_u2n (Or.inl (by omega))).trans ((ni_u2n (Or.inr (by decide))).trans (ni_u2n (Or.inl (by omega))))
          have e8 : (ni_u2 (ni_u2 (ni_u2 A (p + 6) (T) ((A (p + 6) (T)) + (100 * (A (p + 5) (T))))) (p) 8 (1)) (p + 6) (T) (((A (p + 6) (T)) + (100 * (A (p + 5) (T)))) - (A (p + 7) j / 4096 % 512))) p 8 = 1 := (ni_u2n (Or.inl (by omega))).trans ni_u2e
          have hf : ni_fT A (ni_u2 (ni_u2 (ni_u2 A (p + 6) (T) ((A (p + 6) (T)) + (100 * (A (p + 5) (T))))) (p) 8 (1)) (p + 6) (T) (((A (p + 6) (T)) + (100 * (A (p + 5) (T)))) - (A (p + 7) j / 4096 % 512))) p := (ni_fTu (ni_fTv (Or.inr rfl) (ni_fTu (ni_fTr))))
          have ho : ∀ j2, j2 ≠ T → (ni_u2 (ni_u2 (ni_u2 A (p + 6) (T) ((A (p + 6) (T)) + (100 * (A (p + 5) (T))))) (p) 8 (1)) (p + 6) (T) (((A (p + 6) (T)) + (100 * (A (p + 5) (T)))) - (A (p + 7) j / 4096 % 512))) (p + 6) j2 = A (p + 6) j2 := fun j2 hj2 => (ni_u2n (Or.inr hj2)).trans ((ni_u2n (Or.inl (by omega))).trans (ni_u2n (Or.inr hj2)))
          refine ⟨v, (ni_u2 (ni_u2 (ni_u2 A (p + 6) (T) ((A (p + 6) (T)) + (100 * (A (p + 5) (T))))) (p) 8 (1)) (p + 6) (T) (((A (p + 6) (T)) + (100 * (A (p + 5) (T)))) - (A (p + 7) j / 4096 % 512))), mt_t01 hs hk hT (by omega) (by omega) (by omega) (by omega) hn hj hj2 (hq j hj2) h8 hen hD, Or.inr (by omega), hf, ⟨by rw [e7]; exact g1, Or.inr e8, fun j2 hj2 => ⟨?_, ?_⟩⟩⟩
          · rw [hf (p + 5) j2 (by omega) (by omega)]
            exact (g3 j2 hj2).1
          · by_cases e : j2 = T
            · rw [e, if_pos ⟨e8, by rw [e7]; exact hT⟩]
              omega
            · rw [ho j2 e, if_neg (by omega)]
              have := (g3 j2 hj2).2
              rw [if_neg (by omega)] at this
              exact this
        · have hf : ni_fT A (ni_u2 (ni_u2 (ni_u2 (ni_u2 A (p + 6) (T) ((A (p + 6) (T)) + (100 * (A (p + 5) (T))))) (p) 8 (1)) (p) 7 ((A (p) 7 + 1) % 4)) (p) 8 (0)) p := (ni_fTv (Or.inr rfl) (ni_fTv (Or.inl rfl) (ni_fTv (Or.inr rfl) (ni_fTu (ni_fTr)))))
          have hdT : (ni_u2 (ni_u2 (ni_u2 (ni_u2 A (p + 6) (T) ((A (p + 6) (T)) + (100 * (A (p + 5) (T))))) (p) 8 (1)) (p) 7 ((A (p) 7 + 1) % 4)) (p) 8 (0)) (p + 6) T = A (p + 6) T + 100 * A (p + 5) T := (ni_u2n (Or.inl (by omega))).trans ((ni_u2n (Or.inl (by omega))).trans ((ni_u2n (Or.inl (by omega))).trans ni_u2e))
          obtain ⟨v2, A3, k1, k2, k3, k4⟩ := key (ni_u2 (ni_u2 (ni_u2 (ni_u2 A (p + 6) (T) ((A (p + 6) (T)) + (100 * (A (p + 5) (T))))) (p) 8 (1)) (p) 7 ((A (p) 7 + 1) % 4)) (p) 8 (0)) (ni_z v) (ni_z (A (p + 7) j / 4096 % 512)) hf (ni_PTn hPT hT hf ((ni_u2n (Or.inr (by decide))).trans ni_u2e) ni_u2e (by omega) (fun j2 hj2 => (ni_u2n (Or.inl (by omega))).trans ((ni_u2n (Or.inl (by omega))).trans ((ni_u2n (Or.inl (by omega))).trans (ni_u2n (Or.inr hj2))))))
          exact ⟨v2, A3, mt_t00 hs hk hT (by omega) (by omega) (by omega) (by omega) hn hj hj2 (hq j hj2) h8 (by omega) hD k1, k2, k3, k4⟩
      · have h81 : A p 8 = 1 := by omega
        rw [if_pos ⟨h81, hT⟩] at gT
        by_cases hen : A (p + 7) j / 4096 % 512 ≤ A (p + 6) T
        · have hdT : (ni_u2 A (p + 6) (T) ((A (p + 6) (T)) - (A (p + 7) j / 4096 % 512))) (p + 6) T = A (p + 6) T - A (p + 7) j / 4096 % 512 := ni_u2e
          have e7 : (ni_u2 A (p + 6) (T) ((A (p + 6) (T)) - (A (p + 7) j / 4096 % 512))) p 7 = A p 7 := (ni_u2n (Or.inl (by omega)))
          have e8 : (ni_u2 A (p + 6) (T) ((A (p + 6) (T)) - (A (p + 7) j / 4096 % 512))) p 8 = 1 := (ni_u2n (Or.inl (by omega))).trans h81
          have hf : ni_fT A (ni_u2 A (p + 6) (T) ((A (p + 6) (T)) - (A (p + 7) j / 4096 % 512))) p := (ni_fTu (ni_fTr))
          have ho : ∀ j2, j2 ≠ T → (ni_u2 A (p + 6) (T) ((A (p + 6) (T)) - (A (p + 7) j / 4096 % 512))) (p + 6) j2 = A (p + 6) j2 := fun j2 hj2 => (ni_u2n (Or.inr hj2))
          refine ⟨v, (ni_u2 A (p + 6) (T) ((A (p + 6) (T)) - (A (p + 7) j / 4096 % 512))), mt_t11 hs hk hT (by omega) (by omega) (by omega) (by omega) hn hj hj2 (hq j hj2) h81 hen hD, Or.inr (by omega), hf, ⟨by rw [e7]; exact g1, Or.inr e8, fun j2 hj2 => ⟨?_, ?_⟩⟩⟩
          · rw [hf (p + 5) j2 (by omega) (by omega)]
            exact (g3 j2 hj2).1
          · by_cases e : j2 = T
            · rw [e, if_pos ⟨e8, by rw [e7]; exact hT⟩]
              omega
            · rw [ho j2 e, if_neg (by omega)]
              have := (g3 j2 hj2).2
              rw [if_neg (by omega)] at this
              exact this
        · have hf : ni_fT A (ni_u2 (ni_u2 A (p) 7 ((A (p) 7 + 1) % 4)) (p) 8 (0)) p := (ni_fTv (Or.inr rfl) (ni_fTv (Or.inl rfl) (ni_fTr)))
          have hdT : (ni_u2 (ni_u2 A (p) 7 ((A (p) 7 + 1) % 4)) (p) 8 (0)) (p + 6) T = A (p + 6) T := (ni_u2n (Or.inl (by omega))).trans (ni_u2n (Or.inl (by omega)))
          obtain ⟨v2, A3, k1, k2, k3, k4⟩ := key (ni_u2 (ni_u2 A (p) 7 ((A (p) 7 + 1) % 4)) (p) 8 (0)) (ni_z v) (ni_z (A (p + 7) j / 4096 % 512)) hf (ni_PTn hPT hT hf ((ni_u2n (Or.inr (by decide))).trans ni_u2e) ni_u2e (by omega) (fun j2 hj2 => (ni_u2n (Or.inl (by omega))).trans (ni_u2n (Or.inl (by omega)))))
          exact ⟨v2, A3, mt_t10 hs hk hT (by omega) (by omega) (by omega) (by omega) hn hj hj2 (hq j hj2) h81 (by omega) hD k1, k2, k3, k4⟩
end MPS
