/-! A PORT LOSES ALL -/
section MPW
variable {xs : List Int32} {St : Nat → Option ni_C} {A : Nat → Nat → Int}
theorem ni_p48A : ((List.range 374).all fun s => !(Nat.beq (ni_kd s) 5) || Nat.ble 49 s) = true := by decide +kernel
theorem ni_p48 {p : Nat} (hs : ni_us p = true) (hk : ni_kd p = 5) : 49 ≤ p := by
  have h := List.all_eq_true.mp ni_p48A p (List.mem_range.mpr (ni_usT hs).1)
  rw [hk, show Nat.beq 5 5 = true from rfl, Bool.not_true, Bool.false_or] at h
  exact Nat.le_of_ble_eq_true h
/-- no packet, or one of a flow -/
def ni_pk (x : Int) : Prop := x = -1 ∨ (0 ≤ x ∧ x ≤ 2147483647 ∧ x % 16 < 12)
theorem ni_l1N {x : Int} {s j : Nat} (hx : ni_pk x) (h : 48 ≤ s ∨ j ≠ 6) : ni_l1 A x s j = A s j := by
  unfold ni_l1
  by_cases e : x = -1
  · rw [if_pos e]
  · rw [if_neg e]
    have h1 : x % 16 < 12 := by
      rcases hx with h | h
      · exact absurd h e
      · exact h.2.2
    have h0 : 0 ≤ x % 16 := Int.emod_nonneg _ (by omega)
    refine ni_u2n ?_
    rcases h with h | h
    · exact Or.inl (by omega)
    · exact Or.inr h
/-- the first n of a port's row are lost -/
def ni_lq (A : Nat → Nat → Int) (p : Nat) : Nat → Nat → Nat → Int
  | 0 => A
  | n + 1 => ni_l1 (ni_lq A p n) (A (p + 7) n)
theorem ni_lqN {p s j : Nat} : ∀ n : Nat, (∀ i, i < n → ni_pk (A (p + 7) i)) → (48 ≤ s ∨ j ≠ 6) → ni_lq A p n s j = A s j := by
  intro n
  induction n with
  | zero => exact fun _ _ => rfl
  | succ n ih =>
    intro h hs
    show ni_l1 (ni_lq A p n) (A (p + 7) n) s j = _
    rw [ni_l1N (h n (by omega)) hs]
    exact ih (fun i hi => h i (by omega)) hs
/-- a line loses what lies in a slot -/
def ni_ls1 (B : Nat → Nat → Int) (l n : Nat) : Nat → Nat → Int := if B (l + 3) n = -1 then B else ni_l1 (ni_u2 (ni_u2 B (l + 3) n (-1)) l 4 (B l 4 - 1)) (B (l + 3) n)
def ni_ls (B : Nat → Nat → Int) (l : Nat) : Nat → Nat → Nat → Int
  | 0 => B
  | n + 1 => ni_ls1 (ni_ls B l n) l n
theorem ni_ls1N {B : Nat → Nat → Int} {l n s j : Nat} (hx : ni_pk (B (l + 3) n)) (h : 48 ≤ s ∨ j ≠ 6) (h1 : s ≠ l + 3 ∨ j ≠ n) (h2 : s ≠ l ∨ j ≠ 4) : ni_ls1 B l n s j = B s j := by
  unfold ni_ls1
  by_cases e : B (l + 3) n = -1
  · rw [if_pos e]
  · rw [if_neg e, ni_l1N hx h, ni_u2n h2, ni_u2n h1]
theorem ni_lsN {B : Nat → Nat → Int} {l s j : Nat} (hl : 48 ≤ l) (hB : ∀ i, i < 21 → ni_pk (B (l + 3) i)) : ∀ n : Nat, n ≤ 21 → (48 ≤ s ∨ j ≠ 6) → (s ≠ l + 3 ∨ n ≤ j) → (s ≠ l ∨ j ≠ 4) → ni_ls B l n s j = B s j := by
  intro n
  induction n generalizing s j with
  | zero => exact fun _ _ _ _ => rfl
  | succ n ih =>
    intro hn h h1 h2
    show ni_ls1 (ni_ls B l n) l n s j = _
    rw [ni_ls1N (by rw [ih (by omega) (by omega) (by omega) (by omega)]; exact hB n (by omega)) h (by omega) h2]
    exact ih (by omega) h (by omega) h2
theorem mt_loseS {B : Nat → Nat → Int} {p : Nat} (hs : ni_us p = true) (hk : ni_kd p = 5) (hB : ∀ i, i < 21 → ni_pk (B (p + 1 + 3) i)) : ∀ k i : Nat, i + k = 21 → ni_Dr xs St 2 112 56 (fun ad => [.ref (ad p), .ref (ad 3), ni_z (i : Int)]) (ni_ls B (p + 1) i) (fun _ => none) (ni_cleared (ni_u2 (ni_ls B (p + 1) 21) (p + 1) 2 0) p) := by
  have h374 := (ni_usT hs).1
  have h48 := ni_p48 hs hk
  intro k
  induction k with
  | zero =>
    intro i hi
    have hin : i = 21 := by omega
    subst hin
    intro M0 ad rw cp hR
    have h0 : ni_Sx St M0 ad rw cp M0 rw cp (ni_ls B (p + 1) 21) (ni_live (ni_ls B (p + 1) 21)) := ⟨hR, ni_KpR⟩
    have c0 := ni_clR (ni_ls B (p + 1) 21)
    refine wp_Ld rfl rfl rfl ?_
    refine wp_P (g := ni_gPush (.int (21)) 59) rfl (wp_push (z := 21) rfl) ?_
    refine wp_Ic true rfl (zc_ge_t ⟨by omega, by omega⟩ ⟨by omega, by omega⟩ (by omega)) ?_
    refine wp_Ld rfl rfl rfl ?_
    refine ws_Get (v := .ref (ad (p + 1))) rfl h0 hs hk rfl rfl rfl ?_
    refine wp_P (g := ni_gPush (.int (0)) 85) rfl (wp_push (z := 0) rfl) ?_
    refine ws_Put rfl h0 (ni_o5_1 hs hk).1 (ni_o5_1 hs hk).2.1 rfl rfl (fun _ => rfl) rfl (fun _ _ => (by omega)) ?_
    intro M1 h1
    have c1 := ni_clC (j := 2) (x := 0) c0 (ni_o5_1 hs hk).1 (by omega) (fun s' hs' e' => by rw [ni_liveC e' (by omega)]; omega)
    clear h0 c0
    refine wp_Ld rfl rfl rfl ?_
    refine ws_V rfl rfl rfl h1 c1 hs hk rfl (Nat.le_of_ble_eq_true rfl) (ni_Dup (mt_clear hs hk) (by decide)) rfl ?_
    intro M2 rw2 cp2 h2
    have c2 := ni_clR ((ni_cleared (ni_u2 (ni_ls B (p + 1) 21) (p + 1) 2 0) p))
    clear h1 c1
    exact ws_Rv (v := fun _ => none) rfl rfl h2 c2 rfl
  | succ k ih =>
    intro i hi
    have hx : ni_pk ((ni_ls B (p + 1) i) (p + 1 + 3) i) := by
      rw [ni_lsN (by omega) hB i (by omega) (by omega) (by omega) (by omega)]
      exact hB i (by omega)
    have hJ : ((i : Int) % 21).toNat = i := by omega
    by_cases h1 : (ni_ls B (p + 1) i) (p + 1 + 3) i = -1
    · have gT := mt_take0 (xs := xs) (St := St) (A := (ni_ls B (p + 1) i)) (l := p + 1) (t := (i : Int)) (by omega) (by rw [hJ]; exact h1) (ni_o5_1 hs hk).1 (ni_o5_1 hs hk).2.1
      rw [hJ] at gT
      have gL := mt_lose1 (xs := xs) (St := St) (A := (ni_ls B (p + 1) i)) hx
      have g := ih (i + 1) (by omega)
      have e9 : ni_ls B (p + 1) (i + 1) = ni_l1 (ni_ls B (p + 1) i) ((ni_ls B (p + 1) i) (p + 1 + 3) i) := by
        show ni_ls1 (ni_ls B (p + 1) i) (p + 1) i = _
        unfold ni_ls1 ni_l1
        rw [if_pos h1, if_pos h1]
      rw [e9] at g
      intro M0 ad rw cp hR
      have h0 : ni_Sx St M0 ad rw cp M0 rw cp (ni_ls B (p + 1) i) (ni_live (ni_ls B (p + 1) i)) := ⟨hR, ni_KpR⟩
      have c0 := ni_clR (ni_ls B (p + 1) i)
      refine wp_Ld rfl rfl rfl ?_
      refine wp_P (g := ni_gPush (.int (21)) 59) rfl (wp_push (z := 21) rfl) ?_
      refine wp_Ic false rfl (zc_ge_f ⟨by omega, by omega⟩ ⟨by omega, by omega⟩ (by omega)) ?_
      refine wp_Ld rfl rfl rfl ?_
      refine wp_Ld rfl rfl rfl ?_
      refine ws_Get (v := .ref (ad (p + 1))) rfl h0 hs hk rfl rfl rfl ?_
      refine wp_Ld rfl rfl rfl ?_
      refine ws_V rfl rfl rfl h0 c0 (ni_o5_1 hs hk).1 (ni_o5_1 hs hk).2.1 rfl (Nat.le_of_ble_eq_true rfl) (gT) rfl ?_
      intro M1 rw1 cp1 h1
      have c1 := ni_clR ((ni_ls B (p + 1) i))
      clear h0 c0
      refine ws_S rfl (Nat.le_of_ble_eq_true rfl) rfl rfl h1 c1 (Nat.le_of_ble_eq_true rfl) (gL) rfl ?_
      intro M2 rw2 cp2 h2
      have c2 := ni_clR ((ni_l1 (ni_ls B (p + 1) i) ((ni_ls B (p + 1) i) (p + 1 + 3) i)))
      clear h1 c1
      refine wp_Inc (x' := (i : Int) + 1) rfl rfl (zi_inc (z := 1) rfl) rfl ?_
      refine wp_P (g := ni_gGo 56) rfl rfl ?_
      exact ws_Dg h2 c2 g rfl
    · have hr : ni_R32 ((ni_ls B (p + 1) i) (p + 1 + 3) i) := by
        rcases hx with hx | hx
        · exact absurd hx h1
        · exact ⟨by omega, by omega⟩
      have gT := mt_take1 (xs := xs) (St := St) (A := (ni_ls B (p + 1) i)) (l := p + 1) (t := (i : Int)) (by omega) (by rw [hJ]; exact h1) (by rw [hJ]; exact hr) (ni_o5_1 hs hk).1 (ni_o5_1 hs hk).2.1
      rw [hJ] at gT
      have gL := mt_lose1 (xs := xs) (St := St) (A := (ni_u2 (ni_u2 (ni_ls B (p + 1) i) (p + 1 + 3) i (-1)) (p + 1) 4 ((ni_ls B (p + 1) i) (p + 1) 4 - 1))) hx
      have g := ih (i + 1) (by omega)
      have e9 : ni_ls B (p + 1) (i + 1) = ni_l1 (ni_u2 (ni_u2 (ni_ls B (p + 1) i) (p + 1 + 3) i (-1)) (p + 1) 4 ((ni_ls B (p + 1) i) (p + 1) 4 - 1)) ((ni_ls B (p + 1) i) (p + 1 + 3) i) := by
        show ni_ls1 (ni_ls B (p + 1) i) (p + 1) i = _
        unfold ni_ls1
        rw [if_neg h1]
      rw [e9] at g
      intro M0 ad rw cp hR
      have h0 : ni_Sx St M0 ad rw cp M0 rw cp (ni_ls B (p + 1) i) (ni_live (ni_ls B (p + 1) i)) := ⟨hR, ni_KpR⟩
      have c0 := ni_clR (ni_ls B (p + 1) i)
      refine wp_Ld rfl rfl rfl ?_
      refine wp_P (g := ni_gPush (.int (21)) 59) rfl (wp_push (z := 21) rfl) ?_
      refine wp_Ic false rfl (zc_ge_f ⟨by omega, by omega⟩ ⟨by omega, by omega⟩ (by omega)) ?_
      refine wp_Ld rfl rfl rfl ?_
      refine wp_Ld rfl rfl rfl ?_
      refine ws_Get (v := .ref (ad (p + 1))) rfl h0 hs hk rfl rfl rfl ?_
      refine wp_Ld rfl rfl rfl ?_
      refine ws_V rfl rfl rfl h0 c0 (ni_o5_1 hs hk).1 (ni_o5_1 hs hk).2.1 rfl (Nat.le_of_ble_eq_true rfl) (gT) rfl ?_
      intro M1 rw1 cp1 h1
      have c1 := ni_clR ((ni_u2 (ni_u2 (ni_ls B (p + 1) i) (p + 1 + 3) i (-1)) (p + 1) 4 ((ni_ls B (p + 1) i) (p + 1) 4 - 1)))
      clear h0 c0
      refine ws_S rfl (Nat.le_of_ble_eq_true rfl) rfl rfl h1 c1 (Nat.le_of_ble_eq_true rfl) (gL) rfl ?_
      intro M2 rw2 cp2 h2
      have c2 := ni_clR ((ni_l1 (ni_u2 (ni_u2 (ni_ls B (p + 1) i) (p + 1 + 3) i (-1)) (p + 1) 4 ((ni_ls B (p + 1) i) (p + 1) 4 - 1)) ((ni_ls B (p + 1) i) (p + 1 + 3) i)))
      clear h1 c1
      refine wp_Inc (x' := (i : Int) + 1) rfl rfl (zi_inc (z := 1) rfl) rfl ?_
      refine wp_P (g := ni_gGo 56) rfl rfl ?_
      exact ws_Dg h2 c2 g rfl
theorem mt_loseQ {p n : Nat} (hs : ni_us p = true) (hk : ni_kd p = 5) (hn : A p 10 = n) (hn1 : n ≤ 250) (hq : ∀ i, i < n → ni_pk (A (p + 7) i)) (hp : ni_pk (A p 12)) (hB : ∀ i, i < 21 → ni_pk (A (p + 1 + 3) i)) : ∀ k i : Nat, i + k = n → ni_Dr xs St 2 112 2 (fun ad => [.ref (ad p), .ref (ad 3), ni_z (i : Int)]) (ni_lq A p i) (fun _ => none) (ni_cleared (ni_u2 (ni_ls (ni_u2 (ni_u2 (ni_l1 (ni_u2 (ni_u2 (ni_lq A p n) p 10 0) p 11 0) (A p 12)) p 12 (-1)) p 13 0) (p + 1) 21) (p + 1) 2 0) p) := by
  have h374 := (ni_usT hs).1
  have h48 := ni_p48 hs hk
  intro k
  induction k with
  | zero =>
    intro i hi
    have hin : i = n := by omega
    subst hin
    have e10 : ni_lq A p i p 10 = A p 10 := ni_lqN i hq (Or.inl (by omega))
    have e12 : ni_lq A p i p 12 = A p 12 := ni_lqN i hq (Or.inl (by omega))
    have hL := mt_lose1 (xs := xs) (St := St) (A := (ni_u2 (ni_u2 (ni_lq A p i) p 10 0) p 11 0)) (x := ni_lq A p i p 12) (by rw [e12]; exact hp)
    rw [show ni_l1 (ni_u2 (ni_u2 (ni_lq A p i) p 10 0) p 11 0) (ni_lq A p i p 12) = ni_l1 (ni_u2 (ni_u2 (ni_lq A p i) p 10 0) p 11 0) (A p 12) by rw [e12]] at hL
    have hS := mt_loseS (xs := xs) (St := St) (B := (ni_u2 (ni_u2 (ni_l1 (ni_u2 (ni_u2 (ni_lq A p i) p 10 0) p 11 0) (A p 12)) p 12 (-1)) p 13 0)) hs hk (fun j hj => by
      rw [ni_u2n (Or.inl (by omega)), ni_u2n (Or.inl (by omega)), ni_l1N hp (Or.inl (by omega)), ni_u2n (Or.inl (by omega)), ni_u2n (Or.inl (by omega)), ni_lqN i hq (Or.inl (by omega))]
      exact hB j hj) 21 0 (by omega)
    intro M0 ad rw cp hR
    have h0 : ni_Sx St M0 ad rw cp M0 rw cp (ni_lq A p i) (ni_live (ni_lq A p i)) := ⟨hR, ni_KpR⟩
    have c0 := ni_clR (ni_lq A p i)
    refine wp_Ld rfl rfl rfl ?_
    refine wp_Ld rfl rfl rfl ?_
    refine ws_Get (v := ni_z ((ni_lq A p i) (p) 10)) rfl h0 hs hk rfl rfl rfl ?_
    refine wp_Ic true rfl (zc_ge_t ⟨by omega, by omega⟩ ⟨by omega, by omega⟩ (by omega)) ?_
    refine wp_Ld rfl rfl rfl ?_
    refine wp_P (g := ni_gPush (.int (0)) 28) rfl (wp_push (z := 0) rfl) ?_
    refine ws_Put rfl h0 hs hk rfl rfl (fun _ => rfl) rfl (fun z => absurd z (by decide)) ?_
    intro M1 h1
    have c1 := ni_clC (j := 10) (x := 0) c0 hs (by omega) (fun s' hs' e' => by rw [ni_liveC e' (by omega)]; omega)
    clear h0 c0
    refine wp_Ld rfl rfl rfl ?_
    refine wp_P (g := ni_gPush (.int (0)) 33) rfl (wp_push (z := 0) rfl) ?_
    refine ws_Put rfl h1 hs hk rfl rfl (fun _ => rfl) rfl (fun z => absurd z (by decide)) ?_
    intro M2 h2
    have c2 := ni_clU (j := 11) (x := 0) c1 hs hk rfl
    clear h1 c1
    refine wp_Ld rfl rfl rfl ?_
    refine wp_Ld rfl rfl rfl ?_
    refine ws_Get (v := ni_z ((ni_lq A p i) (p) 12)) rfl h2 hs hk rfl rfl (congrArg ni_z ((ni_u2n (Or.inr (by decide))).trans (ni_u2n (Or.inr (by decide))))) ?_
    refine ws_S rfl (Nat.le_of_ble_eq_true rfl) rfl rfl h2 c2 (Nat.le_of_ble_eq_true rfl) (hL) rfl ?_
    intro M3 rw3 cp3 h3
    have c3 := ni_clR ((ni_l1 (ni_u2 (ni_u2 (ni_lq A p i) p 10 0) p 11 0) (A p 12)))
    clear h2 c2
    refine wp_Ld rfl rfl rfl ?_
    refine wp_P (g := ni_gPush (.int (-1)) 46) rfl (wp_push (z := -1) rfl) ?_
    refine ws_Put rfl h3 hs hk rfl rfl (fun _ => rfl) rfl (fun z => absurd z (by decide)) ?_
    intro M4 h4
    have c4 := ni_clU (j := 12) (x := (-1)) c3 hs hk rfl
    clear h3 c3
    refine wp_Ld rfl rfl rfl ?_
    refine wp_P (g := ni_gPush (.int (0)) 51) rfl (wp_push (z := 0) rfl) ?_
    refine ws_Put rfl h4 hs hk rfl rfl (fun _ => rfl) rfl (fun z => absurd z (by decide)) ?_
    intro M5 h5
    have c5 := ni_clU (j := 13) (x := 0) c4 hs hk rfl
    clear h4 c4
    refine wp_P (g := ni_gPush (.int (0)) 55) rfl (wp_push (z := 0) rfl) ?_
    refine wp_St rfl rfl rfl ?_
    exact ws_Dg h5 c5 hS rfl
  | succ k ih =>
    intro i hi
    have e10 : (ni_lq A p i) p 10 = A p 10 := ni_lqN i (fun j hj => hq j (by omega)) (Or.inl (by omega))
    have e7 : (ni_lq A p i) (p + 7) i = A (p + 7) i := ni_lqN i (fun j hj => hq j (by omega)) (Or.inl (by omega))
    have hD := mt_lose1 (xs := xs) (St := St) (A := (ni_lq A p i)) (x := (ni_lq A p i) (p + 7) i) (by rw [e7]; exact hq i (by omega))
    rw [show ni_l1 (ni_lq A p i) (ni_lq A p i (p + 7) i) = ni_lq A p (i + 1) by rw [e7]; rfl] at hD
    intro M0 ad rw cp hR
    have h0 : ni_Sx St M0 ad rw cp M0 rw cp (ni_lq A p i) (ni_live (ni_lq A p i)) := ⟨hR, ni_KpR⟩
    have c0 := ni_clR (ni_lq A p i)
    refine wp_Ld rfl rfl rfl ?_
    refine wp_Ld rfl rfl rfl ?_
    refine ws_Get (v := ni_z ((ni_lq A p i) (p) 10)) rfl h0 hs hk rfl rfl rfl ?_
    refine wp_Ic false rfl (zc_ge_f ⟨by omega, by omega⟩ ⟨by omega, by omega⟩ (by omega)) ?_
    refine wp_Ld rfl rfl rfl ?_
    refine wp_Ld rfl rfl rfl ?_
    refine ws_Get (v := .ref (ad (p + 7))) rfl h0 hs hk rfl rfl rfl ?_
    refine wp_Ld rfl rfl rfl ?_
    refine ws_Ald (j := i) (v := ni_z ((ni_lq A p i) (p + 7) (i))) rfl h0 (ni_o5_7 hs hk).1 (ni_o5_7 hs hk).2.1 (ni_o5_7 hs hk).2.2.1 ⟨by decide, rfl⟩ rfl (by omega) (by decide) (ni_LQ (ni_o5_7 hs hk).2.2.2 (by omega) (by omega)) rfl rfl ?_
    refine ws_S rfl (Nat.le_of_ble_eq_true rfl) rfl rfl h0 c0 (Nat.le_of_ble_eq_true rfl) (hD) rfl ?_
    intro M1 rw1 cp1 h1
    have c1 := ni_clR ((ni_lq A p (i + 1)))
    clear h0 c0
    refine wp_Inc (x' := (i : Int) + 1) rfl rfl (zi_inc (z := 1) rfl) rfl ?_
    refine wp_P (g := ni_gGo 2) rfl rfl ?_
    exact ws_Dg h1 c1 (ih (i + 1) (by omega)) rfl
theorem mt_lose {p : Nat} (hs : ni_us p = true) (hk : ni_kd p = 5) (hn : 0 ≤ A p 10 ∧ A p 10 ≤ 250) (hq : ∀ i : Nat, (i : Int) < A p 10 → ni_pk (A (p + 7) i)) (hp : ni_pk (A p 12)) (hB : ∀ i, i < 21 → ni_pk (A (p + 1 + 3) i)) : ni_Dc xs St 3 112 (fun ad => [.ref (ad p), .ref (ad 3)]) A (fun _ => none) (ni_cleared (ni_u2 (ni_ls (ni_u2 (ni_u2 (ni_l1 (ni_u2 (ni_u2 (ni_lq A p (A p 10).toNat) p 10 0) p 11 0) (A p 12)) p 12 (-1)) p 13 0) (p + 1) 21) (p + 1) 2 0) p) := by
  have g := mt_loseQ (xs := xs) (St := St) hs hk (n := (A p 10).toNat) (by omega) (by omega) (fun i hi => hq i (by omega)) hp hB (A p 10).toNat 0 (by omega)
  refine ni_Dw (fun _ => Nat.le_of_ble_eq_true rfl) (fun _ => rfl) ?_
  intro M0 ad rw cp hR
  have h0 : ni_Sx St M0 ad rw cp M0 rw cp A (ni_live A) := ⟨hR, ni_KpR⟩
  have c0 := ni_clR A
  refine wp_P (g := ni_gPush (.int (0)) 1) rfl (wp_push (z := 0) rfl) ?_
  refine wp_St rfl rfl rfl ?_
  exact ws_Dg h0 c0 g rfl
end MPW
