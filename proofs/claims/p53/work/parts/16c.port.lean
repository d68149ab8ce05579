/-! METHODS OF A PORT -/
section MPO
variable {xs : List Int32} {St : Nat → Option ni_C} {A : Nat → Nat → Int}
theorem ws_Qld {M0 : ni_H} {ad rw0 cp0 : Nat → Nat} {d y pc q : Nat} {ls st : List Value} {M : ni_H} {rw cp : Nat → Nat} {L : Nat → Nat} {Q : Option Value → ni_H → Prop} {s n t j : Nat} {i : Int} {C : String} {v : Value} (hp : ni_prog xs y pc = ni_sQld q) (h : ni_Sx St M0 ad rw0 cp0 M rw cp A L) (hs : ni_us s = true) (hk : ni_kd s = t) (hl : ni_ln s = n) (ht : 100 ≤ t ∧ ni_aks[t - 100]? = some (.object C)) (hi : i = j) (hj : j < n) (hn : n ≤ 1000) (hL : j < L s) (hv : ni_vk t ad rw A s j = v) (hy : ni_ty v = 3) (k : wp_G xs d y q ls (v :: st) M Q) : wp_G xs d y pc ls (ni_z i :: .ref (ad s) :: st) M Q := by
  subst hi
  obtain ⟨c1, c2⟩ := ni_cpL h.1.2.2.1 hs hl (by omega)
  obtain ⟨vs, g1, g2, g3⟩ := h.1.2.1 s hs
  have hpl : ni_pl ad rw s = ad s := by
    unfold ni_pl
    rw [c2, cond_false]
  have hz := ni_clZ (x := (j : Int)) (by omega)
  have hg := g3 j (by omega) hL
  rw [hk, hv] at hg
  rw [hpl, hk] at g1
  obtain ⟨u, M', ⟨f, h1⟩, h2⟩ := k
  refine ⟨u, M', ⟨f + 1, ?_⟩, h2⟩
  rw [ni_exS, hp]
  unfold ni_sQld
  simp only [g1]
  rw [if_pos ⟨ht.1, hz.1⟩, ht.2, hz.2, Int.toNat_natCast, hg]
  dsimp only
  rw [if_pos hy]
  exact h1
/-- how many of the first n in a port's row are of a class -/
def ni_cn (A : Nat → Nat → Int) (p : Nat) (c : Int) : Nat → Int
  | 0 => 0
  | n + 1 => ni_cn A p c n + (if A (p + 7) n / 1024 % 4 = c then 1 else 0)
theorem ni_cnB {p : Nat} {c : Int} : ∀ n : Nat, 0 ≤ ni_cn A p c n ∧ ni_cn A p c n ≤ n := by
  intro n
  induction n with
  | zero => exact ⟨Int.le_refl _, Int.le_refl _⟩
  | succ n ih =>
    unfold ni_cn
    split <;> omega
theorem mt_countL {p n : Nat} {c : Int} (hc : 0 ≤ c ∧ c ≤ 3) (hs : ni_us p = true) (hk : ni_kd p = 5) (hn : A p 10 = n) (hn1 : n ≤ 250) (hq : ∀ i : Nat, (i : Int) < A p 10 → 0 ≤ A (p + 7) i ∧ A (p + 7) i ≤ 2147483647) : ∀ k i : Nat, i + k = n → ni_Dr xs St 1 110 4 (fun ad => [.ref (ad p), ni_z c, ni_z (ni_cn A p c i), ni_z (i : Int)]) A (fun _ => some (ni_z (ni_cn A p c n))) A := by
  have h374 := (ni_usT hs).1
  intro k
  induction k with
  | zero =>
    intro i hi
    have hin : i = n := by omega
    subst hin
    have hb := ni_cnB (A := A) (p := p) (c := c) i
    intro M0 ad rw cp hR
    have h0 : ni_Sx St M0 ad rw cp M0 rw cp A (ni_live A) := ⟨hR, ni_KpR⟩
    have c0 := ni_clR A
    refine wp_Ld rfl rfl rfl ?_
    refine wp_Ld rfl rfl rfl ?_
    refine ws_Get (v := ni_z (A (p) 10)) rfl h0 hs hk rfl rfl rfl ?_
    refine wp_Ic true rfl (zc_ge_t ⟨by omega, by omega⟩ ⟨by omega, by omega⟩ (by omega)) ?_
    refine wp_Ld rfl rfl rfl ?_
    exact ws_R (v := fun _ => some (ni_z (ni_cn A p c i))) rfl rfl h0 c0 rfl
  | succ k ih =>
    intro i hi
    have hm0 : 0 ≤ A (p + 7) i / 1024 % 4 := Int.emod_nonneg _ (by omega)
    have hm1 : A (p + 7) i / 1024 % 4 < 4 := Int.emod_lt_of_pos _ (by omega)
    have hb := ni_cnB (A := A) (p := p) (c := c) i
    have g := ih (i + 1) (by omega)
    by_cases e : A (p + 7) i / 1024 % 4 = c
    · have e9 : ni_cn A p c (i + 1) = ni_cn A p c i + 1 := by
        show ni_cn A p c i + _ = _
        rw [if_pos e]
      rw [e9] at g
      intro M0 ad rw cp hR
      have h0 : ni_Sx St M0 ad rw cp M0 rw cp A (ni_live A) := ⟨hR, ni_KpR⟩
      have c0 := ni_clR A
      refine wp_Ld rfl rfl rfl ?_
      refine wp_Ld rfl rfl rfl ?_
      refine ws_Get (v := ni_z (A (p) 10)) rfl h0 hs hk rfl rfl rfl ?_
      refine wp_Ic false rfl (zc_ge_f ⟨by omega, by omega⟩ ⟨by omega, by omega⟩ (by omega)) ?_
      refine wp_Ld rfl rfl rfl ?_
      refine wp_Ld rfl rfl rfl ?_
      refine ws_Get (v := .ref (ad (p + 7))) rfl h0 hs hk rfl rfl rfl ?_
      refine wp_Ld rfl rfl rfl ?_
      refine ws_Ald (j := i) (v := ni_z (A (p + 7) (i))) rfl h0 (ni_o5_7 hs hk).1 (ni_o5_7 hs hk).2.1 (ni_o5_7 hs hk).2.2.1 ⟨by decide, rfl⟩ rfl (by omega) (by decide) (ni_LQ (ni_o5_7 hs hk).2.2.2 (by omega) (by omega)) rfl rfl ?_
      refine ws_P rfl (Nat.le_of_ble_eq_true rfl) rfl rfl (Nat.le_of_ble_eq_true rfl) (mt_classOf (hq i (by omega))) ?_
      refine wp_Ld rfl rfl rfl ?_
      refine wp_Ic false rfl (zc_ne_f ⟨by omega, by omega⟩ ⟨by omega, by omega⟩ (by omega)) ?_
      refine wp_P (g := ni_gPush (.int (1)) 27) rfl (wp_push (z := 1) rfl) ?_
      refine wp_P (g := ni_gGo 31) rfl rfl ?_
      refine wp_P rfl wp_add ?_
      refine wp_St rfl rfl rfl ?_
      refine wp_Inc (x' := (i : Int) + 1) rfl rfl (zi_inc (z := 1) rfl) rfl ?_
      refine wp_P (g := ni_gGo 4) rfl rfl ?_
      exact ws_Dg h0 c0 g rfl
    · have e9 : ni_cn A p c (i + 1) = ni_cn A p c i + 0 := by
        show ni_cn A p c i + _ = _
        rw [if_neg e]
      rw [e9] at g
      intro M0 ad rw cp hR
      have h0 : ni_Sx St M0 ad rw cp M0 rw cp A (ni_live A) := ⟨hR, ni_KpR⟩
      have c0 := ni_clR A
      refine wp_Ld rfl rfl rfl ?_
      refine wp_Ld rfl rfl rfl ?_
      refine ws_Get (v := ni_z (A (p) 10)) rfl h0 hs hk rfl rfl rfl ?_
      refine wp_Ic false rfl (zc_ge_f ⟨by omega, by omega⟩ ⟨by omega, by omega⟩ (by omega)) ?_
      refine wp_Ld rfl rfl rfl ?_
      refine wp_Ld rfl rfl rfl ?_
      refine ws_Get (v := .ref (ad (p + 7))) rfl h0 hs hk rfl rfl rfl ?_
      refine wp_Ld rfl rfl rfl ?_
      refine ws_Ald (j := i) (v := ni_z (A (p + 7) (i))) rfl h0 (ni_o5_7 hs hk).1 (ni_o5_7 hs hk).2.1 (ni_o5_7 hs hk).2.2.1 ⟨by decide, rfl⟩ rfl (by omega) (by decide) (ni_LQ (ni_o5_7 hs hk).2.2.2 (by omega) (by omega)) rfl rfl ?_
      refine ws_P rfl (Nat.le_of_ble_eq_true rfl) rfl rfl (Nat.le_of_ble_eq_true rfl) (mt_classOf (hq i (by omega))) ?_
      refine wp_Ld rfl rfl rfl ?_
      refine wp_Ic true rfl (zc_ne_t ⟨by omega, by omega⟩ ⟨by omega, by omega⟩ (by omega)) ?_
      refine wp_P (g := ni_gPush (.int (0)) 31) rfl (wp_push (z := 0) rfl) ?_
      refine wp_P rfl wp_add ?_
      refine wp_St rfl rfl rfl ?_
      refine wp_Inc (x' := (i : Int) + 1) rfl rfl (zi_inc (z := 1) rfl) rfl ?_
      refine wp_P (g := ni_gGo 4) rfl rfl ?_
      exact ws_Dg h0 c0 g rfl
theorem mt_count {p : Nat} {c : Int} (hc : 0 ≤ c ∧ c ≤ 3) (hn : 0 ≤ A p 10 ∧ A p 10 ≤ 250) (hq : ∀ i : Nat, (i : Int) < A p 10 → 0 ≤ A (p + 7) i ∧ A (p + 7) i ≤ 2147483647) (hs : ni_us p = true) (hk : ni_kd p = 5) : ni_Dc xs St 2 110 (fun ad => [.ref (ad p), ni_z c]) A (fun _ => some (ni_z (ni_cn A p c (A p 10).toNat))) A := by
  have h374 := (ni_usT hs).1
  refine ni_Dw (fun _ => Nat.le_of_ble_eq_true rfl) (fun _ => rfl) ?_
  intro M0 ad rw cp hR
  have h0 : ni_Sx St M0 ad rw cp M0 rw cp A (ni_live A) := ⟨hR, ni_KpR⟩
  have c0 := ni_clR A
  refine wp_P (g := ni_gPush (.int (0)) 1) rfl (wp_push (z := 0) rfl) ?_
  refine wp_St rfl rfl rfl ?_
  refine wp_P (g := ni_gPush (.int (0)) 3) rfl (wp_push (z := 0) rfl) ?_
  refine wp_St rfl rfl rfl ?_
  exact ws_Dg h0 c0 (mt_countL hc hs hk (n := (A p 10).toNat) (by omega) (by omega) hq (A p 10).toNat 0 (by omega)) rfl
theorem mt_firstL {p n : Nat} {c : Int} (hc : 0 ≤ c ∧ c ≤ 3) (hs : ni_us p = true) (hk : ni_kd p = 5) (hn : A p 10 = n) (hn1 : n ≤ 250) (hq : ∀ i : Nat, (i : Int) < A p 10 → 0 ≤ A (p + 7) i ∧ A (p + 7) i ≤ 2147483647) : ∀ k i : Nat, i + k = n → ∃ v : Int, ni_Dr xs St 1 111 2 (fun ad => [.ref (ad p), ni_z c, ni_z (i : Int)]) A (fun _ => some (ni_z v)) A ∧ ((v = -1 ∧ ∀ j : Nat, i ≤ j → j < n → ¬ A (p + 7) j / 1024 % 4 = c) ∨ ∃ j : Nat, v = j ∧ i ≤ j ∧ j < n ∧ A (p + 7) j / 1024 % 4 = c) := by
  have h374 := (ni_usT hs).1
  intro k
  induction k with
  | zero =>
    intro i hi
    have hin : i = n := by omega
    subst hin
    refine ⟨-1, ?_, Or.inl ⟨rfl, fun j h1 h2 => by omega⟩⟩
    · intro M0 ad rw cp hR
      have h0 : ni_Sx St M0 ad rw cp M0 rw cp A (ni_live A) := ⟨hR, ni_KpR⟩
      have c0 := ni_clR A
      refine wp_Ld rfl rfl rfl ?_
      refine wp_Ld rfl rfl rfl ?_
      refine ws_Get (v := ni_z (A (p) 10)) rfl h0 hs hk rfl rfl rfl ?_
      refine wp_Ic true rfl (zc_ge_t ⟨by omega, by omega⟩ ⟨by omega, by omega⟩ (by omega)) ?_
      refine wp_P (g := ni_gPush (.int (-1)) 32) rfl (wp_push (z := -1) rfl) ?_
      exact ws_R (v := fun _ => some (ni_z (-1))) rfl rfl h0 c0 rfl
  | succ k ih =>
    intro i hi
    have hm0 : 0 ≤ A (p + 7) i / 1024 % 4 := Int.emod_nonneg _ (by omega)
    have hm1 : A (p + 7) i / 1024 % 4 < 4 := Int.emod_lt_of_pos _ (by omega)
    by_cases e : A (p + 7) i / 1024 % 4 = c
    · refine ⟨i, ?_, Or.inr ⟨i, rfl, Nat.le_refl _, by omega, e⟩⟩
      · intro M0 ad rw cp hR
        have h0 : ni_Sx St M0 ad rw cp M0 rw cp A (ni_live A) := ⟨hR, ni_KpR⟩
        have c0 := ni_clR A
        refine wp_Ld rfl rfl rfl ?_
        refine wp_Ld rfl rfl rfl ?_
        refine ws_Get (v := ni_z (A (p) 10)) rfl h0 hs hk rfl rfl rfl ?_
        refine wp_Ic false rfl (zc_ge_f ⟨by omega, by omega⟩ ⟨by omega, by omega⟩ (by omega)) ?_
        refine wp_Ld rfl rfl rfl ?_
        refine ws_Get (v := .ref (ad (p + 7))) rfl h0 hs hk rfl rfl rfl ?_
        refine wp_Ld rfl rfl rfl ?_
        refine ws_Ald (j := i) (v := ni_z (A (p + 7) (i))) rfl h0 (ni_o5_7 hs hk).1 (ni_o5_7 hs hk).2.1 (ni_o5_7 hs hk).2.2.1 ⟨by decide, rfl⟩ rfl (by omega) (by decide) (ni_LQ (ni_o5_7 hs hk).2.2.2 (by omega) (by omega)) rfl rfl ?_
        refine ws_P rfl (Nat.le_of_ble_eq_true rfl) rfl rfl (Nat.le_of_ble_eq_true rfl) (mt_classOf (hq i (by omega))) ?_
        refine wp_Ld rfl rfl rfl ?_
        refine wp_Ic false rfl (zc_ne_f ⟨by omega, by omega⟩ ⟨by omega, by omega⟩ (by omega)) ?_
        refine wp_Ld rfl rfl rfl ?_
        exact ws_R (v := fun _ => some (ni_z (i : Int))) rfl rfl h0 c0 rfl
    · obtain ⟨v, g, hv⟩ := ih (i + 1) (by omega)
      refine ⟨v, ?_, ?_⟩
      · intro M0 ad rw cp hR
        have h0 : ni_Sx St M0 ad rw cp M0 rw cp A (ni_live A) := ⟨hR, ni_KpR⟩
        have c0 := ni_clR A
        refine wp_Ld rfl rfl rfl ?_
        refine wp_Ld rfl rfl rfl ?_
        refine ws_Get (v := ni_z (A (p) 10)) rfl h0 hs hk rfl rfl rfl ?_
        refine wp_Ic false rfl (zc_ge_f ⟨by omega, by omega⟩ ⟨by omega, by omega⟩ (by omega)) ?_
        refine wp_Ld rfl rfl rfl ?_
        refine ws_Get (v := .ref (ad (p + 7))) rfl h0 hs hk rfl rfl rfl ?_
        refine wp_Ld rfl rfl rfl ?_
        refine ws_Ald (j := i) (v := ni_z (A (p + 7) (i))) rfl h0 (ni_o5_7 hs hk).1 (ni_o5_7 hs hk).2.1 (ni_o5_7 hs hk).2.2.1 ⟨by decide, rfl⟩ rfl (by omega) (by decide) (ni_LQ (ni_o5_7 hs hk).2.2.2 (by omega) (by omega)) rfl rfl ?_
        refine ws_P rfl (Nat.le_of_ble_eq_true rfl) rfl rfl (Nat.le_of_ble_eq_true rfl) (mt_classOf (hq i (by omega))) ?_
        refine wp_Ld rfl rfl rfl ?_
        refine wp_Ic true rfl (zc_ne_t ⟨by omega, by omega⟩ ⟨by omega, by omega⟩ (by omega)) ?_
        refine wp_Inc (x' := (i : Int) + 1) rfl rfl (zi_inc (z := 1) rfl) rfl ?_
        refine wp_P (g := ni_gGo 2) rfl rfl ?_
        exact ws_Dg h0 c0 g rfl
      · rcases hv with ⟨h1, h2⟩ | ⟨j, h1, h2, h3, h4⟩
        · refine Or.inl ⟨h1, fun j h3 h4 => ?_⟩
          by_cases ej : j = i
          · rw [ej]
            exact e
          · exact h2 j (by omega) h4
        · exact Or.inr ⟨j, h1, by omega, h3, h4⟩
theorem mt_first {p : Nat} {c : Int} (hc : 0 ≤ c ∧ c ≤ 3) (hn : 0 ≤ A p 10 ∧ A p 10 ≤ 250) (hq : ∀ i : Nat, (i : Int) < A p 10 → 0 ≤ A (p + 7) i ∧ A (p + 7) i ≤ 2147483647) (hs : ni_us p = true) (hk : ni_kd p = 5) : ∃ v : Int, ni_Dc xs St 2 111 (fun ad => [.ref (ad p), ni_z c]) A (fun _ => some (ni_z v)) A ∧ ((v = -1 ∧ ∀ j : Nat, (j : Int) < A p 10 → ¬ A (p + 7) j / 1024 % 4 = c) ∨ ∃ j : Nat, v = j ∧ (j : Int) < A p 10 ∧ A (p + 7) j / 1024 % 4 = c) := by
  obtain ⟨v, g, hv⟩ := mt_firstL (xs := xs) (St := St) hc hs hk (n := (A p 10).toNat) (by omega) (by omega) hq (A p 10).toNat 0 (by omega)
  refine ⟨v, ?_, ?_⟩
  · refine ni_Dw (fun _ => Nat.le_of_ble_eq_true rfl) (fun _ => rfl) ?_
    intro M0 ad rw cp hR
    have h0 : ni_Sx St M0 ad rw cp M0 rw cp A (ni_live A) := ⟨hR, ni_KpR⟩
    have c0 := ni_clR A
    refine wp_P (g := ni_gPush (.int (0)) 1) rfl (wp_push (z := 0) rfl) ?_
    refine wp_St rfl rfl rfl ?_
    exact ws_Dg h0 c0 g rfl
  · rcases hv with ⟨h1, h2⟩ | ⟨j, h1, h2, h3, h4⟩
    · exact Or.inl ⟨h1, fun j h3 => h2 j (by omega) (by omega)⟩
    · exact Or.inr ⟨j, h1, by omega, h4⟩
theorem mt_acc0 {p : Nat} {x : Int} (hx : 0 ≤ x ∧ x ≤ 2147483647) (h11 : 0 ≤ A p 11 ∧ A p 11 ≤ 1000000) (h2 : 0 ≤ A p 2 ∧ A p 2 ≤ 1000000) (h10 : 0 ≤ A p 10 ∧ A p 10 ≤ 250) (h4 : 0 ≤ A p 4 ∧ A p 4 ≤ 1000000) (h : A p 2 < A p 11 + x / 4096 % 512) (hs : ni_us p = true) (hk : ni_kd p = 5) : ni_Dc xs St 2 106 (fun ad => [.ref (ad p), ni_z x]) A (fun _ => some (ni_z (4))) A := by
  have h374 := (ni_usT hs).1
  refine ni_Dw (fun _ => Nat.le_of_ble_eq_true rfl) (fun _ => rfl) ?_
  intro M0 ad rw cp hR
  have h0 : ni_Sx St M0 ad rw cp M0 rw cp A (ni_live A) := ⟨hR, ni_KpR⟩
  have c0 := ni_clR A
  have hz0 : 0 ≤ x / 4096 % 512 := Int.emod_nonneg _ (by omega)
  have hz1 : x / 4096 % 512 < 512 := Int.emod_lt_of_pos _ (by omega)
  refine wp_Ld rfl rfl rfl ?_
  refine ws_P rfl (Nat.le_of_ble_eq_true rfl) rfl rfl (Nat.le_of_ble_eq_true rfl) (mt_sizeOf hx) ?_
  refine wp_St rfl rfl rfl ?_
  refine wp_Ld rfl rfl rfl ?_
  refine ws_Get (v := ni_z (A (p) 11)) rfl h0 hs hk rfl rfl rfl ?_
  refine wp_Ld rfl rfl rfl ?_
  refine wp_P rfl wp_add ?_
  refine wp_Ld rfl rfl rfl ?_
  refine ws_Get (v := ni_z (A (p) 2)) rfl h0 hs hk rfl rfl rfl ?_
  refine wp_Ic true rfl (zc_gt_t ⟨by omega, by omega⟩ ⟨by omega, by omega⟩ (by omega)) ?_
  refine wp_P (g := ni_gPush (.int (4)) 29) rfl (wp_push (z := 4) rfl) ?_
  exact ws_R (v := fun _ => some (ni_z (4))) rfl rfl h0 c0 rfl
theorem mt_acc1 {p : Nat} {x : Int} (hx : 0 ≤ x ∧ x ≤ 2147483647) (h11 : 0 ≤ A p 11 ∧ A p 11 ≤ 1000000) (h2 : 0 ≤ A p 2 ∧ A p 2 ≤ 1000000) (h10 : 0 ≤ A p 10 ∧ A p 10 ≤ 250) (h4 : 0 ≤ A p 4 ∧ A p 4 ≤ 1000000) (h : A p 11 + x / 4096 % 512 ≤ A p 2) (hq : 250 ≤ A p 10) (hs : ni_us p = true) (hk : ni_kd p = 5) : ni_Dc xs St 2 106 (fun ad => [.ref (ad p), ni_z x]) A (fun _ => some (ni_z (4))) A := by
  have h374 := (ni_usT hs).1
  refine ni_Dw (fun _ => Nat.le_of_ble_eq_true rfl) (fun _ => rfl) ?_
  intro M0 ad rw cp hR
  have h0 : ni_Sx St M0 ad rw cp M0 rw cp A (ni_live A) := ⟨hR, ni_KpR⟩
  have c0 := ni_clR A
  have hz0 : 0 ≤ x / 4096 % 512 := Int.emod_nonneg _ (by omega)
  have hz1 : x / 4096 % 512 < 512 := Int.emod_lt_of_pos _ (by omega)
  refine wp_Ld rfl rfl rfl ?_
  refine ws_P rfl (Nat.le_of_ble_eq_true rfl) rfl rfl (Nat.le_of_ble_eq_true rfl) (mt_sizeOf hx) ?_
  refine wp_St rfl rfl rfl ?_
  refine wp_Ld rfl rfl rfl ?_
  refine ws_Get (v := ni_z (A (p) 11)) rfl h0 hs hk rfl rfl rfl ?_
  refine wp_Ld rfl rfl rfl ?_
  refine wp_P rfl wp_add ?_
  refine wp_Ld rfl rfl rfl ?_
  refine ws_Get (v := ni_z (A (p) 2)) rfl h0 hs hk rfl rfl rfl ?_
  refine wp_Ic false rfl (zc_gt_f ⟨by omega, by omega⟩ ⟨by omega, by omega⟩ (by omega)) ?_
  refine wp_Ld rfl rfl rfl ?_
  refine ws_Get (v := ni_z (A (p) 10)) rfl h0 hs hk rfl rfl rfl ?_
  refine wp_P (g := ni_gPush (.int (250)) 25) rfl (wp_push (z := 250) rfl) ?_
  refine wp_Ic false rfl (zc_lt_f ⟨by omega, by omega⟩ ⟨by omega, by omega⟩ (by omega)) ?_
  refine wp_P (g := ni_gPush (.int (4)) 29) rfl (wp_push (z := 4) rfl) ?_
  exact ws_R (v := fun _ => some (ni_z (4))) rfl rfl h0 c0 rfl
theorem mt_acc2 {p : Nat} {x : Int} (hx : 0 ≤ x ∧ x ≤ 2147483647) (h11 : 0 ≤ A p 11 ∧ A p 11 ≤ 1000000) (h2 : 0 ≤ A p 2 ∧ A p 2 ≤ 1000000) (h10 : 0 ≤ A p 10 ∧ A p 10 ≤ 250) (h4 : 0 ≤ A p 4 ∧ A p 4 ≤ 1000000) (h : A p 11 + x / 4096 % 512 ≤ A p 2) (hq : A p 10 < 250) (h3 : A p 3 = 0) (hs : ni_us p = true) (hk : ni_kd p = 5) : ni_Dc xs St 2 106 (fun ad => [.ref (ad p), ni_z x]) A (fun _ => some (ni_z (-1))) (ni_u2 (ni_u2 (ni_u2 A (p + 7) ((A (p) 10).toNat) (x)) (p) 10 ((A (p) 10) + 1)) (p) 11 ((A (p) 11) + (x / 4096 % 512))) := by
  have h374 := (ni_usT hs).1
  refine ni_Dw (fun _ => Nat.le_of_ble_eq_true rfl) (fun _ => rfl) ?_
  intro M0 ad rw cp hR
  have h0 : ni_Sx St M0 ad rw cp M0 rw cp A (ni_live A) := ⟨hR, ni_KpR⟩
  have c0 := ni_clR A
  have hz0 : 0 ≤ x / 4096 % 512 := Int.emod_nonneg _ (by omega)
  have hz1 : x / 4096 % 512 < 512 := Int.emod_lt_of_pos _ (by omega)
  refine wp_Ld rfl rfl rfl ?_
  refine ws_P rfl (Nat.le_of_ble_eq_true rfl) rfl rfl (Nat.le_of_ble_eq_true rfl) (mt_sizeOf hx) ?_
  refine wp_St rfl rfl rfl ?_
  refine wp_Ld rfl rfl rfl ?_
  refine ws_Get (v := ni_z (A (p) 11)) rfl h0 hs hk rfl rfl rfl ?_
  refine wp_Ld rfl rfl rfl ?_
  refine wp_P rfl wp_add ?_
  refine wp_Ld rfl rfl rfl ?_
  refine ws_Get (v := ni_z (A (p) 2)) rfl h0 hs hk rfl rfl rfl ?_
  refine wp_Ic false rfl (zc_gt_f ⟨by omega, by omega⟩ ⟨by omega, by omega⟩ (by omega)) ?_
  refine wp_Ld rfl rfl rfl ?_
  refine ws_Get (v := ni_z (A (p) 10)) rfl h0 hs hk rfl rfl rfl ?_
  refine wp_P (g := ni_gPush (.int (250)) 25) rfl (wp_push (z := 250) rfl) ?_
  refine wp_Ic true rfl (zc_lt_t ⟨by omega, by omega⟩ ⟨by omega, by omega⟩ (by omega)) ?_
  refine wp_Ld rfl rfl rfl ?_
  refine ws_Get (v := ni_z (A (p) 3)) rfl h0 hs hk rfl rfl rfl ?_
  refine wp_If true rfl (zf_eq_t ⟨by omega, by omega⟩ (by omega)) ?_
  refine wp_Ld rfl rfl rfl ?_
  refine ws_Get (v := .ref (ad (p + 7))) rfl h0 hs hk rfl rfl rfl ?_
  refine wp_Ld rfl rfl rfl ?_
  refine ws_Get (v := ni_z (A (p) 10)) rfl h0 hs hk rfl rfl rfl ?_
  refine wp_Ld rfl rfl rfl ?_
  refine ws_Ast (j := (A (p) 10).toNat) (x := x) rfl h0 (ni_o5_7 hs hk).1 (ni_o5_7 hs hk).2.1 (ni_o5_7 hs hk).2.2.1 ⟨by decide, rfl⟩ (by omega) (by omega) (by decide) (Or.inr ⟨rfl, (ni_liveC (ni_o5_7 hs hk).2.2.2 (by omega)).symm⟩) (congrArg ni_z ni_u2e.symm) ⟨rfl, rfl⟩ ?_
  intro M1 h1
  have c1 := ni_cl1 (ni_clU (j := (A (p) 10).toNat) (x := x) c0 (ni_o5_7 hs hk).1 (ni_o5_7 hs hk).2.1 rfl) (Nat.le_succ_of_le (Nat.le_of_eq ((ni_liveC (ni_o5_7 hs hk).2.2.2 (by omega)).symm).symm))
  clear h0 c0
  refine wp_Ld rfl rfl rfl ?_
  refine wp_P (g := ni_gDup 83) rfl rfl ?_
  refine ws_Get (v := ni_z (A (p) 10)) rfl h1 hs hk rfl rfl (congrArg ni_z (ni_u2n (Or.inl (by omega)))) ?_
  refine wp_P (g := ni_gPush (.int (1)) 87) rfl (wp_push (z := 1) rfl) ?_
  refine wp_P rfl wp_add ?_
  refine ws_Put rfl h1 hs hk rfl rfl (fun _ => rfl) rfl (fun z => absurd z (by decide)) ?_
  intro M2 h2
  have c2 := ni_clC (x := (A (p) 10) + 1) c1 hs (by omega) (fun s' hs' e' => ni_inc5 hs hk hs' e' (by omega))
  clear h1 c1
  refine wp_Ld rfl rfl rfl ?_
  refine wp_P (g := ni_gDup 93) rfl rfl ?_
  refine ws_Get (v := ni_z (A (p) 11)) rfl h2 hs hk rfl rfl (congrArg ni_z ((ni_u2n (Or.inr (by decide))).trans (ni_u2n (Or.inl (by omega))))) ?_
  refine wp_Ld rfl rfl rfl ?_
  refine wp_P rfl wp_add ?_
  refine ws_Put rfl h2 hs hk rfl rfl (fun _ => rfl) rfl (fun z => absurd z (by decide)) ?_
  intro M3 h3
  have c3 := ni_clU (j := 11) (x := (A (p) 11) + (x / 4096 % 512)) c2 hs hk rfl
  clear h2 c2
  refine wp_P (g := ni_gPush (.int (-1)) 102) rfl (wp_push (z := -1) rfl) ?_
  exact ws_R (v := fun _ => some (ni_z (-1))) rfl rfl h3 c3 rfl
theorem mt_acc3 {p : Nat} {x : Int} (hx : 0 ≤ x ∧ x ≤ 2147483647) (h11 : 0 ≤ A p 11 ∧ A p 11 ≤ 1000000) (h2 : 0 ≤ A p 2 ∧ A p 2 ≤ 1000000) (h10 : 0 ≤ A p 10 ∧ A p 10 ≤ 250) (h4 : 0 ≤ A p 4 ∧ A p 4 ≤ 1000000) (h : A p 11 + x / 4096 % 512 ≤ A p 2) (hq : A p 10 < 250) (h3 : A p 3 = 1) (he : 2 * A p 11 < A p 2) (hs : ni_us p = true) (hk : ni_kd p = 5) : ni_Dc xs St 2 106 (fun ad => [.ref (ad p), ni_z x]) A (fun _ => some (ni_z (-1))) (ni_u2 (ni_u2 (ni_u2 A (p + 7) ((A (p) 10).toNat) (x)) (p) 10 ((A (p) 10) + 1)) (p) 11 ((A (p) 11) + (x / 4096 % 512))) := by
  have h374 := (ni_usT hs).1
  refine ni_Dw (fun _ => Nat.le_of_ble_eq_true rfl) (fun _ => rfl) ?_
  intro M0 ad rw cp hR
  have h0 : ni_Sx St M0 ad rw cp M0 rw cp A (ni_live A) := ⟨hR, ni_KpR⟩
  have c0 := ni_clR A
  have hz0 : 0 ≤ x / 4096 % 512 := Int.emod_nonneg _ (by omega)
  have hz1 : x / 4096 % 512 < 512 := Int.emod_lt_of_pos _ (by omega)
  refine wp_Ld rfl rfl rfl ?_
  refine ws_P rfl (Nat.le_of_ble_eq_true rfl) rfl rfl (Nat.le_of_ble_eq_true rfl) (mt_sizeOf hx) ?_
  refine wp_St rfl rfl rfl ?_
  refine wp_Ld rfl rfl rfl ?_
  refine ws_Get (v := ni_z (A (p) 11)) rfl h0 hs hk rfl rfl rfl ?_
  refine wp_Ld rfl rfl rfl ?_
  refine wp_P rfl wp_add ?_
  refine wp_Ld rfl rfl rfl ?_
  refine ws_Get (v := ni_z (A (p) 2)) rfl h0 hs hk rfl rfl rfl ?_
  refine wp_Ic false rfl (zc_gt_f ⟨by omega, by omega⟩ ⟨by omega, by omega⟩ (by omega)) ?_
  refine wp_Ld rfl rfl rfl ?_
  refine ws_Get (v := ni_z (A (p) 10)) rfl h0 hs hk rfl rfl rfl ?_
  refine wp_P (g := ni_gPush (.int (250)) 25) rfl (wp_push (z := 250) rfl) ?_
  refine wp_Ic true rfl (zc_lt_t ⟨by omega, by omega⟩ ⟨by omega, by omega⟩ (by omega)) ?_
  refine wp_Ld rfl rfl rfl ?_
  refine ws_Get (v := ni_z (A (p) 3)) rfl h0 hs hk rfl rfl rfl ?_
  refine wp_If false rfl (zf_eq_f ⟨by omega, by omega⟩ (by omega)) ?_
  refine wp_P (g := ni_gPush (.int (2)) 38) rfl (wp_push (z := 2) rfl) ?_
  refine wp_Ld rfl rfl rfl ?_
  refine ws_Get (v := ni_z (A (p) 11)) rfl h0 hs hk rfl rfl rfl ?_
  refine wp_P rfl wp_mul ?_
  refine wp_Ld rfl rfl rfl ?_
  refine ws_Get (v := ni_z (A (p) 2)) rfl h0 hs hk rfl rfl rfl ?_
  refine wp_Ic true rfl (zc_lt_t ⟨by omega, by omega⟩ ⟨by omega, by omega⟩ (by omega)) ?_
  refine wp_Ld rfl rfl rfl ?_
  refine ws_Get (v := .ref (ad (p + 7))) rfl h0 hs hk rfl rfl rfl ?_
  refine wp_Ld rfl rfl rfl ?_
  refine ws_Get (v := ni_z (A (p) 10)) rfl h0 hs hk rfl rfl rfl ?_
  refine wp_Ld rfl rfl rfl ?_
  refine ws_Ast (j := (A (p) 10).toNat) (x := x) rfl h0 (ni_o5_7 hs hk).1 (ni_o5_7 hs hk).2.1 (ni_o5_7 hs hk).2.2.1 ⟨by decide, rfl⟩ (by omega) (by omega) (by decide) (Or.inr ⟨rfl, (ni_liveC (ni_o5_7 hs hk).2.2.2 (by omega)).symm⟩) (congrArg ni_z ni_u2e.symm) ⟨rfl, rfl⟩ ?_
  intro M1 h1
  have c1 := ni_cl1 (ni_clU (j := (A (p) 10).toNat) (x := x) c0 (ni_o5_7 hs hk).1 (ni_o5_7 hs hk).2.1 rfl) (Nat.le_succ_of_le (Nat.le_of_eq ((ni_liveC (ni_o5_7 hs hk).2.2.2 (by omega)).symm).symm))
  clear h0 c0
  refine wp_Ld rfl rfl rfl ?_
  refine wp_P (g := ni_gDup 83) rfl rfl ?_
  refine ws_Get (v := ni_z (A (p) 10)) rfl h1 hs hk rfl rfl (congrArg ni_z (ni_u2n (Or.inl (by omega)))) ?_
  refine wp_P (g := ni_gPush (.int (1)) 87) rfl (wp_push (z := 1) rfl) ?_
  refine wp_P rfl wp_add ?_
  refine ws_Put rfl h1 hs hk rfl rfl (fun _ => rfl) rfl (fun z => absurd z (by decide)) ?_
  intro M2 h2
  have c2 := ni_clC (x := (A (p) 10) + 1) c1 hs (by omega) (fun s' hs' e' => ni_inc5 hs hk hs' e' (by omega))
  clear h1 c1
  refine wp_Ld rfl rfl rfl ?_
  refine wp_P (g := ni_gDup 93) rfl rfl ?_
  refine ws_Get (v := ni_z (A (p) 11)) rfl h2 hs hk rfl rfl (congrArg ni_z ((ni_u2n (Or.inr (by decide))).trans (ni_u2n (Or.inl (by omega))))) ?_
  refine wp_Ld rfl rfl rfl ?_
  refine wp_P rfl wp_add ?_
  refine ws_Put rfl h2 hs hk rfl rfl (fun _ => rfl) rfl (fun z => absurd z (by decide)) ?_
  intro M3 h3
  have c3 := ni_clU (j := 11) (x := (A (p) 11) + (x / 4096 % 512)) c2 hs hk rfl
  clear h2 c2
  refine wp_P (g := ni_gPush (.int (-1)) 102) rfl (wp_push (z := -1) rfl) ?_
  exact ws_R (v := fun _ => some (ni_z (-1))) rfl rfl h3 c3 rfl
theorem mt_acc4 {p : Nat} {x : Int} (hx : 0 ≤ x ∧ x ≤ 2147483647) (h11 : 0 ≤ A p 11 ∧ A p 11 ≤ 1000000) (h2 : 0 ≤ A p 2 ∧ A p 2 ≤ 1000000) (h10 : 0 ≤ A p 10 ∧ A p 10 ≤ 250) (h4 : 0 ≤ A p 4 ∧ A p 4 ≤ 1000000) (h : A p 11 + x / 4096 % 512 ≤ A p 2) (hq : A p 10 < 250) (h3 : A p 3 = 1) (he : A p 2 ≤ 2 * A p 11) (hr : (A p 4 + 1) % 3 = 0) (hs : ni_us p = true) (hk : ni_kd p = 5) : ni_Dc xs St 2 106 (fun ad => [.ref (ad p), ni_z x]) A (fun _ => some (ni_z (5))) (ni_u2 A (p) 4 ((A (p) 4) + 1)) := by
  have h374 := (ni_usT hs).1
  refine ni_Dw (fun _ => Nat.le_of_ble_eq_true rfl) (fun _ => rfl) ?_
  intro M0 ad rw cp hR
  have h0 : ni_Sx St M0 ad rw cp M0 rw cp A (ni_live A) := ⟨hR, ni_KpR⟩
  have c0 := ni_clR A
  have hz0 : 0 ≤ x / 4096 % 512 := Int.emod_nonneg _ (by omega)
  have hz1 : x / 4096 % 512 < 512 := Int.emod_lt_of_pos _ (by omega)
  have hr0 : 0 ≤ (A p 4 + 1) % 3 := Int.emod_nonneg _ (by omega)
  have hr1 : (A p 4 + 1) % 3 < 3 := Int.emod_lt_of_pos _ (by omega)
  refine wp_Ld rfl rfl rfl ?_
  refine ws_P rfl (Nat.le_of_ble_eq_true rfl) rfl rfl (Nat.le_of_ble_eq_true rfl) (mt_sizeOf hx) ?_
  refine wp_St rfl rfl rfl ?_
  refine wp_Ld rfl rfl rfl ?_
  refine ws_Get (v := ni_z (A (p) 11)) rfl h0 hs hk rfl rfl rfl ?_
  refine wp_Ld rfl rfl rfl ?_
  refine wp_P rfl wp_add ?_
  refine wp_Ld rfl rfl rfl ?_
  refine ws_Get (v := ni_z (A (p) 2)) rfl h0 hs hk rfl rfl rfl ?_
  refine wp_Ic false rfl (zc_gt_f ⟨by omega, by omega⟩ ⟨by omega, by omega⟩ (by omega)) ?_
  refine wp_Ld rfl rfl rfl ?_
  refine ws_Get (v := ni_z (A (p) 10)) rfl h0 hs hk rfl rfl rfl ?_
  refine wp_P (g := ni_gPush (.int (250)) 25) rfl (wp_push (z := 250) rfl) ?_
  refine wp_Ic true rfl (zc_lt_t ⟨by omega, by omega⟩ ⟨by omega, by omega⟩ (by omega)) ?_
  refine wp_Ld rfl rfl rfl ?_
  refine ws_Get (v := ni_z (A (p) 3)) rfl h0 hs hk rfl rfl rfl ?_
  refine wp_If false rfl (zf_eq_f ⟨by omega, by omega⟩ (by omega)) ?_
  refine wp_P (g := ni_gPush (.int (2)) 38) rfl (wp_push (z := 2) rfl) ?_
  refine wp_Ld rfl rfl rfl ?_
  refine ws_Get (v := ni_z (A (p) 11)) rfl h0 hs hk rfl rfl rfl ?_
  refine wp_P rfl wp_mul ?_
  refine wp_Ld rfl rfl rfl ?_
  refine ws_Get (v := ni_z (A (p) 2)) rfl h0 hs hk rfl rfl rfl ?_
  refine wp_Ic false rfl (zc_lt_f ⟨by omega, by omega⟩ ⟨by omega, by omega⟩ (by omega)) ?_
  refine wp_Ld rfl rfl rfl ?_
  refine wp_P (g := ni_gDup 52) rfl rfl ?_
  refine ws_Get (v := ni_z (A (p) 4)) rfl h0 hs hk rfl rfl rfl ?_
  refine wp_P (g := ni_gPush (.int (1)) 56) rfl (wp_push (z := 1) rfl) ?_
  refine wp_P rfl wp_add ?_
  refine ws_Put rfl h0 hs hk rfl rfl (fun _ => rfl) rfl (fun z => absurd z (by decide)) ?_
  intro M1 h1
  have c1 := ni_clU (j := 4) (x := (A (p) 4) + 1) c0 hs hk rfl
  clear h0 c0
  refine wp_Ld rfl rfl rfl ?_
  refine ws_Get (v := ni_z ((A (p) 4) + 1)) rfl h1 hs hk rfl rfl (congrArg ni_z (ni_u2e)) ?_
  refine wp_P (g := ni_gPush (.int (3)) 65) rfl (wp_push (z := 3) rfl) ?_
  refine wp_P rfl (wp_I0 (c := (A (p) 4 + 1) % 3) (zi_rem ⟨by omega, by omega⟩ (by omega) (by omega))) ?_
  refine wp_If false rfl (zf_ne_f ⟨by omega, by omega⟩ (by omega)) ?_
  refine wp_P (g := ni_gPush (.int (5)) 70) rfl (wp_push (z := 5) rfl) ?_
  exact ws_R (v := fun _ => some (ni_z (5))) rfl rfl h1 c1 rfl
theorem mt_acc5 {p : Nat} {x : Int} (hx : 0 ≤ x ∧ x ≤ 2147483647) (h11 : 0 ≤ A p 11 ∧ A p 11 ≤ 1000000) (h2 : 0 ≤ A p 2 ∧ A p 2 ≤ 1000000) (h10 : 0 ≤ A p 10 ∧ A p 10 ≤ 250) (h4 : 0 ≤ A p 4 ∧ A p 4 ≤ 1000000) (h : A p 11 + x / 4096 % 512 ≤ A p 2) (hq : A p 10 < 250) (h3 : A p 3 = 1) (he : A p 2 ≤ 2 * A p 11) (hr : ¬ (A p 4 + 1) % 3 = 0) (hs : ni_us p = true) (hk : ni_kd p = 5) : ni_Dc xs St 2 106 (fun ad => [.ref (ad p), ni_z x]) A (fun _ => some (ni_z (-1))) (ni_u2 (ni_u2 (ni_u2 (ni_u2 A (p) 4 ((A (p) 4) + 1)) (p + 7) ((A (p) 10).toNat) (x)) (p) 10 ((A (p) 10) + 1)) (p) 11 ((A (p) 11) + (x / 4096 % 512))) := by
  have h374 := (ni_usT hs).1
  refine ni_Dw (fun _ => Nat.le_of_ble_eq_true rfl) (fun _ => rfl) ?_
  intro M0 ad rw cp hR
  have h0 : ni_Sx St M0 ad rw cp M0 rw cp A (ni_live A) := ⟨hR, ni_KpR⟩
  have c0 := ni_clR A
  have hz0 : 0 ≤ x / 4096 % 512 := Int.emod_nonneg _ (by omega)
  have hz1 : x / 4096 % 512 < 512 := Int.emod_lt_of_pos _ (by omega)
  have hr0 : 0 ≤ (A p 4 + 1) % 3 := Int.emod_nonneg _ (by omega)
  have hr1 : (A p 4 + 1) % 3 < 3 := Int.emod_lt_of_pos _ (by omega)
  refine wp_Ld rfl rfl rfl ?_
  refine ws_P rfl (Nat.le_of_ble_eq_true rfl) rfl rfl (Nat.le_of_ble_eq_true rfl) (mt_sizeOf hx) ?_
  refine wp_St rfl rfl rfl ?_
  refine wp_Ld rfl rfl rfl ?_
  refine ws_Get (v := ni_z (A (p) 11)) rfl h0 hs hk rfl rfl rfl ?_
  refine wp_Ld rfl rfl rfl ?_
  refine wp_P rfl wp_add ?_
  refine wp_Ld rfl rfl rfl ?_
  refine ws_Get (v := ni_z (A (p) 2)) rfl h0 hs hk rfl rfl rfl ?_
  refine wp_Ic false rfl (zc_gt_f ⟨by omega, by omega⟩ ⟨by omega, by omega⟩ (by omega)) ?_
  refine wp_Ld rfl rfl rfl ?_
  refine ws_Get (v := ni_z (A (p) 10)) rfl h0 hs hk rfl rfl rfl ?_
  refine wp_P (g := ni_gPush (.int (250)) 25) rfl (wp_push (z := 250) rfl) ?_
  refine wp_Ic true rfl (zc_lt_t ⟨by omega, by omega⟩ ⟨by omega, by omega⟩ (by omega)) ?_
  refine wp_Ld rfl rfl rfl ?_
  refine ws_Get (v := ni_z (A (p) 3)) rfl h0 hs hk rfl rfl rfl ?_
  refine wp_If false rfl (zf_eq_f ⟨by omega, by omega⟩ (by omega)) ?_
  refine wp_P (g := ni_gPush (.int (2)) 38) rfl (wp_push (z := 2) rfl) ?_
  refine wp_Ld rfl rfl rfl ?_
  refine ws_Get (v := ni_z (A (p) 11)) rfl h0 hs hk rfl rfl rfl ?_
  refine wp_P rfl wp_mul ?_
  refine wp_Ld rfl rfl rfl ?_
  refine ws_Get (v := ni_z (A (p) 2)) rfl h0 hs hk rfl rfl rfl ?_
  refine wp_Ic false rfl (zc_lt_f ⟨by omega, by omega⟩ ⟨by omega, by omega⟩ (by omega)) ?_
  refine wp_Ld rfl rfl rfl ?_
  refine wp_P (g := ni_gDup 52) rfl rfl ?_
  refine ws_Get (v := ni_z (A (p) 4)) rfl h0 hs hk rfl rfl rfl ?_
  refine wp_P (g := ni_gPush (.int (1)) 56) rfl (wp_push (z := 1) rfl) ?_
  refine wp_P rfl wp_add ?_
  refine ws_Put rfl h0 hs hk rfl rfl (fun _ => rfl) rfl (fun z => absurd z (by decide)) ?_
  intro M1 h1
  have c1 := ni_clU (j := 4) (x := (A (p) 4) + 1) c0 hs hk rfl
  clear h0 c0
  refine wp_Ld rfl rfl rfl ?_
  refine ws_Get (v := ni_z ((A (p) 4) + 1)) rfl h1 hs hk rfl rfl (congrArg ni_z (ni_u2e)) ?_
  refine wp_P (g := ni_gPush (.int (3)) 65) rfl (wp_push (z := 3) rfl) ?_
  refine wp_P rfl (wp_I0 (c := (A (p) 4 + 1) % 3) (zi_rem ⟨by omega, by omega⟩ (by omega) (by omega))) ?_
  refine wp_If true rfl (zf_ne_t ⟨by omega, by omega⟩ (by omega)) ?_
  refine wp_Ld rfl rfl rfl ?_
  refine ws_Get (v := .ref (ad (p + 7))) rfl h1 hs hk rfl rfl rfl ?_
  refine wp_Ld rfl rfl rfl ?_
  refine ws_Get (v := ni_z (A (p) 10)) rfl h1 hs hk rfl rfl (congrArg ni_z (ni_u2n (Or.inr (by decide)))) ?_
  refine wp_Ld rfl rfl rfl ?_
  refine ws_Ast (j := (A (p) 10).toNat) (x := x) rfl h1 (ni_o5_7 hs hk).1 (ni_o5_7 hs hk).2.1 (ni_o5_7 hs hk).2.2.1 ⟨by decide, rfl⟩ (by omega) (by omega) (by decide) (Or.inr ⟨rfl, (ni_liveC (ni_o5_7 hs hk).2.2.2 (by omega)).symm⟩) (congrArg ni_z ni_u2e.symm) ⟨rfl, rfl⟩ ?_
  intro M2 h2
  have c2 := ni_cl1 (ni_clU (j := (A (p) 10).toNat) (x := x) c1 (ni_o5_7 hs hk).1 (ni_o5_7 hs hk).2.1 rfl) (Nat.le_succ_of_le (Nat.le_of_eq ((ni_liveC (ni_o5_7 hs hk).2.2.2 (by omega)).symm).symm))
  clear h1 c1
  refine wp_Ld rfl rfl rfl ?_
  refine wp_P (g := ni_gDup 83) rfl rfl ?_
  refine ws_Get (v := ni_z (A (p) 10)) rfl h2 hs hk rfl rfl (congrArg ni_z ((ni_u2n (Or.inl (by omega))).trans (ni_u2n (Or.inr (by decide))))) ?_
  refine wp_P (g := ni_gPush (.int (1)) 87) rfl (wp_push (z := 1) rfl) ?_
  refine wp_P rfl wp_add ?_
  refine ws_Put rfl h2 hs hk rfl rfl (fun _ => rfl) rfl (fun z => absurd z (by decide)) ?_
  intro M3 h3
  have c3 := ni_clC (x := (A (p) 10) + 1) c2 hs (by omega) (fun s' hs' e' => ni_inc5 hs hk hs' e' (by omega))
  clear h2 c2
  refine wp_Ld rfl rfl rfl ?_
  refine wp_P (g := ni_gDup 93) rfl rfl ?_
  refine ws_Get (v := ni_z (A (p) 11)) rfl h3 hs hk rfl rfl (congrArg ni_z ((ni_u2n (Or.inr (by decide))).trans ((ni_u2n (Or.inl (by omega))).trans (ni_u2n (Or.inr (by decide)))))) ?_
  refine wp_Ld rfl rfl rfl ?_
  refine wp_P rfl wp_add ?_
  refine ws_Put rfl h3 hs hk rfl rfl (fun _ => rfl) rfl (fun z => absurd z (by decide)) ?_
  intro M4 h4
  have c4 := ni_clU (j := 11) (x := (A (p) 11) + (x / 4096 % 512)) c3 hs hk rfl
  clear h3 c3
  refine wp_P (g := ni_gPush (.int (-1)) 102) rfl (wp_push (z := -1) rfl) ?_
  exact ws_R (v := fun _ => some (ni_z (-1))) rfl rfl h4 c4 rfl
end MPO
