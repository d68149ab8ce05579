/-! LETTERS THAT COME ARE KEPT, SENT ON -/
section NTM
variable {Z : (Nat → Nat) → Prop} {xs : List Int32} {St : Nat → Option ni_C} {A : Nat → Nat → Int}
/-- what a router keeps -/
def ni_RK (St : Nat → Option ni_C) (own : Nat → Int) (A : Nat → Nat → Int) (s : Nat) : Prop := ∀ o : Nat, o < 8 → 0 ≤ A (s + 4) o ∧ ni_GL St own (A (s + 4) o).toNat ∧ (ni_lof St (A (s + 4) o).toNat = o ∨ ni_lno St (A (s + 4) o).toNat = 0)
theorem ni_RKl {own : Nat → Int} {s : Nat} (h : ni_RK St own A s) : ni_LK St A s := fun o ho => ⟨(h o ho).1, (h o ho).2.1.1⟩
/-- letters on their way, what one router keeps, whether it is stale: these alone are others -/
def ni_fr3 (A A' : Nat → Nat → Int) (s : Nat) : Prop := ∀ s' j, ¬ ni_isL s' j → s' ≠ s + 4 → ¬ (s' = s ∧ j = 5) → A' s' j = A s' j
theorem ni_fr3t {A A' A2 : Nat → Nat → Int} {s : Nat} (h : ni_fr3 A A' s) (h' : ni_fr3 A' A2 s) : ni_fr3 A A2 s := fun s' j a b c => (h' s' j a b c).trans (h s' j a b c)
theorem ni_remLA {own : Nat → Int} {p d : Nat} (hp : ni_ln0 p) (hA : ni_LA St own A) (hd : (d : Int) ≤ A p 2) : ni_LA St own (ni_u2 (ni_mv A p d (A p 2).toNat) p 2 (A p 2 - d)) ∧ ni_frL A (ni_u2 (ni_mv A p d (A p 2).toNat) p 2 (A p 2 - d)) := by
  unfold ni_ln0 at hp
  have h0 := (hA p hp).1
  refine ⟨fun q hq => ?_, fun s j h => ?_⟩
  · unfold ni_ln0 at hq
    by_cases e : q = p
    · subst e
      refine ⟨by rw [ni_u2e]; omega, fun j hj => ?_⟩
      rw [ni_u2e] at hj
      rw [ni_u2n (by omega), ni_u2n (by omega)]
      unfold ni_mv
      rw [if_pos ⟨Or.inl rfl, by omega⟩, if_pos ⟨Or.inr rfl, by omega⟩]
      exact (hA q hq).2 (j + d) (by omega)
    · refine ⟨by rw [ni_u2n (by omega), ni_mvN (by omega)]; exact (hA q hq).1, fun j hj => ?_⟩
      rw [ni_u2n (by omega), ni_mvN (by omega)] at hj
      rw [ni_u2n (by omega), ni_mvN (by omega), ni_u2n (by omega), ni_mvN (by omega)]
      exact (hA q hq).2 j hj
  · unfold ni_isL at h
    rw [ni_u2n (by omega), ni_mvN (by omega)]
theorem mt_tlX {own : Nat → Int} {p v : Nat} {li x3 x6 : Int} {a4 : Nat} {w7 : Value} {P : Option ni_a → (Nat → Nat → Int) → Prop} (hs : ni_us p = true) (hk : ni_kd p = 2) (hp : ni_ln0 p) (hLA : ni_LA St own A) (hv : (v : Int) ≤ A p 2) (hP : P none (ni_u2 (ni_mv A p v (A p 2).toNat) p 2 (A p 2 - v))) : ni_E xs St Z 5 92 80 [ni_aP (0), ni_aI (li), ni_aP (p), ni_aI (x3), ni_aP (a4), ni_aI ((v : Int)), ni_aI (x6), .inl w7] [] A (ni_live A) P := by
  have h374 := (ni_usT hs).1
  refine E_Ld (q := 81) rfl rfl (fun _ _ => rfl) ?_
  refine E_Ld (q := 83) rfl rfl (fun _ _ => rfl) ?_
  have hrem := mt_rem (xs := xs) (St := St) (A := A) (d := v) hs hk (hLA p hp).1.2 hv (fun j hj => ⟨((hLA p hp).2 j hj).1, ni_GLc ((hLA p hp).2 j hj).2.1⟩)
  refine E_V (q := 86) (w := none) rfl rfl rfl hs hk rfl (Nat.le_of_ble_eq_true rfl) (fun _ _ _ => rfl) (ni_Dup hrem (by decide)) (fun _ _ => rfl) (fun _ _ => rfl) ?_
  refine E_Rv rfl rfl ?_
  exact hP
theorem mt_tlL {own : Nat → Int} {p v r : Nat} {li : Int} {A0 : Nat → Nat → Int} {P : Option ni_a → (Nat → Nat → Int) → Prop} (hs : ni_us p = true) (hk : ni_kd p = 2) (hp : ni_ln0 p) (hr : r < 8) (hli : 0 ≤ li ∧ li ≤ 100) (hLB0 : ni_LB A0) (hLV0 : ni_LV A0) (ht0 : 0 ≤ A0 0 0 ∧ A0 0 0 ≤ 900000) (hlc0 : 0 ≤ A0 0 2 ∧ A0 0 2 ≤ 14) (hrc0 : (r : Int) < A0 0 1) (hown : own r = ni_lno St (A0 (286 + 11 * r + 4) r).toNat) : ∀ k i : Nat, i + k = v → ∀ (A : Nat → Nat → Int) (w7 : Value), (v : Int) ≤ A p 2 → ni_fr3 A0 A (286 + 11 * r) → ni_LA St own A → ni_RK St own A (286 + 11 * r) → A (286 + 11 * r + 4) r = A0 (286 + 11 * r + 4) r → (A (286 + 11 * r) 5 = A0 (286 + 11 * r) 5 ∨ A (286 + 11 * r) 5 = 1) → (∀ q, ni_ln0 q → 48 + 17 * A0 0 2 ≤ q → A q 2 = A0 q 2) → (∀ A2 : Nat → Nat → Int, (v : Int) ≤ A2 p 2 → ni_fr3 A0 A2 (286 + 11 * r) → ni_LA St own A2 → ni_RK St own A2 (286 + 11 * r) → A2 (286 + 11 * r + 4) r = A0 (286 + 11 * r + 4) r → (A2 (286 + 11 * r) 5 = A0 (286 + 11 * r) 5 ∨ A2 (286 + 11 * r) 5 = 1) → (∀ q, ni_ln0 q → 48 + 17 * A0 0 2 ≤ q → A2 q 2 = A0 q 2) → P none (ni_u2 (ni_mv A2 p v (A2 p 2).toNat) p 2 (A2 p 2 - v))) → ni_E xs St Z 5 92 21 [ni_aP (0), ni_aI (li), ni_aP (p), ni_aI ((r : Int)), ni_aP (286 + 11 * r), ni_aI ((v : Int)), ni_aI ((i : Int)), .inl w7] [] A (ni_live A) P := by
  have h374 := (ni_usT hs).1
  intro k
  induction k with
  | zero =>
    intro i hi A w7 hvp hf hLA hRK hwr h5 hdd hP
    have : i = v := by omega
    subst this
    have hvp2 := (hLA p hp).1
    refine E_Ld (q := 23) rfl rfl (fun _ _ => rfl) ?_
    refine E_Ld (q := 25) rfl rfl (fun _ _ => rfl) ?_
    refine E_Ic true rfl (zc_ge_t ⟨by omega, by omega⟩ ⟨by omega, by omega⟩ (by omega)) ?_
    refine mt_tlX hs hk hp hLA hvp ?_
    exact hP A hvp hf hLA hRK hwr h5 hdd
  | succ k ih =>
    intro i hi A w7 hvp hf hLA hRK hwr h5 hdd hP
    have fA : ∀ s' j, ¬ ni_isL s' j → s' ≠ 286 + 11 * r + 4 → ¬ (s' = 286 + 11 * r ∧ j = 5) → A s' j = A0 s' j := hf
    have hLB : ni_LB A := ni_LBf hLB0 (fun l j hl => hf _ _ (by unfold ni_isL; omega) (by omega) (by omega))
    have hLV : ni_LV A := ni_LVf hLV0 (fun l j hl => hf _ _ (by unfold ni_isL; omega) (by omega) (by omega))
    have ht : 0 ≤ A 0 0 ∧ A 0 0 ≤ 900000 := by rw [hf _ _ (by unfold ni_isL; omega) (by omega) (by omega)]; exact ht0
    have hlc : 0 ≤ A 0 2 ∧ A 0 2 ≤ 14 := by rw [hf _ _ (by unfold ni_isL; omega) (by omega) (by omega)]; exact hlc0
    have hrc : (r : Int) < A 0 1 := by rw [hf _ _ (by unfold ni_isL; omega) (by omega) (by omega)]; exact hrc0
    obtain ⟨_, hGb, _, _⟩ := (hLA p hp).2 i (by omega)
    obtain ⟨o', n1, s1, ca1, na1, cs1, ns1, hb, ho', hn1', hs1, _⟩ := hGb.1
    obtain ⟨o, rfl⟩ := Int.eq_ofNat_of_zero_le ho'.1
    have hn1 := ni_lnoE hb ⟨by omega, by omega⟩ ⟨by omega, by omega⟩
    have hko := hRK o (by omega)
    obtain ⟨o2, n2, s2, ca2, na2, cs2, ns2, hb2, ho2, hn2', hs2, _⟩ := hko.2.1.1
    have hn2 := ni_lnoE hb2 ⟨by omega, by omega⟩ ⟨by omega, by omega⟩
    have hvp2 := (hLA p hp).1
    refine E_Ld (q := 23) rfl rfl (fun _ _ => rfl) ?_
    refine E_Ld (q := 25) rfl rfl (fun _ _ => rfl) ?_
    refine E_Ic false rfl (zc_ge_f ⟨by omega, by omega⟩ ⟨by omega, by omega⟩ (by omega)) ?_
    refine E_Ld (q := 29) rfl rfl (fun _ _ => rfl) ?_
    refine E_Get (q := 32) (v := ni_aR (p + 1)) rfl hs hk rfl rfl (fun _ _ => rfl) ?_
    refine E_Ld (q := 34) rfl rfl (fun _ _ => rfl) ?_
    refine E_QldR (q := 35) (j := i) rfl hs hk rfl (by omega) (by omega) ?_
    refine E_St (q := 37) (ls' := [ni_aP (0), ni_aI (li), ni_aP (p), ni_aI ((r : Int)), ni_aP (286 + 11 * r), ni_aI ((v : Int)), ni_aI ((i : Int)), ni_aL ((A (p + 1) (i)).toNat)]) rfl (fun _ _ => rfl) (fun _ _ => rfl) ?_
    refine E_Ld (q := 39) rfl rfl (fun _ _ => rfl) ?_
    refine E_GetS (q := 42) (v := ni_aI (n1)) rfl hb (fun _ _ => rfl) ?_
    refine E_Ld (q := 44) rfl rfl (fun _ _ => rfl) ?_
    refine E_Get (q := 47) (v := ni_aP (286 + 11 * r + 4)) rfl (ni_roS r hr).1 (ni_roS r hr).2 rfl rfl (fun _ _ => rfl) ?_
    refine E_Ld (q := 49) rfl rfl (fun _ _ => rfl) ?_
    refine E_GetS (q := 52) (v := ni_aI ((o : Int))) rfl hb (fun _ _ => rfl) ?_
    refine E_Qld (q := 53) (j := o) (v := ni_aL (A (286 + 11 * r + 4) (o)).toNat) rfl (ni_o7_4 (ni_roS r hr).1 (ni_roS r hr).2).1 (ni_o7_4 (ni_roS r hr).1 (ni_roS r hr).2).2.1 (ni_o7_4 (ni_roS r hr).1 (ni_roS r hr).2).2.2.1 ⟨by decide, rfl⟩ rfl (by omega) (by decide) (ni_L7 (ni_o7_4 (ni_roS r hr).1 (ni_roS r hr).2).1 (ni_ctR r hr) hrc (by omega)) (fun _ _ => rfl) (fun _ _ => rfl) ?_
    refine E_GetS (q := 56) (v := ni_aI (n2)) rfl hb2 (fun _ _ => rfl) ?_
    by_cases g56 : n1 ≤ n2
    · refine E_Ic true rfl (zc_le_t ⟨by omega, by omega⟩ ⟨by omega, by omega⟩ g56) ?_
      refine E_Inc (q := 77) (ls' := [ni_aP (0), ni_aI (li), ni_aP (p), ni_aI ((r : Int)), ni_aP (286 + 11 * r), ni_aI ((v : Int)), ni_aI ((i : Int) + 1), ni_aL ((A (p + 1) (i)).toNat)]) (z := 1) rfl rfl rfl (fun _ _ => rfl) ?_
      refine E_Go (q := 21) rfl ?_
      exact ih (i + 1) (by omega) A _ hvp hf hLA hRK hwr h5 hdd hP
    · refine E_Ic false rfl (zc_le_f ⟨by omega, by omega⟩ ⟨by omega, by omega⟩ g56) ?_
      refine E_Ld (q := 61) rfl rfl (fun _ _ => rfl) ?_
      refine E_Ld (q := 63) rfl rfl (fun _ _ => rfl) ?_
      refine E_V (q := 66) (w := none) rfl rfl rfl (ni_roS r hr).1 (ni_roS r hr).2 rfl (Nat.le_of_ble_eq_true rfl) (fun _ _ _ => rfl) (ni_Dup (mt_keep (r := 286 + 11 * r) (ni_roS r hr).1 (ni_roS r hr).2 hb (by omega)) (by decide)) (fun _ _ => rfl) (fun _ _ => rfl) ?_
      generalize hB : ni_u2 (ni_u2 A (286 + 11 * r + 4) o ((A (p + 1) i).toNat : Int)) (286 + 11 * r) 5 1 = B
      have fB : ∀ s' j', ¬ (s' = 286 + 11 * r + 4 ∧ j' = o) → ¬ (s' = 286 + 11 * r ∧ j' = 5) → B s' j' = A s' j' := fun s' j' h1 h2 => by rw [← hB, ni_u2n (by omega), ni_u2n (by omega)]
      have eB : B (286 + 11 * r + 4) o = ((A (p + 1) i).toNat : Int) := by rw [← hB, ni_u2n (by omega), ni_u2e]
      have eB5 : B (286 + 11 * r) 5 = 1 := by rw [← hB, ni_u2e]
      have hor : o ≠ r := fun z => by
        have q1 := hGb.2
        have q2 := hn2.1
        rw [z] at q2
        rw [hn1.2, hn1.1, Int.toNat_natCast, z, hown, ← hwr, q2] at q1
        exact g56 q1
      refine E_Ld (q := 67) rfl rfl (fun _ _ => rfl) ?_
      refine E_Ld (q := 68) rfl rfl (fun _ _ => rfl) ?_
      refine E_Ld (q := 70) rfl rfl (fun _ _ => rfl) ?_
      refine E_Ld (q := 71) rfl rfl (fun _ _ => rfl) ?_
      obtain ⟨v2, A2, ⟨hv2, k1, k2, k3⟩, hDc⟩ := mt_tellO (xs := xs) (St := St) (own := own) (A := B) (r := r) (b := (A (p + 1) i).toNat) (bu := li) hr (by omega) hGb (ni_LBf hLB (fun l j hl => fB _ _ (by omega) (by omega))) (ni_LVf hLV (fun l j hl => fB _ _ (by omega) (by omega))) (by rw [fB _ _ (by omega) (by omega)]; exact ht) (by rw [fB _ _ (by omega) (by omega)]; exact hlc) (fun q hq => by
        have := hLA q hq
        unfold ni_ln0 at hq
        unfold ni_LL
        rw [fB _ _ (by omega) (by omega)]
        refine ⟨this.1, fun j hj => ?_⟩
        rw [fB _ _ (by omega) (by omega), fB _ _ (by omega) (by omega)]
        exact this.2 j hj)
      subst hv2
      refine E_V (q := 74) (w := none) rfl rfl rfl (show ni_us 0 = true by decide +kernel) (show ni_kd 0 = 4 by decide +kernel) rfl (Nat.le_of_ble_eq_true rfl) (fun _ _ _ => rfl) (hDc) (fun _ _ => rfl) (fun _ _ => rfl) ?_
      refine E_Inc (q := 77) (ls' := [ni_aP (0), ni_aI (li), ni_aP (p), ni_aI ((r : Int)), ni_aP (286 + 11 * r), ni_aI ((v : Int)), ni_aI ((i : Int) + 1), ni_aL ((A (p + 1) (i)).toNat)]) (z := 1) rfl rfl rfl (fun _ _ => rfl) ?_
      refine E_Go (q := 21) rfl ?_
      have e4 : ∀ o', A2 (286 + 11 * r + 4) o' = B (286 + 11 * r + 4) o' := fun o' => k1 _ _ (by unfold ni_isL; omega)
      refine ih (i + 1) (by omega) A2 _ (by have := (k3 p hp).1; rw [fB _ _ (by unfold ni_ln0 at hp; omega) (by unfold ni_ln0 at hp; omega)] at this; omega) (fun s' j h1 h2 h3 => ?_) k2 (fun o' ho' => ?_) (by rw [e4, fB _ _ (by omega) (by omega)]; exact hwr) ?_ ?_ hP
      · rw [k1 _ _ h1, fB _ _ (by omega) (by omega)]
        exact hf s' j h1 h2 h3
      · rw [e4]
        by_cases eo : o' = o
        · subst eo
          rw [eB, Int.toNat_natCast]
          exact ⟨by omega, hGb, Or.inl (by rw [hn1.2, Int.toNat_natCast])⟩
        · rw [fB _ _ (by omega) (by omega)]
          exact hRK o' ho'
      · exact Or.inr (by rw [k1 _ _ (by unfold ni_isL; omega)]; exact eB5)
      · intro q hq z
        have hq' := hq
        unfold ni_ln0 at hq'
        rw [(k3 q hq).2 (by rw [fB _ _ (by omega) (by omega), hf _ _ (by unfold ni_isL; omega) (by omega) (by omega)]; exact z), fB _ _ (by omega) (by omega)]
        exact hdd q hq z
theorem mt_takeLt {own : Nat → Int} {p r : Nat} {li : Int} (hs : ni_us p = true) (hk : ni_kd p = 2) (hp : ni_ln0 p) (hp2 : (p : Int) < 48 + 17 * A 0 2) (hr : r < 8) (hli : 0 ≤ li ∧ li ≤ 100) (hLB : ni_LB A) (hLV : ni_LV A) (ht : 0 ≤ A 0 0 ∧ A 0 0 ≤ 900000) (hlc : 0 ≤ A 0 2 ∧ A 0 2 ≤ 14) (hrc : (r : Int) < A 0 1) (hown : own r = ni_lno St (A (286 + 11 * r + 4) r).toNat) (hLA : ni_LA St own A) (hRK : ni_RK St own A (286 + 11 * r)) : ni_M xs St 6 92 [ni_aP 0, ni_aI li, ni_aP p, ni_aI (r : Int)] A (fun v A' => v = none ∧ ni_fr3 A A' (286 + 11 * r) ∧ ni_LA St own A' ∧ ni_RK St own A' (286 + 11 * r) ∧ A' (286 + 11 * r + 4) r = A (286 + 11 * r + 4) r ∧ (A' (286 + 11 * r) 5 = A (286 + 11 * r) 5 ∨ A' (286 + 11 * r) 5 = 1) ∧ ∀ q, ni_ln0 q → 48 + 17 * A 0 2 ≤ q → A' q 2 = A q 2) := by
  have h374 := (ni_usT hs).1
  refine ni_Min (ls := [ni_aP (0), ni_aI (li), ni_aP (p), ni_aI ((r : Int)), .inl ni_J, .inl ni_J, .inl ni_J, .inl ni_J]) (fun _ => Nat.le_of_ble_eq_true rfl) (fun _ _ => rfl) ?_
  refine E_Ld (q := 1) rfl rfl (fun _ _ => rfl) ?_
  refine E_Get (q := 4) (v := ni_aP 1) rfl (show ni_us 0 = true by decide +kernel) (show ni_kd 0 = 4 by decide +kernel) rfl rfl (fun _ _ => rfl) ?_
  refine E_Ld (q := 5) rfl rfl (fun _ _ => rfl) ?_
  refine E_Qld (q := 6) (j := r) (v := ni_aP (286 + 11 * r)) rfl (show ni_us 1 = true by decide +kernel) (show ni_kd 1 = 101 by decide +kernel) (show ni_ln 1 = 8 by decide +kernel) ⟨by decide, rfl⟩ rfl (by omega) (by decide) (ni_L9 (show ni_us 1 = true by decide +kernel) (by decide +kernel) (by omega)) (fun _ _ => rfl) (fun _ _ => rfl) ?_
  refine E_St (q := 8) (ls' := [ni_aP (0), ni_aI (li), ni_aP (p), ni_aI ((r : Int)), ni_aP (286 + 11 * r), .inl ni_J, .inl ni_J, .inl ni_J]) rfl (fun _ _ => rfl) (fun _ _ => rfl) ?_
  refine E_Ld (q := 9) rfl rfl (fun _ _ => rfl) ?_
  refine E_Ld (q := 10) rfl rfl (fun _ _ => rfl) ?_
  refine E_GetI (q := 13) (e := A (0) 0) rfl (show ni_us 0 = true by decide +kernel) (show ni_kd 0 = 4 by decide +kernel) rfl rfl (fun _ _ => rfl) ?_
  obtain ⟨v', hdu, hv1, hv2⟩ := mt_due (xs := xs) (St := St) (A := A) (l := p) (t := A 0 0) (by omega) hs hk (hLA p hp).1 (fun j hj => ((hLA p hp).2 j hj).2.2)
  obtain ⟨v, rfl⟩ := Int.eq_ofNat_of_zero_le hv1.1
  refine E_V (q := 16) (w := some (ni_aI ((v : Int)))) rfl rfl rfl hs hk rfl (Nat.le_of_ble_eq_true rfl) (fun _ _ _ => rfl) (ni_Dup hdu (by decide)) (fun _ _ => rfl) (fun _ _ => rfl) ?_
  refine E_St (q := 18) (ls' := [ni_aP (0), ni_aI (li), ni_aP (p), ni_aI ((r : Int)), ni_aP (286 + 11 * r), ni_aI ((v : Int)), .inl ni_J, .inl ni_J]) rfl (fun _ _ => rfl) (fun _ _ => rfl) ?_
  refine E_push (q := 19) (c := 0) (z := 0) rfl rfl ?_
  refine E_St (q := 21) (ls' := [ni_aP (0), ni_aI (li), ni_aP (p), ni_aI ((r : Int)), ni_aP (286 + 11 * r), ni_aI ((v : Int)), ni_aI (0), .inl ni_J]) rfl (fun _ _ => rfl) (fun _ _ => rfl) ?_
  refine mt_tlL hs hk hp hr hli hLB hLV ht hlc hrc hown v 0 (by omega) A _ hv1.2 (fun _ _ _ _ _ => rfl) hLA hRK rfl (Or.inl rfl) (fun _ _ _ => rfl) (fun A2 q1 q2 q3 q4 q5 q6 q7 => ?_)
  obtain ⟨z1, z2⟩ := ni_remLA (d := v) hp q3 q1
  unfold ni_ln0 at hp
  have z3 : ∀ o, ni_u2 (ni_mv A2 p v (A2 p 2).toNat) p 2 (A2 p 2 - v) (286 + 11 * r + 4) o = A2 (286 + 11 * r + 4) o := fun o => z2 _ _ (by unfold ni_isL; omega)
  refine ⟨rfl, fun s' j h1 h2 h3 => (z2 _ _ h1).trans (q2 _ _ h1 h2 h3), z1, fun o ho => ?_, by rw [z3]; exact q5, ?_, fun q hq z => ?_⟩
  · rw [z3]
    exact q4 o ho
  · rw [z2 _ _ (by unfold ni_isL; omega)]
    exact q6
  · unfold ni_ln0 at hq
    rw [ni_u2n (by omega), ni_mvN (by omega)]
    exact q7 q hq z
theorem mt_takeL0 {own : Nat → Int} {p r : Nat} {li : Int} (hs : ni_us p = true) (hk : ni_kd p = 2) (hp : ni_ln0 p) (hr : r < 8) (ht : 0 ≤ A 0 0 ∧ A 0 0 ≤ 900000) (hLA : ni_LA St own A) (h0 : A p 2 = 0) : ni_M xs St 6 92 [ni_aP 0, ni_aI li, ni_aP p, ni_aI (r : Int)] A (fun v A' => v = none ∧ A' = A) := by
  have h374 := (ni_usT hs).1
  refine ni_Min (ls := [ni_aP (0), ni_aI (li), ni_aP (p), ni_aI ((r : Int)), .inl ni_J, .inl ni_J, .inl ni_J, .inl ni_J]) (fun _ => Nat.le_of_ble_eq_true rfl) (fun _ _ => rfl) ?_
  refine E_Ld (q := 1) rfl rfl (fun _ _ => rfl) ?_
  refine E_Get (q := 4) (v := ni_aP 1) rfl (show ni_us 0 = true by decide +kernel) (show ni_kd 0 = 4 by decide +kernel) rfl rfl (fun _ _ => rfl) ?_
  refine E_Ld (q := 5) rfl rfl (fun _ _ => rfl) ?_
  refine E_Qld (q := 6) (j := r) (v := ni_aP (286 + 11 * r)) rfl (show ni_us 1 = true by decide +kernel) (show ni_kd 1 = 101 by decide +kernel) (show ni_ln 1 = 8 by decide +kernel) ⟨by decide, rfl⟩ rfl (by omega) (by decide) (ni_L9 (show ni_us 1 = true by decide +kernel) (by decide +kernel) (by omega)) (fun _ _ => rfl) (fun _ _ => rfl) ?_
  refine E_St (q := 8) (ls' := [ni_aP (0), ni_aI (li), ni_aP (p), ni_aI ((r : Int)), ni_aP (286 + 11 * r), .inl ni_J, .inl ni_J, .inl ni_J]) rfl (fun _ _ => rfl) (fun _ _ => rfl) ?_
  refine E_Ld (q := 9) rfl rfl (fun _ _ => rfl) ?_
  refine E_Ld (q := 10) rfl rfl (fun _ _ => rfl) ?_
  refine E_GetI (q := 13) (e := A (0) 0) rfl (show ni_us 0 = true by decide +kernel) (show ni_kd 0 = 4 by decide +kernel) rfl rfl (fun _ _ => rfl) ?_
  obtain ⟨v', hdu, hv1, hv2⟩ := mt_due (xs := xs) (St := St) (A := A) (l := p) (t := A 0 0) (by omega) hs hk (hLA p hp).1 (fun j hj => ((hLA p hp).2 j hj).2.2)
  obtain rfl : v' = 0 := by omega
  refine E_V (q := 16) (w := some (ni_aI (((0 : Nat) : Int)))) rfl rfl rfl hs hk rfl (Nat.le_of_ble_eq_true rfl) (fun _ _ _ => rfl) (ni_Dup hdu (by decide)) (fun _ _ => rfl) (fun _ _ => rfl) ?_
  refine E_St (q := 18) (ls' := [ni_aP (0), ni_aI (li), ni_aP (p), ni_aI ((r : Int)), ni_aP (286 + 11 * r), ni_aI (((0 : Nat) : Int)), .inl ni_J, .inl ni_J]) rfl (fun _ _ => rfl) (fun _ _ => rfl) ?_
  refine E_push (q := 19) (c := 0) (z := 0) rfl rfl ?_
  refine E_St (q := 21) (ls' := [ni_aP (0), ni_aI (li), ni_aP (p), ni_aI ((r : Int)), ni_aP (286 + 11 * r), ni_aI (((0 : Nat) : Int)), ni_aI (0), .inl ni_J]) rfl (fun _ _ => rfl) (fun _ _ => rfl) ?_
  refine E_Ld (q := 23) rfl rfl (fun _ _ => rfl) ?_
  refine E_Ld (q := 25) rfl rfl (fun _ _ => rfl) ?_
  refine E_Ic true rfl (zc_ge_t ⟨by omega, by omega⟩ ⟨by omega, by omega⟩ (by omega)) ?_
  refine E_Ld (q := 81) rfl rfl (fun _ _ => rfl) ?_
  refine E_Ld (q := 83) rfl rfl (fun _ _ => rfl) ?_
  have hrem := mt_rem (xs := xs) (St := St) (A := A) (d := 0) hs hk (hLA p hp).1.2 (by omega) (fun j hj => ⟨((hLA p hp).2 j hj).1, ni_GLc ((hLA p hp).2 j hj).2.1⟩)
  refine E_V (q := 86) (w := none) rfl rfl rfl hs hk rfl (Nat.le_of_ble_eq_true rfl) (fun _ _ _ => rfl) (ni_Dup hrem (by decide)) (fun _ _ => rfl) (fun _ _ => rfl) ?_
  refine E_Rv rfl rfl ?_
  refine ⟨rfl, ?_⟩
  funext s j
  by_cases e : s = p ∧ j = 2
  · rw [e.1, e.2, ni_u2e]
    omega
  · rw [ni_u2n (by omega), ni_mvN (by omega)]
end NTM
