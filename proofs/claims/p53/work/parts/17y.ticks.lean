/-! TICKS ONE AFTER ANOTHER -/
section NTK2
variable {Z : (Nat → Nat) → Prop} {m n0 n1 : Nat} {xs : List Int32} {St : Nat → Option ni_C} {A : Nat → Nat → Int}
/-- what a tick makes, as a function -/
theorem nq_tkE (xs : List Int32) (St : Nat → Option ni_C) (own : Nat → Int) (e : Int) (A : Nat → Nat → Int) : ∃ A' : Nat → Nat → Int, nq_Inv St own A e → e ≤ 600000 → A 0 0 ≤ 800000 → nq_TP St own A e none A' ∧ ni_Dc xs St 7 96 (fun ad => [.ref (ad 0)]) A (fun _ => none) A' := by
  by_cases h : nq_Inv St own A e ∧ e ≤ 600000 ∧ A 0 0 ≤ 800000
  · obtain ⟨v, A', h1, h2⟩ := mt_tick (xs := xs) h.1 h.2.1 h.2.2
    have hv := h1.1
    subst hv
    exact ⟨A', fun _ _ _ => ⟨h1, h2⟩⟩
  · exact ⟨A, fun a b c => absurd ⟨a, b, c⟩ h⟩
noncomputable def nq_tk (xs : List Int32) (St : Nat → Option ni_C) (own : Nat → Int) (e : Int) (A : Nat → Nat → Int) : Nat → Nat → Int := Classical.choose (nq_tkE xs St own e A)
theorem nq_tkP {own : Nat → Int} {e : Int} (h : nq_Inv St own A e) (he : e ≤ 600000) (ht : A 0 0 ≤ 800000) : nq_TP St own A e none (nq_tk xs St own e A) ∧ ni_Dc xs St 7 96 (fun ad => [.ref (ad 0)]) A (fun _ => none) (nq_tk xs St own e A) := Classical.choose_spec (nq_tkE xs St own e A) h he ht
noncomputable def nq_it (xs : List Int32) (St : Nat → Option ni_C) (own : Nat → Int) (e : Int) (A : Nat → Nat → Int) : Nat → Nat → Nat → Int
  | 0 => A
  | n + 1 => nq_tk xs St own (e + 400 * n) (nq_it xs St own e A n)
/-- no letter is on its way -/
def nq_quiet (A : Nat → Nat → Int) : Prop := ∀ q, ni_ln0 q → A q 2 = 0
/-- behind some ticks -/
def nq_TQ (St : Nat → Option ni_C) (own : Nat → Int) (A : Nat → Nat → Int) (e : Int) (n : Nat) (A' : Nat → Nat → Int) : Prop := nq_Inv St own A' (e + 400 * n) ∧ A' 0 0 = A 0 0 + n ∧ (∀ s j, 0 < s + j → s < 12 → A' s j = A s j) ∧ (∀ l : Nat, l < 14 → ∀ j, A' (48 + 17 * l) j = A (48 + 17 * l) j) ∧ (∀ s j, nq_dead A s → A' s j = A s j)
theorem nq_itP {own : Nat → Int} {e : Int} (h : nq_Inv St own A e) : ∀ n : Nat, e + 400 * n ≤ 600000 → A 0 0 + n ≤ 800000 → nq_TQ St own A e n (nq_it xs St own e A n) := by
  intro n
  induction n with
  | zero =>
    intro _ _
    refine ⟨by rw [show e + 400 * ((0 : Nat) : Int) = e by omega]; exact h, by show A 0 0 = A 0 0 + ((0 : Nat) : Int); omega, fun _ _ _ _ => rfl, fun _ _ _ => rfl, fun _ _ _ => rfl⟩
  | succ n ih =>
    intro he ht
    obtain ⟨a1, a2, a3, a4, a5⟩ := ih (by omega) (by omega)
    obtain ⟨_, b1, b2, b3, b4, b5, b6⟩ := (nq_tkP (xs := xs) a1 (by omega) (by omega)).1
    have e1 : nq_it xs St own e A (n + 1) = nq_tk xs St own (e + 400 * n) (nq_it xs St own e A n) := rfl
    rw [← e1] at b1 b2 b3 b4 b5
    refine ⟨by rw [show e + 400 * ((n + 1 : Nat) : Int) = e + 400 * n + 400 by omega]; exact b1, by omega, fun s j h1 h2 => (b3 s j h1 h2).trans (a3 s j h1 h2), fun l hl j => (b4 l hl j).trans (a4 l hl j), fun s j hd => ?_⟩
    rw [b5 s j ?_]
    · exact a5 s j hd
    · unfold nq_dead at hd ⊢
      rw [a3 0 1 (by omega) (by omega), a3 0 2 (by omega) (by omega), a3 0 3 (by omega) (by omega)]
      exact hd
theorem nq_itD {own : Nat → Int} {e : Int} (h : nq_Inv St own A e) (n : Nat) (he : e + 400 * (n + 1) ≤ 600000) (ht : A 0 0 + (n + 1) ≤ 800000) : ni_Dc xs St 7 96 (fun ad => [.ref (ad 0)]) (nq_it xs St own e A n) (fun _ => none) (nq_it xs St own e A (n + 1)) ∧ (nq_quiet (nq_it xs St own e A n) → nq_quiet (nq_it xs St own e A (n + 1))) := by
  obtain ⟨a1, a2, _⟩ := nq_itP (xs := xs) h n (by omega) (by omega)
  obtain ⟨b1, b2⟩ := nq_tkP (xs := xs) a1 (by omega) (by omega)
  exact ⟨b2, b1.2.2.2.2.2.2⟩
/-- letters on their way: none, if and only if each line is empty -/
theorem nq_wayB {own : Nat → Int} (hLA : ni_LA St own A) : ∀ n : Nat, n ≤ 14 → 0 ≤ ni_lw A n ∧ ni_lw A n ≤ 4096 * n ∧ (ni_lw A n = 0 ↔ ∀ l : Nat, l < n → A (50 + 17 * l) 2 = 0 ∧ A (58 + 17 * l) 2 = 0) := by
  intro n
  induction n with
  | zero => intro _; exact ⟨Int.le_refl _, Int.le_refl _, fun _ l hl => by omega, fun _ => rfl⟩
  | succ n ih =>
    intro hn
    obtain ⟨h1, h2, h3⟩ := ih (by omega)
    have b1 := (hLA (50 + 17 * n) (by unfold ni_ln0; omega)).1
    have b2 := (hLA (58 + 17 * n) (by unfold ni_ln0; omega)).1
    have e : ni_lw A (n + 1) = ni_lw A n + (A (50 + 17 * n) 2 + A (58 + 17 * n) 2) := by
      rw [show 50 + 17 * n = 48 + 17 * n + 1 + 1 by omega, show 58 + 17 * n = 48 + 17 * n + 9 + 1 by omega]
      rfl
    rw [e]
    refine ⟨by omega, by omega, fun h l hl => ?_, fun h => ?_⟩
    · by_cases el : l = n
      · rw [el]
        omega
      · exact h3.mp (by omega) l (by omega)
    · have := h3.mpr (fun l hl => h l (by omega))
      have := h n (by omega)
      omega
theorem nq_way {own : Nat → Int} {e : Int} (h : nq_Inv St own A e) : (0 ≤ ni_lw A (A 0 2).toNat ∧ ni_lw A (A 0 2).toNat ≤ 100000) ∧ (ni_lw A (A 0 2).toNat = 0 ↔ nq_quiet A) := by
  obtain ⟨hNI, hC, hLE, hLD, hLV, hlc, hLA, hRK, hRT, hPL, hdead⟩ := h
  obtain ⟨h1, h2, h3⟩ := nq_wayB hLA (A 0 2).toNat (by omega)
  refine ⟨⟨h1, by omega⟩, h3.trans ⟨fun g q hq => ?_, fun g l hl => ⟨g _ (by unfold ni_ln0; omega), g _ (by unfold ni_ln0; omega)⟩⟩⟩
  unfold ni_ln0 at hq
  obtain ⟨l, hl, hql⟩ : ∃ l : Nat, l < 14 ∧ (q = 50 + 17 * l ∨ q = 58 + 17 * l) := ⟨(q - 50) / 17, by omega, by omega⟩
  by_cases hx : l < (A 0 2).toNat
  · have := g l hx
    rcases hql with r | r <;> rw [r]
    · exact this.1
    · exact this.2
  · have := hdead l hl (by omega)
    rcases hql with r | r <;> rw [r]
    · exact this.2.1
    · exact this.2.2
theorem mt_stL {own : Nat → Int} {e : Int} {k0 : Nat} (hm : St m = some (9, [.ref n0, .ref n1])) (hZ : ∀ ad, Z ad → ad 0 = n0) (h : nq_Inv St own A e) (hk : 1 ≤ k0 ∧ k0 ≤ 60) (he : e + 400 * k0 ≤ 600000) (ht : A 0 0 + k0 ≤ 800000) : ∀ k i : Nat, i + k = k0 → ni_E xs St Z 24 46 9 [ni_aL (m), ni_aI ((k0 : Int)), ni_aI ((i : Int))] [] (nq_it xs St own e A i) (ni_live (nq_it xs St own e A i)) (fun v A' => v = some (ni_aI (A 0 0 + k0)) ∧ A' = nq_it xs St own e A k0) := by
  intro k
  induction k with
  | zero =>
    intro i hi
    refine E_Ld (q := 10) rfl rfl (fun _ _ => rfl) ?_
    refine E_Ld (q := 11) rfl rfl (fun _ _ => rfl) ?_
    refine E_Ic true rfl (zc_ge_t ⟨by omega, by omega⟩ ⟨by omega, by omega⟩ (by omega)) ?_
    refine E_Ld (q := 28) rfl rfl (fun _ _ => rfl) ?_
    refine E_GetT (q := 31) rfl hm hZ ?_
    refine E_GetI (q := 34) (e := (nq_it xs St own e A i) (0) 0) rfl (show ni_us 0 = true by decide +kernel) (show ni_kd 0 = 4 by decide +kernel) rfl rfl (fun _ _ => rfl) ?_
    refine E_R rfl (fun _ _ => rfl) (fun _ _ => rfl) ?_
    have hi : i = k0 := by omega
    subst hi
    refine ⟨?_, rfl⟩
    rw [(nq_itP (xs := xs) h i (by omega) (by omega)).2.1]
  | succ k ih =>
    intro i hi
    refine E_Ld (q := 10) rfl rfl (fun _ _ => rfl) ?_
    refine E_Ld (q := 11) rfl rfl (fun _ _ => rfl) ?_
    refine E_Ic false rfl (zc_ge_f ⟨by omega, by omega⟩ ⟨by omega, by omega⟩ (by omega)) ?_
    refine E_Ld (q := 15) rfl rfl (fun _ _ => rfl) ?_
    refine E_GetT (q := 18) rfl hm hZ ?_
    refine E_V (q := 21) (w := none) rfl rfl rfl (show ni_us 0 = true by decide +kernel) (show ni_kd 0 = 4 by decide +kernel) rfl (Nat.le_of_ble_eq_true rfl) (fun _ _ _ => rfl) (ni_Dup (nq_itD h i (by omega) (by omega)).1 (by decide)) (fun _ _ => rfl) (fun _ _ => rfl) ?_
    refine E_Inc (q := 24) (ls' := [ni_aL (m), ni_aI ((k0 : Int)), ni_aI ((i : Int) + 1)]) (z := 1) rfl rfl rfl (fun _ _ => rfl) ?_
    refine E_Go (q := 9) rfl ?_
    exact ih (i + 1) (by omega)
theorem fc_step {own : Nat → Int} {e : Int} {k0 : Nat} (hm : St m = some (9, [.ref n0, .ref n1])) (hZ : ∀ ad, Z ad → ad 0 = n0) (h : nq_Inv St own A e) (hk : 1 ≤ k0 ∧ k0 ≤ 60) (he : e + 400 * k0 ≤ 600000) (ht : A 0 0 + k0 ≤ 800000) : nf_F xs St Z 25 46 [ni_aL m, ni_aI (k0 : Int)] A (fun v A' => v = some (ni_aI (A 0 0 + k0)) ∧ A' = nq_it xs St own e A k0) := by
  refine nf_Fin (ls := [ni_aL (m), ni_aI ((k0 : Int)), .inl ni_J]) (fun _ => Nat.le_of_ble_eq_true rfl) (fun _ _ => rfl) ?_
  refine E_Ld (q := 1) rfl rfl (fun _ _ => rfl) ?_
  refine E_push (q := 2) (c := 1) (z := 1) rfl rfl ?_
  refine E_push (q := 4) (c := 60) (z := 60) rfl rfl ?_
  refine E_C (q := 7) (w := none) rfl (Nat.le_of_ble_eq_true rfl) rfl rfl (Nat.le_of_ble_eq_true rfl) (ni_PuUp (mt_chkR (i := (k0 : Int)) (a := 1) (b := 60) (by omega) (by omega)) (by decide)) (fun _ _ => rfl) (fun _ _ => rfl) ?_
  refine E_push (q := 8) (c := 0) (z := 0) rfl rfl ?_
  refine E_St (q := 9) (ls' := [ni_aL (m), ni_aI ((k0 : Int)), ni_aI (0)]) rfl (fun _ _ => rfl) (fun _ _ => rfl) ?_
  exact mt_stL hm hZ h hk he ht k0 0 (by omega)
end NTK2
