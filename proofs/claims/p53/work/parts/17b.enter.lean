/-! AN ENTRY COMES INTO A TABLE -/
section NEN
variable {Z : (Nat → Nat) → Prop} {xs : List Int32} {St : Nat → Option ni_C} {A : Nat → Nat → Int}
/-- a table is in order, its entries sorted -/
def ni_TS (A : Nat → Nat → Int) (t : Nat) : Prop := ni_TI A t ∧ ∀ i : Nat, (i : Int) + 1 < A t 3 → A (t + 1) i < A (t + 1) (i + 1)
/-- a table alone is another -/
def ni_frT (A A' : Nat → Nat → Int) (t : Nat) : Prop := ∀ s j, ¬ (s = t ∧ j = 3) → s ≠ t + 1 → s ≠ t + 2 → s ≠ t + 3 → A' s j = A s j
theorem ni_frTr {A : Nat → Nat → Int} {t : Nat} : ni_frT A A t := fun _ _ _ _ _ _ => rfl
theorem ni_frTt {A A' A2 : Nat → Nat → Int} {t : Nat} (h : ni_frT A A' t) (h' : ni_frT A' A2 t) : ni_frT A A2 t := fun s j h1 h2 h3 h4 => (h' s j h1 h2 h3 h4).trans (h s j h1 h2 h3 h4)
theorem ni_u1n {L : Nat → Nat} {s n s' : Nat} (h : s' ≠ s) : ni_u1 L s n s' = L s' := by
  unfold ni_u1
  rw [if_neg h]
theorem ni_u1e {L : Nat → Nat} {s n : Nat} : ni_u1 L s n s = n := by
  unfold ni_u1
  rw [if_pos rfl]
def ni_shf (A : Nat → Nat → Int) (t n i : Nat) : Nat → Nat → Int := fun s j => if (s = t + 1 ∨ s = t + 2 ∨ s = t + 3) ∧ i < j ∧ j ≤ n then A s (j - 1) else A s j
theorem ni_shfN {t n i s j : Nat} (h : ¬ ((s = t + 1 ∨ s = t + 2 ∨ s = t + 3) ∧ i < j ∧ j ≤ n)) : ni_shf A t n i s j = A s j := by
  unfold ni_shf
  rw [if_neg h]
theorem ni_shfY {t n i s j : Nat} (h : (s = t + 1 ∨ s = t + 2 ∨ s = t + 3) ∧ i < j ∧ j ≤ n) : ni_shf A t n i s j = A s (j - 1) := by
  unfold ni_shf
  rw [if_pos h]
theorem ni_shf0 {t n i : Nat} (h : n ≤ i) : ni_shf A t n i = A := by
  funext s j
  exact ni_shfN (by omega)
theorem ni_shfS {t n m J K : Nat} {x1 x2 x3 : Int} (hm : m + 1 ≤ n) (hJ : J = m + 1) (h1 : x1 = A (t + 1) m) (h2 : x2 = A (t + 2) m) (h3 : x3 = A (t + 3) m) : ni_u2 (ni_u2 (ni_u2 (ni_shf A t n (m + 1)) (t + 1) J x1) (t + 2) J x2) (t + 3) J x3 = ni_shf A t n m := by
  subst hJ h1 h2 h3
  funext s j
  by_cases e3 : s = t + 3 ∧ j = m + 1
  · rw [e3.1, e3.2, ni_u2e, ni_shfY ⟨by omega, by omega, by omega⟩]
    rfl
  · rw [ni_u2n (by omega)]
    by_cases e2 : s = t + 2 ∧ j = m + 1
    · rw [e2.1, e2.2, ni_u2e, ni_shfY ⟨by omega, by omega, by omega⟩]
      rfl
    · rw [ni_u2n (by omega)]
      by_cases e1 : s = t + 1 ∧ j = m + 1
      · rw [e1.1, e1.2, ni_u2e, ni_shfY ⟨by omega, by omega, by omega⟩]
        rfl
      · rw [ni_u2n (by omega)]
        by_cases g : (s = t + 1 ∨ s = t + 2 ∨ s = t + 3) ∧ m < j ∧ j ≤ n
        · rw [ni_shfY g, ni_shfY ⟨g.1, by omega, g.2.2⟩]
        · rw [ni_shfN g, ni_shfN (by omega)]
/-- the rows of the table tell one more -/
def ni_L3 (L : Nat → Nat) (t n : Nat) : Nat → Nat := ni_u1 (ni_u1 (ni_u1 L (t + 1) n) (t + 2) n) (t + 3) n
theorem ni_L3le {L : Nat → Nat} {t n s' : Nat} {x : Int} (hs : ni_us t = true) (hk : ni_kd t = 8) (hs' : ni_us s' = true) (e : ni_ct s' = (t, 3)) (hx : x.toNat ≤ n) : x.toNat ≤ ni_L3 L t n s' := by
  have hp := (ni_usT hs).1
  obtain ⟨g1, g2, g3⟩ := ni_ctS hs' e (by omega)
  rw [hk] at g3
  have : s' = t + 1 ∨ s' = t + 2 ∨ s' = t + 3 := by omega
  unfold ni_L3
  rcases this with r | r | r
  · rw [r, ni_u1n (by omega), ni_u1n (by omega), ni_u1e]
    exact hx
  · rw [r, ni_u1n (by omega), ni_u1e]
    exact hx
  · rw [r, ni_u1e]
    exact hx
/-- the entry is put -/
def ni_ent2 (A : Nat → Nat → Int) (t n p : Nat) (x so li : Int) : Nat → Nat → Int := ni_u2 (ni_u2 (ni_u2 (ni_u2 (ni_shf A t n p) (t + 1) p x) (t + 2) p so) (t + 3) p li) t 3 ((n : Int) + 1)
theorem ni_entT {t n p : Nat} {x so li : Int} (hT : ni_TS A t) (hn : A t 3 = n) (hn2 : n < 216) (hp : p ≤ n) (hlo : ∀ j : Nat, j < p → A (t + 1) j < x) (hhi : p < n → x < A (t + 1) p) (hx : 0 ≤ x ∧ x < 2097152 ∧ x % 32 ≤ 16) (hso : 0 ≤ so ∧ so ≤ 2) (hli : 0 ≤ li ∧ li < 16384) : ni_TS (ni_ent2 A t n p x so li) t ∧ ni_frT A (ni_ent2 A t n p x so li) t := by
  obtain ⟨⟨hT1, hT2⟩, hT3⟩ := hT
  have r3 : ni_ent2 A t n p x so li t 3 = (n : Int) + 1 := ni_u2e
  have r (k j : Nat) (hk : k = 1 ∨ k = 2 ∨ k = 3) : ni_ent2 A t n p x so li (t + k) j = if j = p then (if k = 1 then x else if k = 2 then so else li) else if p < j ∧ j ≤ n then A (t + k) (j - 1) else A (t + k) j := by
    unfold ni_ent2
    rw [ni_u2n (by omega)]
    by_cases e : j = p
    · rw [if_pos e, e]
      rcases hk with hk | hk | hk
      · rw [hk, ni_u2n (by omega), ni_u2n (by omega), ni_u2e, if_pos rfl]
      · rw [hk, ni_u2n (by omega), ni_u2e, if_neg (by omega), if_pos rfl]
      · rw [hk, ni_u2e, if_neg (by omega), if_neg (by omega)]
    · rw [if_neg e, ni_u2n (by omega), ni_u2n (by omega), ni_u2n (by omega)]
      by_cases g : p < j ∧ j ≤ n
      · rw [if_pos g, ni_shfY ⟨by omega, g⟩]
      · rw [if_neg g, ni_shfN (by omega)]
  have mono : ∀ j k : Nat, j ≤ k → (k : Int) < A t 3 → A (t + 1) j ≤ A (t + 1) k := by
    intro j k hjk
    induction k with
    | zero =>
      intro _
      have : j = 0 := by omega
      rw [this]
      exact Int.le_refl _
    | succ k ih =>
      intro hk
      by_cases e : j = k + 1
      · rw [e]
        exact Int.le_refl _
      · have h1 := ih (by omega) (by omega)
        have h2 := hT3 k (by omega)
        omega
  refine ⟨⟨⟨by rw [r3]; omega, fun i hi => ?_⟩, fun i hi => ?_⟩, fun s j h1 h2 h3 h4 => ?_⟩
  · rw [r3] at hi
    rw [r 1 i (by omega), r 2 i (by omega), r 3 i (by omega)]
    by_cases e : i = p
    · rw [if_pos e, if_pos e, if_pos e, if_pos rfl, if_neg (by omega), if_pos rfl, if_neg (by omega), if_neg (by omega)]
      exact ⟨hx, hso, hli⟩
    · rw [if_neg e, if_neg e, if_neg e]
      by_cases g : p < i ∧ i ≤ n
      · rw [if_pos g, if_pos g, if_pos g]
        exact hT2 (i - 1) (by omega)
      · rw [if_neg g, if_neg g, if_neg g]
        exact hT2 i (by omega)
  · rw [r3] at hi
    rw [r 1 i (by omega), r 1 (i + 1) (by omega)]
    by_cases e : i = p
    · rw [if_pos e, if_pos rfl, if_neg (show ¬ i + 1 = p by omega), if_pos (show p < i + 1 ∧ i + 1 ≤ n by omega), Nat.add_sub_cancel, e]
      exact hhi (by omega)
    · rw [if_neg e]
      by_cases e1 : i + 1 = p
      · rw [if_neg (show ¬ (p < i ∧ i ≤ n) by omega), if_pos e1, if_pos rfl]
        exact hlo i (by omega)
      · rw [if_neg e1]
        by_cases g : p < i ∧ i ≤ n
        · rw [if_pos g, if_pos (show p < i + 1 ∧ i + 1 ≤ n by omega), Nat.add_sub_cancel]
          have := hT3 (i - 1) (by omega)
          rw [Nat.sub_add_cancel (by omega)] at this
          exact this
        · rw [if_neg g, if_neg (show ¬ (p < i + 1 ∧ i + 1 ≤ n) by omega)]
          exact hT3 i (by omega)
  · unfold ni_ent2
    rw [ni_u2n (by omega), ni_u2n (by omega), ni_u2n (by omega), ni_u2n (by omega), ni_shfN (by omega)]
theorem mt_en1 {B : Nat → Nat → Int} {t n p : Nat} {x so li : Int} {z5 : Int} {z6 : Int} {P : Option ni_a → (Nat → Nat → Int) → Prop} {L : Nat → Nat} (hs : ni_us t = true) (hk : ni_kd t = 8) (hn : n < 216) (hp : p ≤ n) (hn1 : p = L (t + 1)) (hn2 : p = L (t + 2)) (hn3 : p = L (t + 3)) (hpn : p = n) (e3 : B t 3 = n) (hP : P none (ni_u2 (ni_u2 (ni_u2 (ni_u2 B (t + 1) p x) (t + 2) p so) (t + 3) p li) t 3 ((n : Int) + 1))) : ni_E xs St Z 0 146 139 [ni_aP (t), ni_aI (x), ni_aI (so), ni_aI (li), ni_aI ((p : Int)), ni_aI (z5), ni_aI (z6)] [] B (L) P := by
  have h374 := (ni_usT hs).1
  have e3' : ni_u2 (ni_u2 (ni_u2 B (t + 1) p x) (t + 2) p so) (t + 3) p li t 3 = n := by rw [ni_u2n (by omega), ni_u2n (by omega), ni_u2n (by omega)]; exact e3
  refine E_Ld (q := 140) rfl rfl (fun _ _ => rfl) ?_
  refine E_Get (q := 143) (v := ni_aP (t + 1)) rfl hs hk rfl rfl (fun _ _ => rfl) ?_
  refine E_Ld (q := 145) rfl rfl (fun _ _ => rfl) ?_
  refine E_Ld (q := 146) rfl rfl (fun _ _ => rfl) ?_
  refine E_AstN (q := 147) (j := p) rfl (ni_o8_1 hs hk).1 (ni_o8_1 hs hk).2.1 (ni_o8_1 hs hk).2.2.1 rfl (by omega) (by decide) ⟨rfl, hn1⟩ ?_
  refine E_Ld (q := 148) rfl rfl (fun _ _ => rfl) ?_
  refine E_Get (q := 151) (v := ni_aP (t + 2)) rfl hs hk rfl rfl (fun _ _ => rfl) ?_
  refine E_Ld (q := 153) rfl rfl (fun _ _ => rfl) ?_
  refine E_Ld (q := 154) rfl rfl (fun _ _ => rfl) ?_
  refine E_AstN (q := 155) (j := p) rfl (ni_o8_2 hs hk).1 (ni_o8_2 hs hk).2.1 (ni_o8_2 hs hk).2.2.1 rfl (by omega) (by decide) ⟨rfl, (by rw [ni_u1n (by omega)]; exact hn2)⟩ ?_
  refine E_Ld (q := 156) rfl rfl (fun _ _ => rfl) ?_
  refine E_Get (q := 159) (v := ni_aP (t + 3)) rfl hs hk rfl rfl (fun _ _ => rfl) ?_
  refine E_Ld (q := 161) rfl rfl (fun _ _ => rfl) ?_
  refine E_Ld (q := 162) rfl rfl (fun _ _ => rfl) ?_
  refine E_AstN (q := 163) (j := p) rfl (ni_o8_3 hs hk).1 (ni_o8_3 hs hk).2.1 (ni_o8_3 hs hk).2.2.1 rfl (by omega) (by decide) ⟨rfl, (by rw [ni_u1n (by omega), ni_u1n (by omega)]; exact hn3)⟩ ?_
  refine E_Ld (q := 164) rfl rfl (fun _ _ => rfl) ?_
  refine E_Dup (q := 165) rfl (fun _ _ => rfl) ?_
  refine E_GetI (q := 168) (e := B (t) 3) rfl hs hk rfl rfl (fun _ _ => congrArg ni_z ((ni_u2n (Or.inl (by omega))).trans ((ni_u2n (Or.inl (by omega))).trans (ni_u2n (Or.inl (by omega)))))) ?_
  refine E_push (q := 169) (c := 1) (z := 1) rfl rfl ?_
  refine E_add (q := 170) rfl ?_
  refine E_PutC (q := 173) rfl hs hk rfl rfl (fun _ _ _ => rfl) (by omega) (by decide) (fun _ _ s' hs' e' => ni_L3le hs hk hs' e' (by omega)) ?_
  refine E_Rv rfl rfl ?_
  rw [e3]
  exact hP
theorem mt_en2 {B : Nat → Nat → Int} {t n p : Nat} {x so li : Int} {z5 : Int} {z6 : Int} {P : Option ni_a → (Nat → Nat → Int) → Prop} {L : Nat → Nat} (hs : ni_us t = true) (hk : ni_kd t = 8) (hn : n < 216) (hp : p ≤ n) (e3 : B t 3 = n) (hP : P none (ni_u2 (ni_u2 (ni_u2 (ni_u2 B (t + 1) p x) (t + 2) p so) (t + 3) p li) t 3 ((n : Int) + 1))) : ni_E xs St Z 0 146 139 [ni_aP (t), ni_aI (x), ni_aI (so), ni_aI (li), ni_aI ((p : Int)), ni_aI (z5), ni_aI (z6)] [] B (ni_L3 L t (n + 1)) P := by
  have h374 := (ni_usT hs).1
  have e3' : ni_u2 (ni_u2 (ni_u2 B (t + 1) p x) (t + 2) p so) (t + 3) p li t 3 = n := by rw [ni_u2n (by omega), ni_u2n (by omega), ni_u2n (by omega)]; exact e3
  refine E_Ld (q := 140) rfl rfl (fun _ _ => rfl) ?_
  refine E_Get (q := 143) (v := ni_aP (t + 1)) rfl hs hk rfl rfl (fun _ _ => rfl) ?_
  refine E_Ld (q := 145) rfl rfl (fun _ _ => rfl) ?_
  refine E_Ld (q := 146) rfl rfl (fun _ _ => rfl) ?_
  refine E_Ast (q := 147) (j := p) rfl (ni_o8_1 hs hk).1 (ni_o8_1 hs hk).2.1 (ni_o8_1 hs hk).2.2.1 rfl (by omega) (by decide) ?_
  refine E_Ld (q := 148) rfl rfl (fun _ _ => rfl) ?_
  refine E_Get (q := 151) (v := ni_aP (t + 2)) rfl hs hk rfl rfl (fun _ _ => rfl) ?_
  refine E_Ld (q := 153) rfl rfl (fun _ _ => rfl) ?_
  refine E_Ld (q := 154) rfl rfl (fun _ _ => rfl) ?_
  refine E_Ast (q := 155) (j := p) rfl (ni_o8_2 hs hk).1 (ni_o8_2 hs hk).2.1 (ni_o8_2 hs hk).2.2.1 rfl (by omega) (by decide) ?_
  refine E_Ld (q := 156) rfl rfl (fun _ _ => rfl) ?_
  refine E_Get (q := 159) (v := ni_aP (t + 3)) rfl hs hk rfl rfl (fun _ _ => rfl) ?_
  refine E_Ld (q := 161) rfl rfl (fun _ _ => rfl) ?_
  refine E_Ld (q := 162) rfl rfl (fun _ _ => rfl) ?_
  refine E_Ast (q := 163) (j := p) rfl (ni_o8_3 hs hk).1 (ni_o8_3 hs hk).2.1 (ni_o8_3 hs hk).2.2.1 rfl (by omega) (by decide) ?_
  refine E_Ld (q := 164) rfl rfl (fun _ _ => rfl) ?_
  refine E_Dup (q := 165) rfl (fun _ _ => rfl) ?_
  refine E_GetI (q := 168) (e := B (t) 3) rfl hs hk rfl rfl (fun _ _ => congrArg ni_z ((ni_u2n (Or.inl (by omega))).trans ((ni_u2n (Or.inl (by omega))).trans (ni_u2n (Or.inl (by omega)))))) ?_
  refine E_push (q := 169) (c := 1) (z := 1) rfl rfl ?_
  refine E_add (q := 170) rfl ?_
  refine E_PutC (q := 173) rfl hs hk rfl rfl (fun _ _ _ => rfl) (by omega) (by decide) (fun _ _ s' hs' e' => ni_L3le hs hk hs' e' (by omega)) ?_
  refine E_Rv rfl rfl ?_
  rw [e3]
  exact hP
theorem mt_en3 {t n p m : Nat} {x so li : Int} {z5 : Int} {P : Option ni_a → (Nat → Nat → Int) → Prop} {L : Nat → Nat} (hs : ni_us t = true) (hk : ni_kd t = 8) (hn : n < 216) (hpm : p ≤ m) (hm : m + 1 ≤ n) (hL : ∀ b : Nat, 1 ≤ b ∧ b ≤ 3 → n = L (t + b)) (hmn : m + 1 = n) (k : ni_E xs St Z 0 146 78 [ni_aP (t), ni_aI (x), ni_aI (so), ni_aI (li), ni_aI ((p : Int)), ni_aI (z5), ni_aI ((m : Int))] [] (ni_shf A t n m) (ni_L3 L t (n + 1)) P) : ni_E xs St Z 0 146 78 [ni_aP (t), ni_aI (x), ni_aI (so), ni_aI (li), ni_aI ((p : Int)), ni_aI (z5), ni_aI (((m + 1 : Nat) : Int))] [] (ni_shf A t n (m + 1)) (L) P := by
  have h374 := (ni_usT hs).1
  have hn1 : m + 1 = L (t + 1) := by have := hL 1 (by omega); omega
  have hn2 : m + 1 = L (t + 2) := by have := hL 2 (by omega); omega
  have hn3 : m + 1 = L (t + 3) := by have := hL 3 (by omega); omega
  have hL4 := hL
  have hL : ∀ b : Nat, 1 ≤ b ∧ b ≤ 3 → n ≤ L (t + b) := fun b hb => Nat.le_of_eq (hL4 b hb)
  refine E_Ld (q := 80) rfl rfl (fun _ _ => rfl) ?_
  refine E_Ld (q := 82) rfl rfl (fun _ _ => rfl) ?_
  refine E_Ic false rfl (zc_le_f ⟨by omega, by omega⟩ ⟨by omega, by omega⟩ (by omega)) ?_
  refine E_Ld (q := 86) rfl rfl (fun _ _ => rfl) ?_
  refine E_Get (q := 89) (v := ni_aP (t + 1)) rfl hs hk rfl rfl (fun _ _ => rfl) ?_
  refine E_Ld (q := 91) rfl rfl (fun _ _ => rfl) ?_
  refine E_Ld (q := 92) rfl rfl (fun _ _ => rfl) ?_
  refine E_Get (q := 95) (v := ni_aP (t + 1)) rfl hs hk rfl rfl (fun _ _ => rfl) ?_
  refine E_Ld (q := 97) rfl rfl (fun _ _ => rfl) ?_
  refine E_push (q := 98) (c := 1) (z := 1) rfl rfl ?_
  refine E_sub (q := 99) rfl ?_
  refine E_Ald (q := 100) (j := m) (e := (ni_shf A t n (m + 1)) (t + 1) (m)) rfl (ni_o8_1 hs hk).1 (ni_o8_1 hs hk).2.1 (ni_o8_1 hs hk).2.2.1 (by omega) (by omega) (by decide) (fun _ => Nat.lt_of_lt_of_le (show m < n by omega) (by exact hL 1 (by omega))) (fun _ _ => rfl) ?_
  refine E_AstN (q := 101) (j := (m + 1)) rfl (ni_o8_1 hs hk).1 (ni_o8_1 hs hk).2.1 (ni_o8_1 hs hk).2.2.1 (by omega) (by omega) (by decide) ⟨rfl, hn1⟩ ?_
  refine E_Ld (q := 102) rfl rfl (fun _ _ => rfl) ?_
  refine E_Get (q := 105) (v := ni_aP (t + 2)) rfl hs hk rfl rfl (fun _ _ => rfl) ?_
  refine E_Ld (q := 107) rfl rfl (fun _ _ => rfl) ?_
  refine E_Ld (q := 108) rfl rfl (fun _ _ => rfl) ?_
  refine E_Get (q := 111) (v := ni_aP (t + 2)) rfl hs hk rfl rfl (fun _ _ => rfl) ?_
  refine E_Ld (q := 113) rfl rfl (fun _ _ => rfl) ?_
  refine E_push (q := 114) (c := 1) (z := 1) rfl rfl ?_
  refine E_sub (q := 115) rfl ?_
  refine E_Ald (q := 116) (j := m) (e := (ni_shf A t n (m + 1)) (t + 2) (m)) rfl (ni_o8_2 hs hk).1 (ni_o8_2 hs hk).2.1 (ni_o8_2 hs hk).2.2.1 (by omega) (by omega) (by decide) (fun _ => Nat.lt_of_lt_of_le (show m < n by omega) (by rw [ni_u1n (by omega)]; exact hL 2 (by omega))) (fun _ _ => congrArg ni_z (ni_u2n (Or.inl (by omega)))) ?_
  refine E_AstN (q := 117) (j := (m + 1)) rfl (ni_o8_2 hs hk).1 (ni_o8_2 hs hk).2.1 (ni_o8_2 hs hk).2.2.1 (by omega) (by omega) (by decide) ⟨rfl, (by rw [ni_u1n (by omega)]; exact hn2)⟩ ?_
  refine E_Ld (q := 118) rfl rfl (fun _ _ => rfl) ?_
  refine E_Get (q := 121) (v := ni_aP (t + 3)) rfl hs hk rfl rfl (fun _ _ => rfl) ?_
  refine E_Ld (q := 123) rfl rfl (fun _ _ => rfl) ?_
  refine E_Ld (q := 124) rfl rfl (fun _ _ => rfl) ?_
  refine E_Get (q := 127) (v := ni_aP (t + 3)) rfl hs hk rfl rfl (fun _ _ => rfl) ?_
  refine E_Ld (q := 129) rfl rfl (fun _ _ => rfl) ?_
  refine E_push (q := 130) (c := 1) (z := 1) rfl rfl ?_
  refine E_sub (q := 131) rfl ?_
  refine E_Ald (q := 132) (j := m) (e := (ni_shf A t n (m + 1)) (t + 3) (m)) rfl (ni_o8_3 hs hk).1 (ni_o8_3 hs hk).2.1 (ni_o8_3 hs hk).2.2.1 (by omega) (by omega) (by decide) (fun _ => Nat.lt_of_lt_of_le (show m < n by omega) (by rw [ni_u1n (by omega)]; rw [ni_u1n (by omega)]; exact hL 3 (by omega))) (fun _ _ => congrArg ni_z ((ni_u2n (Or.inl (by omega))).trans (ni_u2n (Or.inl (by omega))))) ?_
  refine E_AstN (q := 133) (j := (m + 1)) rfl (ni_o8_3 hs hk).1 (ni_o8_3 hs hk).2.1 (ni_o8_3 hs hk).2.2.1 (by omega) (by omega) (by decide) ⟨rfl, (by rw [ni_u1n (by omega), ni_u1n (by omega)]; exact hn3)⟩ ?_
  refine E_Inc (q := 136) (ls' := [ni_aP (t), ni_aI (x), ni_aI (so), ni_aI (li), ni_aI ((p : Int)), ni_aI (z5), ni_aI (((m + 1 : Nat) : Int) + (-1))]) (z := -1) rfl rfl rfl (fun _ _ => rfl) ?_
  refine E_Go (q := 78) rfl ?_
  subst hmn
  rw [ni_shfS (K := 0) hm rfl (ni_shfN (by omega)) (ni_shfN (by omega)) (ni_shfN (by omega)), show (((m + 1 : Nat) : Int) + (-1)) = (m : Int) by omega]
  exact k
theorem mt_en4 {t n p m : Nat} {x so li : Int} {z5 : Int} {P : Option ni_a → (Nat → Nat → Int) → Prop} {L : Nat → Nat} (hs : ni_us t = true) (hk : ni_kd t = 8) (hn : n < 216) (hpm : p ≤ m) (hm : m + 1 ≤ n) (k : ni_E xs St Z 0 146 78 [ni_aP (t), ni_aI (x), ni_aI (so), ni_aI (li), ni_aI ((p : Int)), ni_aI (z5), ni_aI ((m : Int))] [] (ni_shf A t n m) (ni_L3 L t (n + 1)) P) : ni_E xs St Z 0 146 78 [ni_aP (t), ni_aI (x), ni_aI (so), ni_aI (li), ni_aI ((p : Int)), ni_aI (z5), ni_aI (((m + 1 : Nat) : Int))] [] (ni_shf A t n (m + 1)) (ni_L3 L t (n + 1)) P := by
  have h374 := (ni_usT hs).1
  have hL : ∀ b : Nat, 1 ≤ b ∧ b ≤ 3 → n ≤ ni_L3 L t (n + 1) (t + b) := fun b hb => by
    rcases (show b = 1 ∨ b = 2 ∨ b = 3 by omega) with r | r | r
    · rw [r]; unfold ni_L3; rw [ni_u1n (by omega), ni_u1n (by omega), ni_u1e]; omega
    · rw [r]; unfold ni_L3; rw [ni_u1n (by omega), ni_u1e]; omega
    · rw [r]; unfold ni_L3; rw [ni_u1e]; omega
  refine E_Ld (q := 80) rfl rfl (fun _ _ => rfl) ?_
  refine E_Ld (q := 82) rfl rfl (fun _ _ => rfl) ?_
  refine E_Ic false rfl (zc_le_f ⟨by omega, by omega⟩ ⟨by omega, by omega⟩ (by omega)) ?_
  refine E_Ld (q := 86) rfl rfl (fun _ _ => rfl) ?_
  refine E_Get (q := 89) (v := ni_aP (t + 1)) rfl hs hk rfl rfl (fun _ _ => rfl) ?_
  refine E_Ld (q := 91) rfl rfl (fun _ _ => rfl) ?_
  refine E_Ld (q := 92) rfl rfl (fun _ _ => rfl) ?_
  refine E_Get (q := 95) (v := ni_aP (t + 1)) rfl hs hk rfl rfl (fun _ _ => rfl) ?_
  refine E_Ld (q := 97) rfl rfl (fun _ _ => rfl) ?_
  refine E_push (q := 98) (c := 1) (z := 1) rfl rfl ?_
  refine E_sub (q := 99) rfl ?_
  refine E_Ald (q := 100) (j := m) (e := (ni_shf A t n (m + 1)) (t + 1) (m)) rfl (ni_o8_1 hs hk).1 (ni_o8_1 hs hk).2.1 (ni_o8_1 hs hk).2.2.1 (by omega) (by omega) (by decide) (fun _ => Nat.lt_of_lt_of_le (show m < n by omega) (by exact hL 1 (by omega))) (fun _ _ => rfl) ?_
  refine E_Ast (q := 101) (j := (m + 1)) rfl (ni_o8_1 hs hk).1 (ni_o8_1 hs hk).2.1 (ni_o8_1 hs hk).2.2.1 (by omega) (by omega) (by decide) ?_
  refine E_Ld (q := 102) rfl rfl (fun _ _ => rfl) ?_
  refine E_Get (q := 105) (v := ni_aP (t + 2)) rfl hs hk rfl rfl (fun _ _ => rfl) ?_
  refine E_Ld (q := 107) rfl rfl (fun _ _ => rfl) ?_
  refine E_Ld (q := 108) rfl rfl (fun _ _ => rfl) ?_
  refine E_Get (q := 111) (v := ni_aP (t + 2)) rfl hs hk rfl rfl (fun _ _ => rfl) ?_
  refine E_Ld (q := 113) rfl rfl (fun _ _ => rfl) ?_
  refine E_push (q := 114) (c := 1) (z := 1) rfl rfl ?_
  refine E_sub (q := 115) rfl ?_
  refine E_Ald (q := 116) (j := m) (e := (ni_shf A t n (m + 1)) (t + 2) (m)) rfl (ni_o8_2 hs hk).1 (ni_o8_2 hs hk).2.1 (ni_o8_2 hs hk).2.2.1 (by omega) (by omega) (by decide) (fun _ => Nat.lt_of_lt_of_le (show m < n by omega) (by exact hL 2 (by omega))) (fun _ _ => congrArg ni_z (ni_u2n (Or.inl (by omega)))) ?_
  refine E_Ast (q := 117) (j := (m + 1)) rfl (ni_o8_2 hs hk).1 (ni_o8_2 hs hk).2.1 (ni_o8_2 hs hk).2.2.1 (by omega) (by omega) (by decide) ?_
  refine E_Ld (q := 118) rfl rfl (fun _ _ => rfl) ?_
  refine E_Get (q := 121) (v := ni_aP (t + 3)) rfl hs hk rfl rfl (fun _ _ => rfl) ?_
  refine E_Ld (q := 123) rfl rfl (fun _ _ => rfl) ?_
  refine E_Ld (q := 124) rfl rfl (fun _ _ => rfl) ?_
  refine E_Get (q := 127) (v := ni_aP (t + 3)) rfl hs hk rfl rfl (fun _ _ => rfl) ?_
  refine E_Ld (q := 129) rfl rfl (fun _ _ => rfl) ?_
  refine E_push (q := 130) (c := 1) (z := 1) rfl rfl ?_
  refine E_sub (q := 131) rfl ?_
  refine E_Ald (q := 132) (j := m) (e := (ni_shf A t n (m + 1)) (t + 3) (m)) rfl (ni_o8_3 hs hk).1 (ni_o8_3 hs hk).2.1 (ni_o8_3 hs hk).2.2.1 (by omega) (by omega) (by decide) (fun _ => Nat.lt_of_lt_of_le (show m < n by omega) (by exact hL 3 (by omega))) (fun _ _ => congrArg ni_z ((ni_u2n (Or.inl (by omega))).trans (ni_u2n (Or.inl (by omega))))) ?_
  refine E_Ast (q := 133) (j := (m + 1)) rfl (ni_o8_3 hs hk).1 (ni_o8_3 hs hk).2.1 (ni_o8_3 hs hk).2.2.1 (by omega) (by omega) (by decide) ?_
  refine E_Inc (q := 136) (ls' := [ni_aP (t), ni_aI (x), ni_aI (so), ni_aI (li), ni_aI ((p : Int)), ni_aI (z5), ni_aI (((m + 1 : Nat) : Int) + (-1))]) (z := -1) rfl rfl rfl (fun _ _ => rfl) ?_
  refine E_Go (q := 78) rfl ?_
  rw [ni_shfS (K := 0) hm rfl (ni_shfN (by omega)) (ni_shfN (by omega)) (ni_shfN (by omega)), show (((m + 1 : Nat) : Int) + (-1)) = (m : Int) by omega]
  exact k
theorem mt_en5 {B : Nat → Nat → Int} {t p : Nat} {x so li : Int} {z5 : Int} {P : Option ni_a → (Nat → Nat → Int) → Prop} {L : Nat → Nat} (hp : p < 1000) (k : ni_E xs St Z 0 146 139 [ni_aP (t), ni_aI (x), ni_aI (so), ni_aI (li), ni_aI ((p : Int)), ni_aI (z5), ni_aI ((p : Int))] [] B L P) : ni_E xs St Z 0 146 78 [ni_aP (t), ni_aI (x), ni_aI (so), ni_aI (li), ni_aI ((p : Int)), ni_aI (z5), ni_aI ((p : Int))] [] B L P := by
  refine E_Ld (q := 80) rfl rfl (fun _ _ => rfl) ?_
  refine E_Ld (q := 82) rfl rfl (fun _ _ => rfl) ?_
  refine E_Ic true rfl (zc_le_t ⟨by omega, by omega⟩ ⟨by omega, by omega⟩ (by omega)) ?_
  exact k
theorem mt_en6 {t n p : Nat} {x so li : Int} {z5 : Int} {P : Option ni_a → (Nat → Nat → Int) → Prop} {L : Nat → Nat} (hs : ni_us t = true) (hk : ni_kd t = 8) (hn : n < 216) (e3 : A t 3 = n) (hP : P none (ni_ent2 A t n p x so li)) : ∀ k m : Nat, m = p + k → m + 1 ≤ n → ni_E xs St Z 0 146 78 [ni_aP (t), ni_aI (x), ni_aI (so), ni_aI (li), ni_aI ((p : Int)), ni_aI (z5), ni_aI ((m : Int))] [] (ni_shf A t n m) (ni_L3 L t (n + 1)) P := by
  intro k
  induction k with
  | zero =>
    intro m hm hmn
    have : m = p := by omega
    subst this
    exact mt_en5 (by omega) (mt_en2 hs hk hn (by omega) ((ni_shfN (by omega)).trans e3) hP)
  | succ k ih =>
    intro m hm hmn
    obtain ⟨m', rfl⟩ : ∃ m', m = m' + 1 := ⟨m - 1, by omega⟩
    exact mt_en4 hs hk hn (by omega) (by omega) (ih m' (by omega) (by omega))
theorem mt_en7 {t n p : Nat} {x so li : Int} {z5 : Int} {P : Option ni_a → (Nat → Nat → Int) → Prop} (hs : ni_us t = true) (hk : ni_kd t = 8) (hn : n < 216) (hp : p ≤ n) (e3 : A t 3 = n) (hP : P none (ni_ent2 A t n p x so li)) : ni_E xs St Z 0 146 78 [ni_aP (t), ni_aI (x), ni_aI (so), ni_aI (li), ni_aI ((p : Int)), ni_aI (z5), ni_aI ((n : Int))] [] A (ni_live A) P := by
  have h374 := (ni_usT hs).1
  have l1 : n = ni_live A (t + 1) := by rw [ni_liveC (ni_o8_1 hs hk).2.2.2 (by omega), e3]; omega
  have l2 : n = ni_live A (t + 2) := by rw [ni_liveC (ni_o8_2 hs hk).2.2.2 (by omega), e3]; omega
  have l3 : n = ni_live A (t + 3) := by rw [ni_liveC (ni_o8_3 hs hk).2.2.2 (by omega), e3]; omega
  by_cases e : p = n
  · subst e
    have hP' := hP
    unfold ni_ent2 at hP'
    rw [ni_shf0 (Nat.le_refl _)] at hP'
    exact mt_en5 (by omega) (mt_en1 hs hk hn hp l1 l2 l3 rfl e3 hP')
  · obtain ⟨m', rfl⟩ : ∃ m', n = m' + 1 := ⟨n - 1, by omega⟩
    have g := mt_en3 (Z := Z) (xs := xs) (St := St) (A := A) (x := x) (so := so) (li := li) (z5 := z5) (P := P) (m := m') (p := p) (L := ni_live A) hs hk hn (by omega) (Nat.le_refl _) (fun b hb => by
      rcases (show b = 1 ∨ b = 2 ∨ b = 3 by omega) with r | r | r
      · rw [r]; exact l1
      · rw [r]; exact l2
      · rw [r]; exact l3) rfl (mt_en6 hs hk hn e3 hP (m' - p) m' (by omega) (by omega))
    rw [ni_shf0 (Nat.le_refl _)] at g
    exact g
theorem mt_en8 {t n p : Nat} {x so li : Int} (hs : ni_us t = true) (hk : ni_kd t = 8) (hT : ni_TS A t) (hn : A t 3 = n) (hp : p ≤ n) (hlo : ∀ j : Nat, j < p → A (t + 1) j < x) (hhi : p < n → x ≤ A (t + 1) p) (hx : 0 ≤ x ∧ x < 2097152 ∧ x % 32 ≤ 16) (hso : 0 ≤ so ∧ so ≤ 2) (hli : 0 ≤ li ∧ li < 16384) : ni_E xs St Z 0 146 29 [ni_aP (t), ni_aI (x), ni_aI (so), ni_aI (li), ni_aI ((p : Int)), .inl ni_J, .inl ni_J] [] A (ni_live A) (fun v A' => v = none ∧ ni_frT A A' t ∧ ni_TS A' t) := by
  have h374 := (ni_usT hs).1
  have hn216 := hT.1.1
  have hq : ∀ i : Nat, (i : Int) < A t 3 → 0 ≤ A (t + 1) i ∧ A (t + 1) i ≤ 2147483647 := fun i hi => by have := (hT.1.2 i hi).1; omega
  have hqp := hq p
  refine E_Ld (q := 31) rfl rfl (fun _ _ => rfl) ?_
  refine E_Ld (q := 32) rfl rfl (fun _ _ => rfl) ?_
  refine E_GetI (q := 35) (e := A (t) 3) rfl hs hk rfl rfl (fun _ _ => rfl) ?_
  by_cases g35 : (A (t) 3) ≤ ((p : Int))
  · refine E_Ic true rfl (zc_ge_t ⟨by omega, by omega⟩ ⟨by omega, by omega⟩ g35) ?_
    refine E_push (q := 54) (c := 0) (z := 0) rfl rfl ?_
    refine E_St (q := 56) (ls' := [ni_aP (t), ni_aI (x), ni_aI (so), ni_aI (li), ni_aI ((p : Int)), ni_aI (0), .inl ni_J]) rfl (fun _ _ => rfl) (fun _ _ => rfl) ?_
    refine E_Ld (q := 58) rfl rfl (fun _ _ => rfl) ?_
    refine E_If false rfl (zf_ne_f ⟨by omega, by omega⟩ (by omega)) ?_
    refine E_Ld (q := 62) rfl rfl (fun _ _ => rfl) ?_
    refine E_GetI (q := 65) (e := A (t) 3) rfl hs hk rfl rfl (fun _ _ => rfl) ?_
    refine E_push (q := 68) (c := 216) (z := 216) rfl rfl ?_
    by_cases g68 : (A (t) 3) < 216
    · refine E_Ic true rfl (zc_lt_t ⟨by omega, by omega⟩ ⟨by omega, by omega⟩ g68) ?_
      refine E_Ld (q := 73) rfl rfl (fun _ _ => rfl) ?_
      refine E_GetI (q := 76) (e := A (t) 3) rfl hs hk rfl rfl (fun _ _ => rfl) ?_
      refine E_St (q := 78) (ls' := [ni_aP (t), ni_aI (x), ni_aI (so), ni_aI (li), ni_aI ((p : Int)), ni_aI (0), ni_aI (A (t) 3)]) rfl (fun _ _ => rfl) (fun _ _ => rfl) ?_
      rw [hn]
      exact mt_en7 hs hk (by omega) hp hn (have g := ni_entT hT hn (by omega) hp hlo (by omega) hx hso hli; ⟨rfl, g.2, g.1⟩)
    · refine E_Ic false rfl (zc_lt_f ⟨by omega, by omega⟩ ⟨by omega, by omega⟩ g68) ?_
      refine E_Rv rfl rfl ?_
      exact ⟨rfl, ni_frTr, hT⟩
  · refine E_Ic false rfl (zc_ge_f ⟨by omega, by omega⟩ ⟨by omega, by omega⟩ g35) ?_
    refine E_Ld (q := 39) rfl rfl (fun _ _ => rfl) ?_
    refine E_Get (q := 42) (v := ni_aP (t + 1)) rfl hs hk rfl rfl (fun _ _ => rfl) ?_
    refine E_Ld (q := 44) rfl rfl (fun _ _ => rfl) ?_
    refine E_Ald (q := 45) (j := p) (e := A (t + 1) (p)) rfl (ni_o8_1 hs hk).1 (ni_o8_1 hs hk).2.1 (ni_o8_1 hs hk).2.2.1 rfl (by omega) (by decide) (ni_L8 (ni_o8_1 hs hk).1 (ni_o8_1 hs hk).2.2.2 (by omega) (by omega)) (fun _ _ => rfl) ?_
    refine E_Ld (q := 46) rfl rfl (fun _ _ => rfl) ?_
    by_cases g46 : ¬ (A (t + 1) (p)) = x
    · refine E_Ic true rfl (zc_ne_t ⟨by omega, by omega⟩ ⟨by omega, by omega⟩ g46) ?_
      refine E_push (q := 54) (c := 0) (z := 0) rfl rfl ?_
      refine E_St (q := 56) (ls' := [ni_aP (t), ni_aI (x), ni_aI (so), ni_aI (li), ni_aI ((p : Int)), ni_aI (0), .inl ni_J]) rfl (fun _ _ => rfl) (fun _ _ => rfl) ?_
      refine E_Ld (q := 58) rfl rfl (fun _ _ => rfl) ?_
      refine E_If false rfl (zf_ne_f ⟨by omega, by omega⟩ (by omega)) ?_
      refine E_Ld (q := 62) rfl rfl (fun _ _ => rfl) ?_
      refine E_GetI (q := 65) (e := A (t) 3) rfl hs hk rfl rfl (fun _ _ => rfl) ?_
      refine E_push (q := 68) (c := 216) (z := 216) rfl rfl ?_
      by_cases g68 : (A (t) 3) < 216
      · refine E_Ic true rfl (zc_lt_t ⟨by omega, by omega⟩ ⟨by omega, by omega⟩ g68) ?_
        refine E_Ld (q := 73) rfl rfl (fun _ _ => rfl) ?_
        refine E_GetI (q := 76) (e := A (t) 3) rfl hs hk rfl rfl (fun _ _ => rfl) ?_
        refine E_St (q := 78) (ls' := [ni_aP (t), ni_aI (x), ni_aI (so), ni_aI (li), ni_aI ((p : Int)), ni_aI (0), ni_aI (A (t) 3)]) rfl (fun _ _ => rfl) (fun _ _ => rfl) ?_
        rw [hn]
        exact mt_en7 hs hk (by omega) hp hn (have g := ni_entT hT hn (by omega) hp hlo (by omega) hx hso hli; ⟨rfl, g.2, g.1⟩)
      · refine E_Ic false rfl (zc_lt_f ⟨by omega, by omega⟩ ⟨by omega, by omega⟩ g68) ?_
        refine E_Rv rfl rfl ?_
        exact ⟨rfl, ni_frTr, hT⟩
    · refine E_Ic false rfl (zc_ne_f ⟨by omega, by omega⟩ ⟨by omega, by omega⟩ g46) ?_
      refine E_push (q := 50) (c := 1) (z := 1) rfl rfl ?_
      refine E_Go (q := 54) rfl ?_
      refine E_St (q := 56) (ls' := [ni_aP (t), ni_aI (x), ni_aI (so), ni_aI (li), ni_aI ((p : Int)), ni_aI (1), .inl ni_J]) rfl (fun _ _ => rfl) (fun _ _ => rfl) ?_
      refine E_Ld (q := 58) rfl rfl (fun _ _ => rfl) ?_
      refine E_If true rfl (zf_ne_t ⟨by omega, by omega⟩ (by omega)) ?_
      refine E_Rv rfl rfl ?_
      exact ⟨rfl, ni_frTr, hT⟩
theorem mt_en9 {t n : Nat} {x so li : Int} (hs : ni_us t = true) (hk : ni_kd t = 8) (hT : ni_TS A t) (hn : A t 3 = n) (hx : 0 ≤ x ∧ x < 2097152 ∧ x % 32 ≤ 16) (hso : 0 ≤ so ∧ so ≤ 2) (hli : 0 ≤ li ∧ li < 16384) : ∀ k p : Nat, p + k = n → (∀ j : Nat, j < p → A (t + 1) j < x) → ni_E xs St Z 0 146 3 [ni_aP (t), ni_aI (x), ni_aI (so), ni_aI (li), ni_aI ((p : Int)), .inl ni_J, .inl ni_J] [] A (ni_live A) (fun v A' => v = none ∧ ni_frT A A' t ∧ ni_TS A' t) := by
  have h374 := (ni_usT hs).1
  have hn216 := hT.1.1
  have hq : ∀ i : Nat, (i : Int) < A t 3 → 0 ≤ A (t + 1) i ∧ A (t + 1) i ≤ 2147483647 := fun i hi => by have := (hT.1.2 i hi).1; omega
  intro k
  induction k with
  | zero =>
    intro p hpk hlo
    refine E_Ld (q := 5) rfl rfl (fun _ _ => rfl) ?_
    refine E_Ld (q := 6) rfl rfl (fun _ _ => rfl) ?_
    refine E_GetI (q := 9) (e := A (t) 3) rfl hs hk rfl rfl (fun _ _ => rfl) ?_
    refine E_Ic true rfl (zc_ge_t ⟨by omega, by omega⟩ ⟨by omega, by omega⟩ (by omega)) ?_
    exact mt_en8 hs hk hT hn (by omega) hlo (by omega) hx hso hli
  | succ k ih =>
    intro p hpk hlo
    have hqp := hq p
    refine E_Ld (q := 5) rfl rfl (fun _ _ => rfl) ?_
    refine E_Ld (q := 6) rfl rfl (fun _ _ => rfl) ?_
    refine E_GetI (q := 9) (e := A (t) 3) rfl hs hk rfl rfl (fun _ _ => rfl) ?_
    refine E_Ic false rfl (zc_ge_f ⟨by omega, by omega⟩ ⟨by omega, by omega⟩ (by omega)) ?_
    refine E_Ld (q := 13) rfl rfl (fun _ _ => rfl) ?_
    refine E_Get (q := 16) (v := ni_aP (t + 1)) rfl hs hk rfl rfl (fun _ _ => rfl) ?_
    refine E_Ld (q := 18) rfl rfl (fun _ _ => rfl) ?_
    refine E_Ald (q := 19) (j := p) (e := A (t + 1) (p)) rfl (ni_o8_1 hs hk).1 (ni_o8_1 hs hk).2.1 (ni_o8_1 hs hk).2.2.1 rfl (by omega) (by decide) (ni_L8 (ni_o8_1 hs hk).1 (ni_o8_1 hs hk).2.2.2 (by omega) (by omega)) (fun _ _ => rfl) ?_
    refine E_Ld (q := 20) rfl rfl (fun _ _ => rfl) ?_
    by_cases g20 : x ≤ (A (t + 1) (p))
    · refine E_Ic true rfl (zc_ge_t ⟨by omega, by omega⟩ ⟨by omega, by omega⟩ g20) ?_
      exact mt_en8 hs hk hT hn (by omega) hlo (by omega) hx hso hli
    · refine E_Ic false rfl (zc_ge_f ⟨by omega, by omega⟩ ⟨by omega, by omega⟩ g20) ?_
      refine E_Inc (q := 26) (ls' := [ni_aP (t), ni_aI (x), ni_aI (so), ni_aI (li), ni_aI ((p : Int) + 1), .inl ni_J, .inl ni_J]) (z := 1) rfl rfl rfl (fun _ _ => rfl) ?_
      refine E_Go (q := 3) rfl ?_
      exact ih (p + 1) (by omega) (fun j hj => (show j < p ∨ j = p by omega).elim (hlo j) (fun r => by rw [r]; omega))
theorem mt_enter {t : Nat} {x so li : Int} (hs : ni_us t = true) (hk : ni_kd t = 8) (hT : ni_TS A t) (hx : 0 ≤ x ∧ x < 2097152 ∧ x % 32 ≤ 16) (hso : 0 ≤ so ∧ so ≤ 2) (hli : 0 ≤ li ∧ li < 16384) : ni_M xs St 1 146 [ni_aP t, ni_aI x, ni_aI so, ni_aI li] A (fun v A' => v = none ∧ ni_frT A A' t ∧ ni_TS A' t) := by
  have hn216 := hT.1.1
  have g := mt_en9 (Z := fun _ => True) (xs := xs) (St := St) (n := (A t 3).toNat) hs hk hT (by omega) hx hso hli (A t 3).toNat 0 (by omega) (fun j hj => absurd hj (Nat.not_lt_zero j))
  refine ni_Min (ls := [ni_aP (t), ni_aI (x), ni_aI (so), ni_aI (li), .inl ni_J, .inl ni_J, .inl ni_J]) (fun _ => Nat.le_of_ble_eq_true rfl) (fun _ _ => rfl) ?_
  refine E_push (q := 1) (c := 0) (z := 0) rfl rfl ?_
  refine E_St (q := 3) (ls' := [ni_aP (t), ni_aI (x), ni_aI (so), ni_aI (li), ni_aI (0), .inl ni_J, .inl ni_J]) rfl (fun _ _ => rfl) (fun _ _ => rfl) ?_
  exact g
end NEN
