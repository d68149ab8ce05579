/-! AN ORACLE FOR THE CALLS: the walk of a method whose calls' answers are known -/
section NCR
def ni_sets (E : Nat → Nat) (z : Nat → Bool) (i : Nat) (M H : List ni_C) : List ni_C := match M with
  | [] => H
  | c :: M => ni_sets E z (i + 1) M (cond (z i) H (H.set (E i) (ni_sc E c)))
theorem ni_setsL {E : Nat → Nat} {z : Nat → Bool} : ∀ (M : List ni_C) (i : Nat) (H : List ni_C), (ni_sets E z i M H).length = H.length := by
  intro M
  induction M with
  | nil => intro i H; rfl
  | cons c M ih =>
    intro i H
    show (ni_sets E z (i + 1) M (cond (z i) H (H.set (E i) (ni_sc E c)))).length = H.length
    rw [ih]
    cases z i <;> simp
theorem ni_setsB {E : Nat → Nat} {z : Nat → Bool} {b : Nat} : ∀ (M : List ni_C) (i : Nat) (H : List ni_C), (∀ k, k < M.length → z (i + k) = false → E (i + k) ≠ b) → (ni_sets E z i M H)[b]? = H[b]? := by
  intro M
  induction M with
  | nil => intro i H _; rfl
  | cons c M ih =>
    intro i H h
    show (ni_sets E z (i + 1) M (cond (z i) H (H.set (E i) (ni_sc E c))))[b]? = H[b]?
    rw [ih]
    · cases hz : z i with
      | true => rfl
      | false =>
        have := h 0 (by simp) hz
        simp only [cond_false, List.getElem?_set, if_neg (show ¬ E i = b from this)]
    · intro k hk hz
      have := h (k + 1) (by simp; omega) (by rw [show i + (k + 1) = i + 1 + k by omega]; exact hz)
      rw [show i + 1 + k = i + (k + 1) by omega]
      exact this
theorem ni_setsC {E : Nat → Nat} {z : Nat → Bool} : ∀ (M : List ni_C) (i : Nat) (H : List ni_C) (k : Nat) (c : ni_C), M[k]? = some c → z (i + k) = false → E (i + k) < H.length → (∀ k', k < k' → k' < M.length → z (i + k') = false → E (i + k') ≠ E (i + k)) → (ni_sets E z i M H)[E (i + k)]? = some (ni_sc E c) := by
  intro M
  induction M with
  | nil => intro i H k c h; cases h
  | cons c0 M ih =>
    intro i H k c hk hz hl hn
    show (ni_sets E z (i + 1) M (cond (z i) H (H.set (E i) (ni_sc E c0))))[E (i + k)]? = some (ni_sc E c)
    cases k with
    | zero =>
      rw [ni_setsB]
      · rw [Nat.add_zero] at hz hl ⊢
        rw [hz]
        cases hk
        simp only [cond_false, List.getElem?_set, if_pos hl, if_true]
      · intro k hk hz'
        have := hn (k + 1) (by omega) (by simp; omega) (by rw [show i + (k + 1) = i + 1 + k by omega]; exact hz')
        rw [show i + 1 + k = i + (k + 1) by omega]
        exact this
    | succ k =>
      have e : i + (k + 1) = i + 1 + k := by omega
      rw [e] at hz hl ⊢
      refine ih (i + 1) _ k c hk hz (by cases z i <;> simpa using hl) fun k' h1 h2 h3 => ?_
      have := hn (k' + 1) (by omega) (by simp; omega) (by rw [show i + (k' + 1) = i + 1 + k' by omega]; exact h3)
      rw [show i + (k' + 1) = i + 1 + k' by omega, e] at this
      exact this
/-- the larger heap after a call of a small one -/
def ni_cry (E : Nat → Nat) (z : Nat → Bool) (n0 : Nat) (M1 : List ni_C) (H : ni_H) (u : Nat) : ni_H := (ni_sets E z 0 (M1.take n0) H.1 ++ (M1.drop n0).map (ni_sc E), u)
theorem ni_cryOk {E : Nat → Nat} {z : Nat → Bool} {n0 : Nat} {H : ni_H} {o o' : ni_O} (hE : ni_E0 E (fun a => z a = true) n0 H.1.length) (h : ni_Fo E (fun a => z a = true) n0 H.1.length H o o') (hH : H.1.length ≤ o'.2.1.length) : o' = (ni_so E o.1, ni_cry E z n0 o.2.1 H o.2.2) := by
  obtain ⟨h1, ⟨g1, g2, g3, g4, g5, g6⟩, h3⟩ := h
  obtain ⟨e1, e2, e3, e4⟩ := hE
  have hlt : (o.2.1.take n0).length = n0 := by rw [List.length_take]; omega
  refine Prod.ext h1 (Prod.ext ?_ g2.symm)
  show o'.2.1 = ni_sets E z 0 (o.2.1.take n0) H.1 ++ (o.2.1.drop n0).map (ni_sc E)
  refine List.ext_getElem? fun b => ?_
  by_cases hb : b < H.1.length
  · rw [List.getElem?_append_left (by rw [ni_setsL]; exact hb)]
    by_cases hx : ∃ a, a < n0 ∧ ¬ z a = true ∧ E a = b
    · obtain ⟨a, a1, a2, a3⟩ := hx
      subst a3
      have ha : a < o.2.1.length := by omega
      have hc : o.2.1[a]? = some o.2.1[a] := List.getElem?_eq_getElem ha
      rw [g1 a _ hc a2]
      have := ni_setsC (E := E) (z := z) (o.2.1.take n0) 0 H.1 a o.2.1[a] (by rw [List.getElem?_take, if_pos a1]; exact hc) (by rw [Nat.zero_add]; simpa using a2) (by rw [Nat.zero_add]; exact e2 a a1) (fun k' k1 k2 k3 k4 => by
        rw [Nat.zero_add] at k3 k4
        rw [Nat.zero_add] at k4
        have := e1 k' a (by omega) a1 (by simpa using k3) a2 k4
        omega)
      rw [Nat.zero_add] at this
      exact this.symm
    · rw [ni_setsB]
      · exact h3 b hb fun a a1 a2 a3 => hx ⟨a, a1, a2, a3⟩
      · intro k hk hz hek
        rw [Nat.zero_add] at hz hek
        exact hx ⟨k, by omega, by simpa using hz, hek⟩
  · rw [List.getElem?_append_right (by rw [ni_setsL]; omega), ni_setsL, List.getElem?_map, List.getElem?_drop]
    have hba : E (n0 + (b - H.1.length)) = b := by
      rw [e3 _ (by omega)]
      omega
    cases hc : o.2.1[n0 + (b - H.1.length)]? with
    | none =>
      have := List.getElem?_eq_none_iff.mp hc
      rw [List.getElem?_eq_none (by omega)]
      rfl
    | some c =>
      have := g1 _ c hc (fun zz => by have := e4 _ zz; omega)
      rw [hba] at this
      exact this
/-- the walk with an oracle -/
def ni_exC (C : ni_F) (prog : Nat → Nat → ni_S) : Nat → Nat → Nat → List Value → List Value → ni_H → Option ni_O
  | 0, _, _, _, _, _ => none
  | n + 1, y, pc, ls, st, M => prog y pc C (ni_exC C prog n y) ls st M
theorem ni_exCOk {prog : Nat → Nat → ni_S} (hu : ∀ y pc, ni_Up (prog y pc)) {C : ni_F} {n0 d : Nat} (hC : ∀ (y : Nat) (as : List Value) (M : ni_H) (o : ni_O), C y as M = some o → ni_cl (ni_ex prog n0) d y as M = some o) : ∀ (n y pc : Nat) (ls st : List Value) (M : ni_H) (o : ni_O), ni_exC C prog n y pc ls st M = some o → ni_ex prog (n0 + n) d y pc ls st M = some o := by
  intro n
  induction n with
  | zero => intro y pc ls st M o h; cases h
  | succ n ih =>
    intro y pc ls st M o h
    rw [show n0 + (n + 1) = (n0 + n) + 1 by omega, ni_exS]
    exact hu y pc C _ _ _ (fun y' as M' o1 h1 => ni_clUp hu (by omega) (Nat.le_refl d) (hC y' as M' o1 h1)) (fun q ls' st' M' o1 h1 => ih y q ls' st' M' o1 h1) ls st M o h
end NCR
