section NNT
theorem ni_exC0 (xs : List Int32) {C : ni_F} : ∀ (n y pc : Nat) (ls st : List Value) (M : ni_H) (o : ni_O), ni_exC C ni_prog0 n y pc ls st M = some o → ni_exC C (ni_prog xs) n y pc ls st M = some o := by
  intro n
  induction n with
  | zero => intro y pc ls st M o h; cases h
  | succ n ih =>
    intro y pc ls st M o h
    show ni_prog xs y pc C (ni_exC C (ni_prog xs) n y) ls st M = some o
    have h : ni_prog0 y pc C (ni_exC C ni_prog0 n y) ls st M = some o := h
    rcases ni_p0 xs y pc with h0 | h0
    · rw [h0] at h
      cases h
    · rw [h0] at h
      exact ni_up y pc _ _ _ _ (fun _ _ _ _ h1 => h1) (fun q ls' st' M' o1 h1 => ih y q ls' st' M' o1 h1) ls st M o h
theorem ni_shE1 {a h0 : Nat} : ni_sh (ni_E1 a h0) (.ref 0) = .ref a := by
  rw [ni_shR (by decide)]
  rfl
theorem ni_orOk (xs : List Int32) (y : Nat) (as : List Value) (M : ni_H) (o : ni_O) (h : ni_or y as M = some o) : ni_cl (ni_ex (ni_prog xs) 1000) 4 y as M = some o := by
  unfold ni_or at h
  split at h
  · split at h
    next hq =>
      cases h
      have := ni_clO (ni_cl0 xs ni_t51) hq.1 (fun _ => rfl) hq.2.1 (by show M.1.length + 3 ≤ ni_big; have := hq.2.2.1; unfold ni_big; omega) (by decide)
      rw [List.map_cons, List.map_nil, ni_shE1] at this
      exact this
    next => cases h
  · split at h
    next hq =>
      cases h
      have := ni_clO (ni_cl0 xs ni_t69) hq.1 (fun _ => rfl) hq.2.1 (by show M.1.length + 17 ≤ ni_big; have := hq.2.2.1; unfold ni_big; omega) (by decide)
      rw [List.map_cons, List.map_nil, ni_shE1] at this
      exact this
    next => cases h
  · split at h
    next hq =>
      cases h
      have := ni_clO (ni_cl0 xs ni_t126) hq.1 (fun _ => rfl) hq.2.1 (by show M.1.length + 4 ≤ ni_big; have := hq.2.2.1; unfold ni_big; omega) (by decide)
      rw [List.map_cons, List.map_cons, List.map_nil, ni_shE1] at this
      exact this
    next => cases h
  · exact ni_clUp ni_up (by decide) (Nat.le_refl 4) (ni_cl0 xs h)
/-- a new Net -/
theorem ni_cN (xs : List Int32) : ∃ (n : Nat) (R : List ni_C), ni_cl (ni_ex (ni_prog xs) n) 5 75 [.ref 0] ([ni_N0], 0) = some (.inl none, (R, 0)) ∧ R.length = 374 ∧ na_all R 0 = true ∧ (R.map (fun c => c.2.length)).sum ≤ 20000 := by
  have h := ni_tN2
  have h3 := ni_exCOk ni_up (ni_orOk xs) _ _ _ _ _ _ _ (ni_exC0 xs _ _ _ _ _ _ _ h)
  refine ⟨1000 + 1000, na_R0, ?_, na_R0l.1, na_okA, na_R0l.2⟩
  unfold ni_cl
  dsimp only
  rw [if_pos (by decide +kernel)]
  exact h3
end NNT
