section NU
/-- more answers of the calls and of what follows: the same answer -/
def ni_Up (sem : ni_S) : Prop := ∀ (call call' : ni_F) (next next' : ni_K), (∀ (y : Nat) (as : List Value) (M : ni_H) (o : ni_O), call y as M = some o → call' y as M = some o) → (∀ (q : Nat) (ls st : List Value) (M : ni_H) (o : ni_O), next q ls st M = some o → next' q ls st M = some o) → ∀ (ls st : List Value) (M : ni_H) (o : ni_O), sem call next ls st M = some o → sem call' next' ls st M = some o
theorem ni_upP {g : List Value → Option (Nat × List Value)} : ni_Up (ni_sP g) := by
  intro call call' next next' hc hn ls st M o h
  unfold ni_sP at h ⊢
  (repeat' split at h) <;> first | (cases h; done) | (have h9 := hn _ _ _ _ _ h; clear hn hc h; simp_all; done) | (clear hn hc; simp_all; done)
theorem ni_upLd {t i q : Nat} : ni_Up (ni_sLd t i q) := by
  intro call call' next next' hc hn ls st M o h
  unfold ni_sLd at h ⊢
  (repeat' split at h) <;> first | (cases h; done) | (have h9 := hn _ _ _ _ _ h; clear hn hc h; simp_all; done) | (clear hn hc; simp_all; done)
theorem ni_upSt {t i q : Nat} : ni_Up (ni_sSt t i q) := by
  intro call call' next next' hc hn ls st M o h
  unfold ni_sSt at h ⊢
  (repeat' split at h) <;> first | (cases h; done) | (have h9 := hn _ _ _ _ _ h; clear hn hc h; simp_all; done) | (clear hn hc; simp_all; done)
theorem ni_upInc {i q : Nat} {n : Int32} : ni_Up (ni_sInc i n q) := by
  intro call call' next next' hc hn ls st M o h
  unfold ni_sInc at h ⊢
  (repeat' split at h) <;> first | (cases h; done) | (have h9 := hn _ _ _ _ _ h; clear hn hc h; simp_all; done) | (clear hn hc; simp_all; done)
theorem ni_upGet {ci k q : Nat} : ni_Up (ni_sGet ci k q) := by
  intro call call' next next' hc hn ls st M o h
  unfold ni_sGet at h ⊢
  (repeat' split at h) <;> first | (cases h; done) | (have h9 := hn _ _ _ _ _ h; clear hn hc h; simp_all; done) | (clear hn hc; simp_all; done)
theorem ni_upPut {ci k q : Nat} {ty : FieldType} : ni_Up (ni_sPut ci k ty q) := by
  intro call call' next next' hc hn ls st M o h
  unfold ni_sPut at h ⊢
  (repeat' split at h) <;> first | (cases h; done) | (have h9 := hn _ _ _ _ _ h; clear hn hc h; simp_all; done) | (clear hn hc; simp_all; done)
theorem ni_upLen {q : Nat} : ni_Up (ni_sLen q) := by
  intro call call' next next' hc hn ls st M o h
  unfold ni_sLen at h ⊢
  (repeat' split at h) <;> first | (cases h; done) | (have h9 := hn _ _ _ _ _ h; clear hn hc h; simp_all; done) | (clear hn hc; simp_all; done)
theorem ni_upAld {ty : FieldType} {tv q : Nat} : ni_Up (ni_sAld ty tv q) := by
  intro call call' next next' hc hn ls st M o h
  unfold ni_sAld at h ⊢
  (repeat' split at h) <;> first | (cases h; done) | (have h9 := hn _ _ _ _ _ h; clear hn hc h; simp_all; done) | (clear hn hc; simp_all; done)
theorem ni_upQld {q : Nat} : ni_Up (ni_sQld q) := by
  intro call call' next next' hc hn ls st M o h
  unfold ni_sQld at h ⊢
  (repeat' split at h) <;> first | (cases h; done) | (have h9 := hn _ _ _ _ _ h; clear hn hc h; simp_all; done) | (clear hn hc; simp_all; done)
theorem ni_upAst {ty : FieldType} {tv q : Nat} : ni_Up (ni_sAst ty tv q) := by
  intro call call' next next' hc hn ls st M o h
  unfold ni_sAst at h ⊢
  (repeat' split at h) <;> first | (cases h; done) | (have h9 := hn _ _ _ _ _ h; clear hn hc h; simp_all; done) | (clear hn hc; simp_all; done)
theorem ni_upQst {q : Nat} : ni_Up (ni_sQst q) := by
  intro call call' next next' hc hn ls st M o h
  unfold ni_sQst at h ⊢
  (repeat' split at h) <;> first | (cases h; done) | (have h9 := hn _ _ _ _ _ h; clear hn hc h; simp_all; done) | (clear hn hc; simp_all; done)
theorem ni_upNewa {k q : Nat} {ty : FieldType} : ni_Up (ni_sNewa k ty q) := by
  intro call call' next next' hc hn ls st M o h
  unfold ni_sNewa at h ⊢
  (repeat' split at h) <;> first | (cases h; done) | (have h9 := hn _ _ _ _ _ h; clear hn hc h; simp_all; done) | (clear hn hc; simp_all; done)
theorem ni_upNew {ci q : Nat} {fs : List Value} : ni_Up (ni_sNew ci fs q) := by
  intro call call' next next' hc hn ls st M o h
  unfold ni_sNew at h ⊢
  (repeat' split at h) <;> first | (cases h; done) | (have h9 := hn _ _ _ _ _ h; clear hn hc h; simp_all; done) | (clear hn hc; simp_all; done)
theorem ni_upANew {k q : Nat} : ni_Up (ni_sANew k q) := by
  intro call call' next next' hc hn ls st M o h
  unfold ni_sANew at h ⊢
  (repeat' split at h) <;> first | (cases h; done) | (have h9 := hn _ _ _ _ _ h; clear hn hc h; simp_all; done) | (clear hn hc; simp_all; done)
theorem ni_upCopy {q : Nat} : ni_Up (ni_sCopy q) := by
  intro call call' next next' hc hn ls st M o h
  unfold ni_sCopy at h ⊢
  (repeat' split at h) <;> first | (cases h; done) | (have h9 := hn _ _ _ _ _ h; clear hn hc h; simp_all; done) | (clear hn hc; simp_all; done)
theorem ni_upR {rt : Option FieldType} : ni_Up (ni_sR rt) := by
  intro call call' next next' hc hn ls st M o h
  unfold ni_sR at h ⊢
  (repeat' split at h) <;> first | (cases h; done) | (have h9 := hn _ _ _ _ _ h; clear hn hc h; simp_all; done) | (clear hn hc; simp_all; done)
theorem ni_upTh {E : String} : ni_Up (ni_sTh E) := by
  intro call call' next next' hc hn ls st M o h
  unfold ni_sTh at h ⊢
  (repeat' split at h) <;> first | (cases h; done) | (have h9 := hn _ _ _ _ _ h; clear hn hc h; simp_all; done) | (clear hn hc; simp_all; done)
theorem ni_upCast {nm : String} {q : Nat} : ni_Up (ni_sCast nm q) := by
  intro call call' next next' hc hn ls st M o h
  unfold ni_sCast at h ⊢
  (repeat' split at h) <;> first | (cases h; done) | (have h9 := hn _ _ _ _ _ h; clear hn hc h; simp_all; done) | (clear hn hc; simp_all; done)
theorem ni_upQsO {q : Nat} : ni_Up (ni_sQsO q) := by
  intro call call' next next' hc hn ls st M o h
  unfold ni_sQsO at h ⊢
  (repeat' split at h) <;> first | (cases h; done) | (have h9 := hn _ _ _ _ _ h; clear hn hc h; simp_all; done) | (clear hn hc; simp_all; done)
theorem ni_upQlA {q : Nat} : ni_Up (ni_sQlA q) := by
  intro call call' next next' hc hn ls st M o h
  unfold ni_sQlA at h ⊢
  (repeat' split at h) <;> first | (cases h; done) | (have h9 := hn _ _ _ _ _ h; clear hn hc h; simp_all; done) | (clear hn hc; simp_all; done)
theorem ni_upQsA {q : Nat} : ni_Up (ni_sQsA q) := by
  intro call call' next next' hc hn ls st M o h
  unfold ni_sQsA at h ⊢
  (repeat' split at h) <;> first | (cases h; done) | (have h9 := hn _ _ _ _ _ h; clear hn hc h; simp_all; done) | (clear hn hc; simp_all; done)
theorem ni_upSln {xs : List Int32} {q : Nat} : ni_Up (ni_sSln xs q) := by
  intro call call' next next' hc hn ls st M o h
  unfold ni_sSln at h ⊢
  (repeat' split at h) <;> first | (cases h; done) | (have h9 := hn _ _ _ _ _ h; clear hn hc h; simp_all; done) | (clear hn hc; simp_all; done)
theorem ni_upSld {xs : List Int32} {q : Nat} : ni_Up (ni_sSld xs q) := by
  intro call call' next next' hc hn ls st M o h
  unfold ni_sSld at h ⊢
  (repeat' split at h) <;> first | (cases h; done) | (have h9 := hn _ _ _ _ _ h; clear hn hc h; simp_all; done) | (clear hn hc; simp_all; done)
theorem ni_upAft {call call' : ni_F} {next next' : ni_K} (hc : ∀ (y : Nat) (as : List Value) (M : ni_H) (o : ni_O), call y as M = some o → call' y as M = some o) (hn : ∀ (q : Nat) (ls st : List Value) (M : ni_H) (o : ni_O), next q ls st M = some o → next' q ls st M = some o) {q y : Nat} {ls r as : List Value} {M : ni_H} {o : ni_O} (h : ni_aft next q ls r (call y as M) = some o) : ni_aft next' q ls r (call' y as M) = some o := by
  cases ho : call y as M with
  | none => rw [ho] at h; cases h
  | some o1 =>
    rw [ho] at h
    rw [hc _ _ _ _ ho]
    obtain ⟨u, M1⟩ := o1
    cases u with
    | inl v => exact hn _ _ _ _ _ h
    | inr E => exact h
theorem ni_upV {y n ci q : Nat} : ni_Up (ni_sV y n ci q) := by
  intro call call' next next' hc hn ls st M o h
  unfold ni_sV at h ⊢
  split at h
  · split at h
    · split at h
      next x0 a r h1 x1 c h2 h3 => simp only [h1, h2, if_pos h3]; exact ni_upAft hc hn h
      next => cases h
    · cases h
  · cases h
theorem ni_upC {y n q : Nat} : ni_Up (ni_sC y n q) := by
  intro call call' next next' hc hn ls st M o h
  unfold ni_sC at h ⊢
  split at h
  next h1 => rw [if_pos h1]; exact ni_upAft hc hn h
  next => cases h
theorem ni_upI {y n q : Nat} : ni_Up (ni_sI y n q) := by
  intro call call' next next' hc hn ls st M o h
  unfold ni_sI at h ⊢
  split at h
  · split at h
    next x0 a r h1 h3 => simp only [h1, if_pos h3]; exact ni_upAft hc hn h
    next => cases h
  · cases h
theorem ni_upVX {y n ci q1 k q : Nat} {E0 : String} : ni_Up (ni_sVX y n ci E0 q1 k q) := by
  intro call call' next next' hc hn ls st M o h
  unfold ni_sVX at h ⊢
  split at h
  · split at h
    · split at h
      next x0 a r h1 x1 c h2 h3 =>
        simp only [h1, h2, if_pos h3]
        cases ho : call y _ M with
        | none => rw [ho] at h; cases h
        | some o1 =>
          rw [ho] at h
          rw [hc _ _ _ _ ho]
          obtain ⟨u, M1⟩ := o1
          cases u with
          | inl v => exact hn _ _ _ _ _ h
          | inr E =>
            simp only [ni_aftX] at h ⊢
            split at h
            next he => rw [if_pos he]; exact hn _ _ _ _ _ h
            next => cases h
      next => cases h
    · cases h
  · cases h
theorem ni_up0 : ni_Up ni_s0 := fun _ _ _ _ _ _ _ _ _ _ h => by cases h
/-- more fuel, more depth: the same answer -/
theorem ni_exUp {prog : Nat → Nat → ni_S} (hu : ∀ y pc, ni_Up (prog y pc)) : ∀ (n n' d d' : Nat), n ≤ n' → d ≤ d' → ∀ (y pc : Nat) (ls st : List Value) (M : ni_H) (o : ni_O), ni_ex prog n d y pc ls st M = some o → ni_ex prog n' d' y pc ls st M = some o := by
  intro n
  induction n with
  | zero => intro n' d d' _ _ y pc ls st M o h; cases h
  | succ n ih =>
    intro n' d d' hn hd y pc ls st M o h
    obtain ⟨n1, rfl⟩ : ∃ n1, n' = n1 + 1 := ⟨n' - 1, by omega⟩
    rw [ni_exS] at h ⊢
    refine hu y pc _ _ _ _ (fun y' as M' o' hc => ?_) (fun q ls st M o hh => ih n1 d d' (by omega) hd y q ls st M o hh) ls st M o h
    unfold ni_cl at hc ⊢
    split at hc
    · cases hc
    next d1 =>
      obtain ⟨d2, rfl⟩ : ∃ d2, d' = d2 + 1 := ⟨d' - 1, by omega⟩
      dsimp only
      split at hc
      next he =>
        rw [if_pos he]
        exact ih n1 d1 d2 (by omega) (by omega) _ _ _ _ _ _ hc
      next => cases hc
theorem ni_clUp {prog : Nat → Nat → ni_S} (hu : ∀ y pc, ni_Up (prog y pc)) {n n' d d' y : Nat} {as : List Value} {M : ni_H} {o : ni_O} (hn : n ≤ n') (hd : d ≤ d') (h : ni_cl (ni_ex prog n) d y as M = some o) : ni_cl (ni_ex prog n') d' y as M = some o := by
  unfold ni_cl at h ⊢
  split at h
  · cases h
  next d1 =>
    obtain ⟨d2, rfl⟩ : ∃ d2, d' = d2 + 1 := ⟨d' - 1, by omega⟩
    dsimp only
    split at h
    next he =>
      rw [if_pos he]
      exact ni_exUp hu n n' d1 d2 hn (by omega) _ _ _ _ _ _ h
    next => cases h
end NU
