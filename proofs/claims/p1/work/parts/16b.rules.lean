/-! step AND settledIn over the small heap, by rules -/
section NST
variable {xs : List Int32}
theorem ni_ro (xs : List Int32) (r : Nat × ni_S) (h : r ∈ ni_pr85 xs) : ni_prog xs 85 r.1 = r.2 := by
  have e : ni_prog xs 85 r.1 = ni_look (ni_pr85 xs) r.1 := rfl
  rw [e]
  exact ni_lookM _ 0 (ni_asc85 xs) r h
section X2
variable {d y pc q : Nat} {ls st : List Value} {M : ni_H} {o : ni_O}
theorem ni_xSld {i : Int32} {x : Int32} (hp : ni_prog xs y pc = ni_sSld xs q) (hi : ¬ i < 0 ∧ xs[i.toNatClampNeg]? = some x) (k : ni_G xs d y q ls (.int x :: st) M o) : ni_G xs d y pc ls (.int i :: .ref ni_big :: st) M o := by
  obtain ⟨n, h⟩ := k
  refine ⟨n + 1, ?_⟩
  rw [ni_exS, hp]
  unfold ni_sSld
  dsimp only
  rw [if_pos ⟨rfl, hi.1⟩, hi.2]
  exact h
theorem ni_xSln {x : Int32} (hp : ni_prog xs y pc = ni_sSln xs q) (hx : Int32.ofNat xs.length = x) (k : ni_G xs d y q ls (.int x :: st) M o) : ni_G xs d y pc ls (.ref ni_big :: st) M o := by
  obtain ⟨n, h⟩ := k
  refine ⟨n + 1, ?_⟩
  rw [ni_exS, hp]
  unfold ni_sSln
  dsimp only
  rw [if_pos rfl, hx]
  exact h
end X2
/-- what the reader with the oracle says of a call -/
theorem ni_ofO {n d y : Nat} {as : List Value} {M : ni_H} {o : ni_O} (h : ni_clO ni_o7 (ni_exO ni_o7 (ni_prog xs) n) d y as M = some o) : ni_R xs (d + 1) y as M o := by
  unfold ni_clO at h
  split at h
  next o2 h2 =>
    cases h
    exact ⟨20, ni_clUp ni_up (Nat.le_refl _) (by omega) (ni_o7Ok xs y as M o h2)⟩
  next =>
    unfold ni_cl at h
    split at h
    · cases h
    next d1 =>
      split at h
      next he =>
        refine ⟨20 + n, ?_⟩
        unfold ni_cl
        dsimp only
        rw [if_pos he]
        exact ni_exOOk ni_up (ni_o7Ok xs) n d1 y 0 _ [] M o h
      next => cases h
/-- a walk of the reader with the oracle -/
theorem ni_ofOG {L : List (Nat × ni_S)} (hs : ∀ pc, ni_look L pc = ni_s0 ∨ ni_look L pc = ni_look (ni_pr85 xs) pc) {n d y pc : Nat} {ls st : List Value} {M : ni_H} {o : ni_O} (h : ni_exO ni_o7 (ni_prQ L) n d y pc ls st M = some o) : ni_G xs (d + 1) y pc ls st M o :=
  ⟨20 + n, ni_exOOk ni_up (ni_o7Ok xs) n d y pc ls st M o (ni_exQ hs n d y pc ls st M o h)⟩
end NST
