/-! A NET, CELL BY CELL -/
section NMC
theorem na_segE {L R : List ni_C} {lo n s : Nat} (h : (L.drop lo).take n = (R.drop lo).take n) (h1 : lo ≤ s) (h2 : s < lo + n) : L[s]? = R[s]? := by
  have e : ((L.drop lo).take n)[s - lo]? = ((R.drop lo).take n)[s - lo]? := by rw [h]
  rw [List.getElem?_take, List.getElem?_take, if_pos (by omega), if_pos (by omega), List.getElem?_drop, List.getElem?_drop, show lo + (s - lo) = s by omega] at e
  exact e
set_option maxRecDepth 100000 in
theorem na_R0l : na_R0.length = 374 ∧ (na_R0.map (fun c => c.2.length)).sum ≤ 20000 := by decide +kernel
set_option maxRecDepth 100000 in
theorem na_okk0 : na_all ((na_R0.drop 0).take 48) 0 = true := by decide +kernel
set_option maxRecDepth 100000 in
theorem na_okk1 : na_all ((na_R0.drop 48).take 119) 48 = true := by decide +kernel
set_option maxRecDepth 100000 in
theorem na_okk2 : na_all ((na_R0.drop 167).take 119) 167 = true := by decide +kernel
set_option maxRecDepth 100000 in
theorem na_okk3 : na_all ((na_R0.drop 286).take 44) 286 = true := by decide +kernel
set_option maxRecDepth 100000 in
theorem na_okk4 : na_all ((na_R0.drop 330).take 44) 330 = true := by decide +kernel
theorem na_allA : ∀ (L R : List ni_C) (k : Nat), na_all L k = true → na_all R (k + L.length) = true → na_all (L ++ R) k = true := by
  intro L
  induction L with
  | nil => intro R k _ h; exact h
  | cons c L ih =>
    intro R k h h2
    have h' : (na_ck c k && na_all L (k + 1)) = true := h
    rw [Bool.and_eq_true] at h'
    show (na_ck c k && na_all (L ++ R) (k + 1)) = true
    rw [Bool.and_eq_true]
    refine ⟨h'.1, ih R (k + 1) h'.2 ?_⟩
    rw [List.length_cons] at h2
    rw [show k + 1 + L.length = k + (L.length + 1) by omega]
    exact h2
theorem na_okA : na_all na_R0 0 = true := by
  have l := na_R0l.1
  have step : ∀ lo n, lo + n ≤ 374 → na_all ((na_R0.drop lo).take n) lo = true → na_all (na_R0.drop (lo + n)) (lo + n) = true → na_all (na_R0.drop lo) lo = true := fun lo n hn h1 h2 => by
    have e : na_R0.drop lo = (na_R0.drop lo).take n ++ na_R0.drop (lo + n) := by
      rw [← List.drop_drop, List.take_append_drop]
    rw [e]
    refine na_allA _ _ _ h1 ?_
    have : ((na_R0.drop lo).take n).length = n := by
      rw [List.length_take, List.length_drop, l]
      omega
    rw [this]
    exact h2
  have h := step 0 48 (by omega) na_okk0 (step 48 119 (by omega) na_okk1 (step 167 119 (by omega) na_okk2 (step 286 44 (by omega) na_okk3 (step 330 44 (by omega) na_okk4 (by rw [List.drop_of_length_le (by omega)]; rfl)))))
  rw [List.drop_zero] at h
  exact h
theorem ni_tN2 : ni_exC ni_or ni_prog0 1000 75 0 (ni_ent 75 [.ref 0]) [] ([ni_N0], 0) = some (.inl none, (na_R0, 0)) := by
  have h := ni_tN
  have s0 := na_seg0
  have s1 := na_seg1
  have s2 := na_seg2
  have s3 := na_seg3
  have s4 := na_seg4
  have s5 := na_seg5
  have s6 := na_seg6
  generalize ni_exC ni_or ni_prog0 1000 75 0 (ni_ent 75 [.ref 0]) [] ([ni_N0], 0) = o at h s0 s1 s2 s3 s4 s5 s6 ⊢
  unfold ni_nC at h
  split at h
  next L =>
    have hl := Nat.eq_of_beq_eq_true h
    have e : ∀ lo n, na_cmp lo n (some (.inl none, (L, 0))) = true → (L.drop lo).take n = (na_R0.drop lo).take n := fun lo n hh => eq_of_beq hh
    have : L = na_R0 := by
      refine List.ext_getElem? (fun s => ?_)
      by_cases c0 : s < 48
      · exact na_segE (e _ _ s0) (by omega) (by omega)
      by_cases c1 : s < 116
      · exact na_segE (e _ _ s1) (by omega) (by omega)
      by_cases c2 : s < 184
      · exact na_segE (e _ _ s2) (by omega) (by omega)
      by_cases c3 : s < 252
      · exact na_segE (e _ _ s3) (by omega) (by omega)
      by_cases c4 : s < 286
      · exact na_segE (e _ _ s4) (by omega) (by omega)
      by_cases c5 : s < 330
      · exact na_segE (e _ _ s5) (by omega) (by omega)
      by_cases c6 : s < 374
      · exact na_segE (e _ _ s6) (by omega) (by omega)
      · rw [List.getElem?_eq_none (by omega), List.getElem?_eq_none (by have := na_R0l.1; omega)]
    rw [this]
  next => cases h
end NMC
