section NFA
/-- a constructor of one object, in any heap: what lies where -/
theorem ni_cry1 {xs : List Int32} {d y a : Nat} {H : ni_H} {c c1 : ni_C} {T : List ni_C} {n : Nat} (h : ni_cl (ni_ex (ni_prog xs) n) d y [.ref 0] ([c], 0) = some (.inl none, (c1 :: T, 0))) (ha : H.1[a]? = some c) (hc : ∀ E, ni_sc E c = c) (hg : H.2 = 0) (hb : H.1.length + (T.length + 1) ≤ ni_big) :
    ni_R xs d y [.ref a] H (.inl none, (H.1.set a (ni_sc (ni_E1 a H.1.length) c1) ++ T.map (ni_sc (ni_E1 a H.1.length)), 0)) := by
  have := ni_cl1 h ha hc hg hb (by decide)
  rw [List.map_cons, List.map_nil, ni_shE1] at this
  exact ⟨n, this⟩
/-- a new Switchyard -/
theorem ni_cS (xs : List Int32) : ∃ R : List ni_C, ni_R xs 6 0 [.ref 0] ([(10, [.null, .null])], 0) (.inl none, (R, 0)) ∧ R.length = 749 ∧ R[0]? = some (10, [.ref 1, .ref 375]) ∧ R[1]? = some (5, [.int 0, .int 0, .int 0, .int 0, .ref 2, .ref 3, .ref 4, .ref 5, .ref 9]) ∧ R[5]? = some (7, [.ref 6, .ref 7, .ref 8, .int 0]) ∧ R[9]? = some (7, [.ref 10, .ref 11, .ref 12, .int 0]) ∧ (R.map (fun c => c.2.length)).sum ≤ 50000 := by
  obtain ⟨n, R, h, hl, h0, h4, h8, hsum⟩ := ni_cN xs
  obtain ⟨c1, T, rfl⟩ : ∃ c1 T, R = c1 :: T := by
    cases R with
    | nil => cases hl
    | cons c T => exact ⟨c, T, rfl⟩
  have hT : T.length = 373 := by simpa using hl
  cases h0
  have h4 : T[3]? = some (7, [.ref 5, .ref 6, .ref 7, .int 0]) := h4
  have h8 : T[7]? = some (7, [.ref 9, .ref 10, .ref 11, .int 0]) := h8
  have r1 := ni_cry1 (a := 1) (H := ([(10, [.null, .null]), ni_N0], 0)) h rfl (fun _ => rfl) rfl (by rw [hT]; decide)
  obtain ⟨T1, hT1⟩ : ∃ T1, T1 = T.map (ni_sc (ni_E1 1 2)) := ⟨_, rfl⟩
  have l1 : T1.length = 373 := by rw [hT1, List.length_map, hT]
  have e4 : T1[3]? = some (7, [.ref 6, .ref 7, .ref 8, .int 0]) := by rw [hT1, List.getElem?_map, h4]; decide
  have e8 : T1[7]? = some (7, [.ref 10, .ref 11, .ref 12, .int 0]) := by rw [hT1, List.getElem?_map, h8]; decide
  have r1' : ni_R xs 5 60 [.ref 1] ([(10, [.null, .null]), ni_N0], 0) (.inl none, ((10, [.null, .null]) :: (5, [.int 0, .int 0, .int 0, .int 0, .ref 2, .ref 3, .ref 4, .ref 5, .ref 9]) :: T1, 0)) := by
    rw [hT1]
    exact r1
  clear r1
  have r2 := ni_cry1 (a := 375) (H := ((10, [.ref 1, .null]) :: (5, [.int 0, .int 0, .int 0, .int 0, .ref 2, .ref 3, .ref 4, .ref 5, .ref 9]) :: (T1 ++ [ni_N0]), 0)) h (by
    show (T1 ++ [ni_N0])[373]? = some ni_N0
    rw [List.getElem?_append_right (by omega), l1]
    rfl) (fun _ => rfl) rfl (by simp only [List.length_cons, List.length_append, List.length_nil, l1, hT]; decide)
  obtain ⟨Q, hQ⟩ : ∃ Q, Q = (((10, [.ref 1, .null]) :: (5, [.int 0, .int 0, .int 0, .int 0, .ref 2, .ref 3, .ref 4, .ref 5, .ref 9]) :: (T1 ++ [ni_N0]) : List ni_C)) := ⟨_, rfl⟩
  rw [← hQ] at r2
  have hQl : Q.length = 376 := by rw [hQ]; simp [l1]
  dsimp only at r2
  rw [hQl] at r2
  obtain ⟨c2, hc2⟩ : ∃ c2, c2 = ni_sc (ni_E1 375 376) (5, [.int 0, .int 0, .int 0, .int 0, .ref 1, .ref 2, .ref 3, .ref 4, .ref 8]) := ⟨_, rfl⟩
  obtain ⟨T2, hT2⟩ : ∃ T2, T2 = T.map (ni_sc (ni_E1 375 376)) := ⟨_, rfl⟩
  have l2 : T2.length = 373 := by rw [hT2, List.length_map, hT]
  rw [← hc2, ← hT2] at r2
  have r3 := r2
  rw [show ((Q, 0) : ni_H) = _ from congrArg (fun z => ((z, 0) : ni_H)) hQ] at r3
  refine ⟨(Q.set 375 c2 ++ T2).set 0 (10, [.ref 1, .ref 375]), ?_, by simp [hQl, l2], ?_, ?_, ?_, ?_, ?_⟩
  · refine ni_enter (by decide +kernel) rfl ?_
    refine ni_xLd rfl rfl rfl ?_
    refine ni_xP rfl rfl ?_
    refine ni_xLd rfl rfl rfl ?_
    refine ni_xNew rfl rfl (by decide) rfl ?_
    refine ni_xP rfl rfl ?_
    refine ni_xI rfl rfl rfl (by decide) r1' ?_
    refine ni_xPut rfl rfl (by decide) rfl rfl ?_
    refine ni_xLd rfl rfl rfl ?_
    refine ni_xNew (a := 375) rfl (by show T1.length + 2 = 375; omega) (by decide) rfl ?_
    refine ni_xP rfl rfl ?_
    refine ni_xI rfl rfl rfl (by decide) r3 ?_
    refine ni_xPut (vs := [.ref 1, .null]) rfl ?_ (by decide) rfl rfl ?_
    · rw [hQ]; rfl
    · exact ni_xRv rfl rfl
  · rw [hQ]; rfl
  · rw [hQ]; rfl
  · rw [hQ]
    show ((T1 ++ [ni_N0]).set 373 c2 ++ T2)[3]? = _
    rw [List.getElem?_append_left (by simp [l1]), List.getElem?_set_ne (by decide), List.getElem?_append_left (by omega)]
    exact e4
  · rw [hQ]
    show ((T1 ++ [ni_N0]).set 373 c2 ++ T2)[7]? = _
    rw [List.getElem?_append_left (by simp [l1]), List.getElem?_set_ne (by decide), List.getElem?_append_left (by omega)]
    exact e8
  · have sm : ∀ E : Nat → Nat, ((T.map (ni_sc E)).map (fun c => c.2.length)).sum = (T.map (fun c => c.2.length)).sum := by
      intro E
      rw [List.map_map]
      congr 1
      apply List.map_congr_left
      intro c _
      show (c.2.map (ni_sh E)).length = c.2.length
      rw [List.length_map]
    have hs2 : (T.map (fun c => c.2.length)).sum ≤ 20000 := by
      simp only [List.map_cons, List.sum_cons] at hsum
      omega
    have e0 : (Q.set 375 c2 ++ T2)[0]? = some (10, [.ref 1, .null]) := by rw [hQ]; rfl
    rw [ni_zsS (t' := 10) (vs' := [.ref 1, .ref 375]) e0 rfl, List.map_append, List.sum_append]
    have e1 : Q[375]? = some (5, [.int 0, .int 0, .int 0, .int 0, .null, .null, .null, .null, .null]) := by
      rw [hQ]
      show (T1 ++ [ni_N0])[373]? = some ni_N0
      rw [List.getElem?_append_right (by omega), l1]
      rfl
    have e2 : c2 = (5, c2.2) := by rw [hc2]; rfl
    rw [e2, ni_zsS (t' := 5) (vs' := c2.2) e1 (by rw [hc2]; rfl), hT2, sm, hQ]
    simp only [List.map_cons, List.map_append, List.map_nil, List.sum_cons, List.sum_append, List.sum_nil]
    rw [hT1, sm]
    have : ni_N0.2.length = 9 := rfl
    simp only [List.length_cons, List.length_nil] at this ⊢
    omega
end NFA
