section NFA
/-- a constructor of one object, in any heap: what lies where -/
theorem ni_cry1 {xs : List Int32} {d y a : Nat} {H : ni_H} {c c1 : ni_C} {T : List ni_C} {n : Nat} (h : ni_cl (ni_ex (ni_prog xs) n) d y [.ref 0] ([c], 0) = some (.inl none, (c1 :: T, 0))) (ha : H.1[a]? = some c) (hc : ∀ E, ni_sc E c = c) (hg : H.2 = 0) (hb : H.1.length + (T.length + 1) ≤ ni_big) :
    ni_R xs d y [.ref a] H (.inl none, (H.1.set a (ni_sc (ni_E1 a H.1.length) c1) ++ T.map (ni_sc (ni_E1 a H.1.length)), 0)) := by
  have := ni_clO h ha hc hg hb (by decide)
  rw [List.map_cons, List.map_nil, ni_shE1] at this
  exact ⟨n, this⟩
theorem na_E1 {a : Nat} : ni_E1 a (a + 1) = fun k => a + k := by
  funext k
  cases k with
  | zero => rfl
  | succ k =>
    show a + 1 + k = a + (k + 1)
    omega
/-- a new Switchyard -/
theorem ni_cS (xs : List Int32) : ∃ R0 : List ni_C, R0.length = 374 ∧ na_all R0 0 = true ∧ (R0.map (fun c => c.2.length)).sum ≤ 20000 ∧ ni_R xs 6 0 [.ref 0] ([(9, [.null, .null])], 0) (.inl none, ((9, [.ref 1, .ref 375]) :: (R0.map (ni_sc (fun k => 1 + k)) ++ R0.map (ni_sc (fun k => 375 + k))), 0)) := by
  obtain ⟨n, R, h, hl, hck, hsum⟩ := ni_cN xs
  refine ⟨R, hl, hck, hsum, ?_⟩
  clear hck hsum
  obtain ⟨c1, T, rfl⟩ : ∃ c1 T, R = c1 :: T := by
    cases R with
    | nil => cases hl
    | cons c T => exact ⟨c, T, rfl⟩
  have hT : T.length = 373 := by simpa using hl
  rw [← na_E1, ← na_E1]
  have r1 := ni_cry1 (a := 1) (H := ([(9, [.null, .null]), ni_N0], 0)) h rfl (fun _ => rfl) rfl (by rw [hT]; decide)
  obtain ⟨T1, hT1⟩ : ∃ T1, T1 = T.map (ni_sc (ni_E1 1 2)) := ⟨_, rfl⟩
  obtain ⟨d1, hd1⟩ : ∃ d1, d1 = ni_sc (ni_E1 1 2) c1 := ⟨_, rfl⟩
  have l1 : T1.length = 373 := by rw [hT1, List.length_map, hT]
  have r1' : ni_R xs 5 75 [.ref 1] ([(9, [.null, .null]), ni_N0], 0) (.inl none, ((9, [.null, .null]) :: d1 :: T1, 0)) := by
    rw [hT1, hd1]
    exact r1
  clear r1
  have r2 := ni_cry1 (a := 375) (H := ((9, [.ref 1, .null]) :: d1 :: (T1 ++ [ni_N0]), 0)) h (by
    show (T1 ++ [ni_N0])[373]? = some ni_N0
    rw [List.getElem?_append_right (by omega), l1]
    rfl) (fun _ => rfl) rfl (by simp only [List.length_cons, List.length_append, List.length_nil, l1, hT]; decide)
  obtain ⟨Q, hQ⟩ : ∃ Q, Q = (((9, [.ref 1, .null]) :: d1 :: (T1 ++ [ni_N0]) : List ni_C)) := ⟨_, rfl⟩
  rw [← hQ] at r2
  have hQl : Q.length = 376 := by rw [hQ]; simp [l1]
  dsimp only at r2
  rw [hQl] at r2
  obtain ⟨c2, hc2⟩ : ∃ c2, c2 = ni_sc (ni_E1 375 376) c1 := ⟨_, rfl⟩
  obtain ⟨T2, hT2⟩ : ∃ T2, T2 = T.map (ni_sc (ni_E1 375 376)) := ⟨_, rfl⟩
  have l2 : T2.length = 373 := by rw [hT2, List.length_map, hT]
  rw [← hc2, ← hT2] at r2
  have r3 := r2
  rw [show ((Q, 0) : ni_H) = _ from congrArg (fun z => ((z, 0) : ni_H)) hQ] at r3
  have eF : (9, [.ref 1, .ref 375]) :: ((c1 :: T).map (ni_sc (ni_E1 1 (1 + 1))) ++ (c1 :: T).map (ni_sc (ni_E1 375 (375 + 1)))) = (Q.set 375 c2 ++ T2).set 0 (9, [.ref 1, .ref 375]) := by
    rw [List.map_cons, List.map_cons, ← hd1, ← hT1, ← hc2, ← hT2, hQ]
    show _ = (9, [.ref 1, .ref 375]) :: d1 :: ((T1 ++ [ni_N0]).set 373 c2 ++ T2)
    rw [show (T1 ++ [ni_N0]).set 373 c2 = T1 ++ [c2] by rw [List.set_append_right _ _ (by omega), l1]; rfl]
    simp
  rw [eF]
  refine ni_enter (by decide +kernel) rfl ?_
  refine ni_xLd rfl rfl rfl ?_
  refine ni_xP rfl rfl ?_
  refine ni_xLd rfl rfl rfl ?_
  refine ni_xNew rfl rfl (by decide) rfl ?_
  refine ni_xP rfl rfl ?_
  refine ni_xI rfl rfl rfl (by decide) r1' ?_
  refine ni_xPut rfl rfl (by decide) rfl rfl ?_
  refine ni_xLd rfl rfl rfl ?_
  refine ni_xNew (a := 375) rfl (by show T1.length + 2 = 375; omega) (by decide) rfl ?_
  refine ni_xP rfl rfl ?_
  refine ni_xI rfl rfl rfl (by decide) r3 ?_
  refine ni_xPut (vs := [.ref 1, .null]) rfl ?_ (by decide) rfl rfl ?_
  · rw [hQ]; rfl
  · exact ni_xRv rfl rfl
end NFA
