/-! THE LAW OVER THE WHOLE HEAP -/
section NTO
/-- where the small heap's cells lie in the whole one -/
def ni_Et (k : Nat) : Nat := match k with
  | 0 => 0
  | 1 => 1
  | 2 => 375
  | 3 => 2
  | 4 => 3
  | 5 => 4
  | 6 => 5
  | 7 => 9
  | 8 => 6
  | 9 => 7
  | 10 => 8
  | 11 => 10
  | 12 => 11
  | 13 => 12
  | k + 14 => k + 749
def ni_zt (a : Nat) : Bool := (Nat.ble 2 a && Nat.ble a 5) || (Nat.ble 8 a && Nat.ble a 13)
theorem ni_E0t : ni_E0 ni_Et (fun a => ni_zt a = true) 110 845 := by
  refine ⟨fun a b ha hb _ _ h => ?_, fun a ha => ?_, fun a ha => ?_, fun a ha => ?_⟩
  · have key : ∀ a, a < 110 → ∀ b, b < 110 → ni_Et a = ni_Et b → a = b := by decide +kernel
    exact key a ha b hb h
  · have key : ∀ a, a < 110 → ni_Et a < 845 := by decide +kernel
    exact key a ha
  · obtain ⟨k, rfl⟩ : ∃ k, a = k + 14 := ⟨a - 14, by omega⟩
    show k + 749 = 845 + (k + 14 - 110)
    omega
  · simp only [ni_zt, Bool.or_eq_true, Bool.and_eq_true, Nat.ble_eq] at ha
    omega
theorem ni_setsZ {E : Nat → Nat} {z : Nat → Bool} : ∀ (M : List ni_C) (i : Nat) (H : List ni_C), ((ni_sets E z i M H).map (fun c => c.2.length)).sum ≤ (H.map (fun c => c.2.length)).sum + (M.map (fun c => c.2.length)).sum := by
  have set1 : ∀ (H : List ni_C) (a : Nat) (c : ni_C), ((H.set a c).map (fun c => c.2.length)).sum ≤ (H.map (fun c => c.2.length)).sum + c.2.length := by
    intro H
    induction H with
    | nil => intro a c; simp
    | cons c0 t ih =>
      intro a c
      cases a with
      | zero => simp only [List.set_cons_zero, List.map_cons, List.sum_cons]; omega
      | succ a =>
        have := ih a c
        simp only [List.set_cons_succ, List.map_cons, List.sum_cons]
        omega
  intro M
  induction M with
  | nil => intro i H; exact Nat.le_add_right _ _
  | cons c M ih =>
    intro i H
    show ((ni_sets E z (i + 1) M (cond (z i) H (H.set (E i) (ni_sc E c)))).map (fun c => c.2.length)).sum ≤ _
    have h1 := ih (i + 1) (cond (z i) H (H.set (E i) (ni_sc E c)))
    have h2 : ((cond (z i) H (H.set (E i) (ni_sc E c))).map (fun c => c.2.length)).sum ≤ (H.map (fun c => c.2.length)).sum + c.2.length := by
      cases z i with
      | true => exact Nat.le_add_right _ _
      | false =>
        have := set1 H (E i) (ni_sc E c)
        have e : (ni_sc E c).2.length = c.2.length := by simp [ni_sc]
        rw [e] at this
        exact this
    simp only [List.map_cons, List.sum_cons]
    omega
theorem ni_scZ {E : Nat → Nat} (L : List ni_C) : ((L.map (ni_sc E)).map (fun c => c.2.length)).sum = (L.map (fun c => c.2.length)).sum := by
  rw [List.map_map]
  congr 1
  apply List.map_congr_left
  intro c _
  show (c.2.map (ni_sh E)).length = c.2.length
  rw [List.length_map]
theorem ni_takeZ (L : List ni_C) (n : Nat) : (((L.take n).map (fun c => c.2.length)).sum + ((L.drop n).map (fun c => c.2.length)).sum) = (L.map (fun c => c.2.length)).sum := by
  rw [← List.sum_append, ← List.map_append, List.take_append_drop]
def ni_HH (R : List ni_C) : List ni_C := R ++ ni_RM.map (ni_sc (fun k => k + 749)) ++ [(101, [.long 0]), (102, [.double 0])]
set_option maxRecDepth 100000
theorem ni_EmT {R : List ni_C} (hl : R.length = 749) (h0 : R[0]? = some (10, [.ref 1, .ref 375])) (h1 : R[1]? = some (5, [.int 0, .int 0, .int 0, .int 0, .ref 2, .ref 3, .ref 4, .ref 5, .ref 9])) (h5 : R[5]? = some (7, [.ref 6, .ref 7, .ref 8, .int 0])) (h9 : R[9]? = some (7, [.ref 10, .ref 11, .ref 12, .int 0])) : ni_Em ni_Et (fun a => ni_zt a = true) 110 845 (ni_P0, 0) (ni_HH R, 0) := by
  have hlen : (ni_HH R).length = 845 := by
    unfold ni_HH
    rw [List.length_append, List.length_append, hl, List.length_map]
    rfl
  have hP : ni_P0.length = 110 := by decide +kernel
  refine ⟨fun a c ha hz => ?_, rfl, by rw [hP]; exact Nat.le_refl _, by rw [hlen, hP], by rw [hP]; decide, fun a hz => ?_⟩
  · have ha : ni_P0[a]? = some c := ha
    have hal : a < 110 := by rw [← hP]; exact (List.getElem?_eq_some_iff.mp ha).1
    have lowR : ∀ i, i < 749 → (ni_HH R)[i]? = R[i]? := fun i hi => by
      unfold ni_HH
      rw [List.append_assoc, List.getElem?_append_left (by omega)]
    show (ni_HH R)[ni_Et a]? = some (ni_sc ni_Et c)
    by_cases h14 : a < 14
    · match a, h14 with
      | 0, _ => cases ha; rw [lowR _ (by decide)]; exact h0
      | 1, _ => cases ha; rw [lowR _ (by decide)]; exact h1
      | 2, _ => exact absurd rfl hz
      | 3, _ => exact absurd rfl hz
      | 4, _ => exact absurd rfl hz
      | 5, _ => exact absurd rfl hz
      | 6, _ => cases ha; rw [lowR _ (by decide)]; exact h5
      | 7, _ => cases ha; rw [lowR _ (by decide)]; exact h9
      | 8, _ => exact absurd rfl hz
      | 9, _ => exact absurd rfl hz
      | 10, _ => exact absurd rfl hz
      | 11, _ => exact absurd rfl hz
      | 12, _ => exact absurd rfl hz
      | 13, _ => exact absurd rfl hz
      | n + 14, h => omega
    · obtain ⟨k, rfl⟩ : ∃ k, a = k + 14 := ⟨a - 14, by omega⟩
      show (ni_HH R)[k + 749]? = some (ni_sc ni_Et c)
      have e1 : (ni_HH R)[k + 749]? = (ni_RM.map (ni_sc (fun k => k + 749)) ++ [(101, [.long 0]), (102, [.double 0])])[k]? := by
        unfold ni_HH
        rw [List.append_assoc, List.getElem?_append_right (by omega), hl, Nat.add_sub_cancel]
      have e2 : ni_P0[k + 14]? = (ni_RM.map (ni_sc (fun k => k + 14)) ++ [(101, [.long 0]), (102, [.double 0])])[k]? := by
        have e3 : ni_P0.drop 14 = ni_RM.map (ni_sc (fun k => k + 14)) ++ [(101, [.long 0]), (102, [.double 0])] := by decide +kernel
        rw [← e3, List.getElem?_drop, Nat.add_comm]
      have e4 : ni_RM.map (ni_sc (fun k => k + 749)) ++ [((101, [Value.long 0]) : ni_C), (102, [Value.double 0])] = (ni_RM.map (ni_sc (fun k => k + 14)) ++ [((101, [Value.long 0]) : ni_C), (102, [Value.double 0])]).map (ni_sc ni_Et) := by decide +kernel
      rw [e1, e4, List.getElem?_map, ← e2, ha]
      rfl
  · have key : ∀ a, a < 110 → ni_zt a = true → ni_P0[a]? = some (99, []) := by decide +kernel
    refine key a ?_ hz
    have hz : ni_zt a = true := hz
    simp only [ni_zt, Bool.or_eq_true, Bool.and_eq_true, Nat.ble_eq] at hz
    omega
/-- the way to the loop: the two objects, the two rows -/
theorem ni_head (xs : List Int32) : ∃ R : List ni_C, (R.length = 749 ∧ (R.map (fun c => c.2.length)).sum ≤ 50000 ∧ ni_Em ni_Et (fun a => ni_zt a = true) 110 845 (ni_P0, 0) (ni_HH R, 0)) ∧ ∀ o, ni_G xs 9 85 28 [.ref ni_big, .ref 0, .ref 749, .ref 843, .ref 844, .int 0, ni_J, ni_J, ni_J] [] (ni_HH R, 0) o → ni_G xs 9 85 0 (ni_ent 85 [.ref ni_big]) [] ([], 0) o := by
  obtain ⟨R, hr, hl, h0, h1, h5, h9, hs⟩ := ni_cS xs
  refine ⟨R, ⟨hl, hs, ni_EmT hl h0 h1 h5 h9⟩, fun o k => ?_⟩
  have hR : (R ++ [((18, [Value.null, Value.int 0]) : ni_C)]).length = 750 := by rw [List.length_append, hl]; rfl
  have e1 : ni_RM = (18, [.ref 1, .int 0]) :: ni_RM.tail := rfl
  have hm := ni_tM
  rw [e1] at hm
  have r1 := ni_cry1 (a := 749) (H := (R ++ [((18, [Value.null, Value.int 0]) : ni_C)], 0)) (ni_cl0 xs hm) (by
    show (R ++ [((18, [Value.null, Value.int 0]) : ni_C)])[749]? = _
    rw [List.getElem?_append_right (by omega), hl]
    rfl) (fun _ => rfl) rfl (by
    show (R ++ [((18, [Value.null, Value.int 0]) : ni_C)]).length + (ni_RM.tail.length + 1) ≤ ni_big
    rw [hR]
    decide +kernel)
  dsimp only at r1
  rw [hR] at r1
  have eE : ni_E1 749 750 = fun k => k + 749 := by
    funext k
    cases k with
    | zero => rfl
    | succ k => show 750 + k = k + 1 + 749; omega
  rw [eE] at r1
  have eH : (R ++ [((18, [Value.null, Value.int 0]) : ni_C)]).set 749 (ni_sc (fun k => k + 749) (18, [.ref 1, .int 0])) ++ ni_RM.tail.map (ni_sc (fun k => k + 749)) = R ++ ni_RM.map (ni_sc (fun k => k + 749)) := by
    rw [List.set_append_right _ _ (by omega), hl, Nat.sub_self]
    show R ++ [ni_sc (fun k => k + 749) (18, [.ref 1, .int 0])] ++ _ = _
    rw [List.append_assoc]
    congr 1
  rw [eH] at r1
  refine ni_xNew (a := 0) rfl rfl (by decide) rfl ?_
  refine ni_xP rfl rfl ?_
  refine ni_xI rfl rfl rfl (by decide) (ni_Rup hr (by decide)) ?_
  refine ni_xSt rfl rfl rfl ?_
  refine ni_xNew (a := 749) rfl hl (by decide) rfl ?_
  refine ni_xP rfl rfl ?_
  refine ni_xI rfl rfl rfl (by decide) (ni_Rup r1 (by decide)) ?_
  refine ni_xSt rfl rfl rfl ?_
  refine ni_xP (g := ni_gPush (.int 1) 17) rfl rfl ?_
  refine ni_xNewa (a := 843) rfl (by decide) (by rw [List.length_append, hl, List.length_map]; rfl) (by decide) rfl ?_
  refine ni_xSt rfl rfl rfl ?_
  refine ni_xP (g := ni_gPush (.int 1) 21) rfl rfl ?_
  refine ni_xNewa (a := 844) rfl (by decide) (by rw [List.length_append, List.length_append, hl, List.length_map]; rfl) (by decide) rfl ?_
  refine ni_xSt rfl rfl rfl ?_
  refine ni_xP (g := ni_gPush (.int 0) 26) rfl rfl ?_
  refine ni_xSt rfl rfl rfl ?_
  have eZ : R ++ ni_RM.map (ni_sc (fun k => k + 749)) ++ [(100 + 1, List.replicate (1 : Int32).toNatClampNeg (ni_df .long))] ++ [(100 + 2, List.replicate (1 : Int32).toNatClampNeg (ni_df .double))] = ni_HH R := by
    unfold ni_HH
    rw [List.append_assoc, List.append_assoc, List.append_assoc]
    rfl
  rw [eZ]
  exact k
end NTO
