/-! WHAT THE CONSTRUCTORS MAKE -/
section NMK
def ni_F0 : ni_C := (1, [.int 0, .int 0, .int 0, .int 0, .int 0, .int 0, .int 0, .int 0, .int 0, .int 0, .null, .int 0, .int 0, .int 0, .null, .int 0, .int 0, .int 0, .int 0])
def ni_R56 : List ni_C := [(1, [.int 0, .int 0, .int 0, .int 0, .int (-1), .int 0, .int 0, .int 0, .int 0, .int 0, .ref 1, .int 0, .int 0, .int 0, .ref 2, .int 0, .int (-1), .int (-1), .int 0]),
  (100, List.replicate 10 (.int 0)), (100, List.replicate 7 (.int 0))]
def ni_K0 : ni_C := (4, [.int 0, .int 0, .int 0, .int 0, .int 0, .int 0, .null, .null])
def ni_R59 : List ni_C := [(4, [.int 0, .int 0, .int 0, .int 0, .int 0, .int 0, .ref 1, .ref 9]),
  (6, [.ref 2, .int 0, .int 2000, .int 0, .int 0, .ref 6, .ref 7, .int 0, .int 0, .ref 8, .int 0, .int 0, .int (-1), .int 0]),
  (3, [.ref 3, .ref 4, .int 0, .ref 5, .int 0]),
  (107, List.replicate 8 (.null)),
  (100, List.replicate 8 (.int 0)),
  (100, List.replicate 21 (.int (-1))),
  (100, List.replicate 4 (.int 1)),
  (100, List.replicate 4 (.int 0)),
  (100, List.replicate 250 (.int 0)),
  (6, [.ref 10, .int 0, .int 2000, .int 0, .int 0, .ref 14, .ref 15, .int 0, .int 0, .ref 16, .int 0, .int 0, .int (-1), .int 0]),
  (3, [.ref 11, .ref 12, .int 0, .ref 13, .int 0]),
  (107, List.replicate 8 (.null)),
  (100, List.replicate 8 (.int 0)),
  (100, List.replicate 21 (.int (-1))),
  (100, List.replicate 4 (.int 1)),
  (100, List.replicate 4 (.int 0)),
  (100, List.replicate 250 (.int 0))]
def ni_X0 : ni_C := (7, [.null, .null, .null, .int 0])
def ni_R65 : List ni_C := [(7, [.ref 1, .ref 2, .ref 3, .int 0]), (100, List.replicate 24 (.int 0)), (100, List.replicate 24 (.int 0)), (100, List.replicate 24 (.int 0))]
set_option maxRecDepth 100000 in
theorem ni_t56 : ni_cl (ni_ex ni_prog0 1000) 4 56 [.ref 0] ([ni_F0], 0) = some (.inl none, (ni_R56, 0)) := by decide +kernel
set_option maxRecDepth 100000 in
theorem ni_t59 : ni_cl (ni_ex ni_prog0 1000) 4 59 [.ref 0] ([ni_K0], 0) = some (.inl none, (ni_R59, 0)) := by decide +kernel
set_option maxRecDepth 100000 in
theorem ni_t65 : ni_cl (ni_ex ni_prog0 1000) 4 65 [.ref 0, .int 24] ([ni_X0], 0) = some (.inl none, (ni_R65, 0)) := by decide +kernel
/-- the oracle of Net's constructor -/
def ni_or (y : Nat) (as : List Value) (H : ni_H) : Option ni_O := match y, as with
  | 56, [.ref a] => if H.1[a]? = some ni_F0 ∧ H.2 = 0 ∧ H.1.length ≤ 100000 ∧ a < ni_big then some (.inl none, ni_cry (ni_E1 a H.1.length) (fun _ => false) 1 ni_R56 H 0) else none
  | 59, [.ref a] => if H.1[a]? = some ni_K0 ∧ H.2 = 0 ∧ H.1.length ≤ 100000 ∧ a < ni_big then some (.inl none, ni_cry (ni_E1 a H.1.length) (fun _ => false) 1 ni_R59 H 0) else none
  | 65, [.ref a, .int 24] => if H.1[a]? = some ni_X0 ∧ H.2 = 0 ∧ H.1.length ≤ 100000 ∧ a < ni_big then some (.inl none, ni_cry (ni_E1 a H.1.length) (fun _ => false) 1 ni_R65 H 0) else none
  | y, as => ni_cl (ni_ex ni_prog0 400) 4 y as H
def ni_N0 : ni_C := (5, [.int 0, .int 0, .int 0, .int 0, .null, .null, .null, .null, .null])
def ni_nC (o : Option ni_O) : Bool := match o with
  | some (.inl none, (L, 0)) => Nat.ble (L.map (fun c => c.2.length)).sum 20000 && (L.length == 374) && (L[0]? == some (5, [.int 0, .int 0, .int 0, .int 0, .ref 1, .ref 2, .ref 3, .ref 4, .ref 8])) && (L[4]? == some (7, [.ref 5, .ref 6, .ref 7, .int 0])) && (L[8]? == some (7, [.ref 9, .ref 10, .ref 11, .int 0]))
  | _ => false
set_option maxRecDepth 100000 in
theorem ni_tN : ni_nC (ni_exC ni_or ni_prog0 1000 60 0 (ni_ent 60 [.ref 0]) [] ([ni_N0], 0)) = true := by decide +kernel
theorem ni_tN2 : ∃ R : List ni_C, ni_exC ni_or ni_prog0 1000 60 0 (ni_ent 60 [.ref 0]) [] ([ni_N0], 0) = some (.inl none, (R, 0)) ∧ R.length = 374 ∧ R[0]? = some (5, [.int 0, .int 0, .int 0, .int 0, .ref 1, .ref 2, .ref 3, .ref 4, .ref 8]) ∧ R[4]? = some (7, [.ref 5, .ref 6, .ref 7, .int 0]) ∧ R[8]? = some (7, [.ref 9, .ref 10, .ref 11, .int 0]) ∧ (R.map (fun c => c.2.length)).sum ≤ 20000 := by
  have h := ni_tN
  generalize ni_exC ni_or ni_prog0 1000 60 0 (ni_ent 60 [.ref 0]) [] ([ni_N0], 0) = o at h ⊢
  unfold ni_nC at h
  split at h
  next L =>
    simp only [Bool.and_eq_true, beq_iff_eq] at h
    exact ⟨L, rfl, h.1.1.1.2, h.1.1.2, h.1.2, h.2, Nat.le_of_ble_eq_true h.1.1.1.1⟩
  next => cases h
end NMK
