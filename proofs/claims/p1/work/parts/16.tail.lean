/-! THE LAW'S WALK OVER A SMALL HEAP -/
section NTL
def ni_P0 : List ni_C := [(10, [.ref 1, .ref 2]), (5, [.int 0, .int 0, .int 0, .int 0, .ref 3, .ref 4, .ref 5, .ref 6, .ref 7]), (99, []), (99, []), (99, []), (99, []),
  (7, [.ref 8, .ref 9, .ref 10, .int 0]), (7, [.ref 11, .ref 12, .ref 13, .int 0]), (99, []), (99, []), (99, []), (99, []), (99, []), (99, [])] ++
  ni_RM.map (ni_sc (fun k => k + 14)) ++ [(101, [.long 0]), (102, [.double 0])]
def ni_ls0 : List Value := [.ref ni_big, .ref 0, .ref 14, .ref 108, .ref 109, .int 0, ni_J, ni_J, ni_J]
def ni_qq (o : Option ni_O) : Bool := match o with
  | some (.inl (some (.int 1)), _) => true
  | _ => false
set_option maxRecDepth 100000 in
theorem ni_kw68 (a b c d : Int32) : ∃ M, ni_exO ni_o7 (ni_prog []) 100 7 68 0 [.ref 0, .int a, .int b, .int c, .int d, .ref 108, ni_J, ni_J, ni_J] [] (ni_P0, 0) = some (.inl (some (.int 1)), M) := ⟨_, rfl⟩
set_option maxRecDepth 100000 in
theorem ni_km112 (a b c d : Int32) : ∃ M, ni_exO ni_o7 (ni_prog []) 100 7 112 0 [.ref 14, .int a, .int b, .int c, .int d, ni_J, ni_J, ni_J] [] (ni_P0, 0) = some (.inl (some (.int 0)), M) := ⟨_, rfl⟩
end NTL
