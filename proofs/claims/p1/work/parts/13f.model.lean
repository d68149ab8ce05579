section NMO
/-- the heap of a new model -/
def ni_RM : List ni_C := [(18, [.ref 1, .int 0]),
  (14, [.int 0, .int 0, .int 0, .ref 2, .ref 3, .ref 4, .ref 5, .ref 6, .ref 7, .ref 8, .int 0, .ref 9, .ref 10, .ref 11, .int 0, .ref 12, .ref 13, .ref 14, .ref 15, .ref 16, .ref 17, .ref 18, .ref 19, .ref 20]),
  (100, List.replicate 14 (.int 0)), (100, List.replicate 14 (.int 0)), (100, List.replicate 14 (.int 0)), (100, List.replicate 14 (.int 0)), (100, List.replicate 14 (.int 0)),
  (103, List.replicate 14 (.int 0)), (108, List.replicate 28 .null),
  (100, List.replicate 24 (.int 0)), (100, List.replicate 24 (.int 0)), (100, List.replicate 24 (.int 0)),
  (100, List.replicate 24 (.int 0)), (100, List.replicate 24 (.int 0)), (100, List.replicate 24 (.int 0)), (100, List.replicate 24 (.int 0)),
  (0, [.int 0, .ref (ni_big + 1), .int 0]),
  (109, List.replicate 64 .null),
  (100, (List.range 64).map fun i => if i / 8 = i % 8 then .int 0 else .int (-1)),
  (111, (List.range 64).map fun i => .ref (21 + i)),
  (0, [.int 8, .ref 86, .int 8])] ++ List.replicate 64 (100, []) ++
  [(0, [.int 0, .ref (ni_big + 1), .int 0]),
   (110, [.ref 85, .ref 87, .ref 88, .ref 89, .ref 90, .ref 91, .ref 92, .ref 93, .null, .null])] ++ List.replicate 7 (0, [.int 0, .ref (ni_big + 1), .int 0])
set_option maxRecDepth 100000 in
theorem ni_tM : ni_cl (ni_ex ni_prog0 4000) 6 110 [.ref 0] ([(18, [.null, .int 0])], 0) = some (.inl none, (ni_RM, 0)) := by decide +kernel
end NMO
