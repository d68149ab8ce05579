section NK
set_option maxRecDepth 100000 in
theorem ni_t1 : ni_cl (ni_ex ni_prog0 235) 6 58 [.ref 0] ([(3, [.null, .null, .int 0, .null, .int 0])], 0) = some (.inl none, ([(3, [.ref 1, .ref 2, .int 0, .ref 3, .int 0]),
  (107, List.replicate 8 (.null)),
  (100, List.replicate 8 (.int 0)),
  (100, List.replicate 21 (.int (-1)))], 0)) := by decide +kernel
set_option maxRecDepth 100000 in
theorem ni_t2 : ni_cl (ni_ex ni_prog0 309) 6 64 [.ref 0] ([(6, [.null, .int 0, .int 0, .int 0, .int 0, .null, .null, .int 0, .int 0, .null, .int 0, .int 0, .int 0, .int 0])], 0) = some (.inl none, ([(6, [.ref 1, .int 0, .int 2000, .int 0, .int 0, .ref 5, .ref 6, .int 0, .int 0, .ref 7, .int 0, .int 0, .int (-1), .int 0]),
  (3, [.ref 2, .ref 3, .int 0, .ref 4, .int 0]),
  (107, List.replicate 8 (.null)),
  (100, List.replicate 8 (.int 0)),
  (100, List.replicate 21 (.int (-1))),
  (100, List.replicate 4 (.int 1)),
  (100, List.replicate 4 (.int 0)),
  (100, List.replicate 250 (.int 0))], 0)) := by decide +kernel
set_option maxRecDepth 100000 in
theorem ni_t3 : ni_cl (ni_ex ni_prog0 626) 6 59 [.ref 0] ([(4, [.int 0, .int 0, .int 0, .int 0, .int 0, .int 0, .null, .null])], 0) = some (.inl none, ([(4, [.int 0, .int 0, .int 0, .int 0, .int 0, .int 0, .ref 1, .ref 9]),
  (6, [.ref 2, .int 0, .int 2000, .int 0, .int 0, .ref 6, .ref 7, .int 0, .int 0, .ref 8, .int 0, .int 0, .int (-1), .int 0]),
  (3, [.ref 3, .ref 4, .int 0, .ref 5, .int 0]),
  (107, List.replicate 8 (.null)),
  (100, List.replicate 8 (.int 0)),
  (100, List.replicate 21 (.int (-1))),
  (100, List.replicate 4 (.int 1)),
  (100, List.replicate 4 (.int 0)),
  (100, List.replicate 250 (.int 0)),
  (6, [.ref 10, .int 0, .int 2000, .int 0, .int 0, .ref 14, .ref 15, .int 0, .int 0, .ref 16, .int 0, .int 0, .int (-1), .int 0]),
  (3, [.ref 11, .ref 12, .int 0, .ref 13, .int 0]),
  (107, List.replicate 8 (.null)),
  (100, List.replicate 8 (.int 0)),
  (100, List.replicate 21 (.int (-1))),
  (100, List.replicate 4 (.int 1)),
  (100, List.replicate 4 (.int 0)),
  (100, List.replicate 250 (.int 0))], 0)) := by decide +kernel
end NK
