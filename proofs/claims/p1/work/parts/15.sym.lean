section NSY
def ni_o1 (y : Nat) (as : List Value) (H : ni_H) : Option ni_O := match y with
  | 130 => some (.inl (some (.int 0)), H)
  | y => ni_cl (ni_ex ni_prog0 100) 3 y as H
set_option maxRecDepth 100000 in
theorem ni_s135 (a : Int32) : ni_exC ni_o1 ni_prog0 40 135 0 [.ref 0, .int a] [] ([(18, [.ref 1, .int 0]), (14, [.int 0, .int 0, .int 0])], 0) = some (.inl (some (.int 1)), ([(18, [.ref 1, .int 1]), (14, [.int 0, .int 0, .int 0])], 0)) := by
  rfl
end NSY
