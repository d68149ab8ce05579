/-! THE LAW'S WALK OVER A SMALL HEAP -/
section NTL
def ni_P0 : List ni_C := [(10, [.ref 1, .ref 2]), (5, [.int 0, .int 0, .int 0, .int 0, .ref 3, .ref 4, .ref 5, .ref 6, .ref 7]), (99, []), (99, []), (99, []), (99, []),
  (7, [.ref 8, .ref 9, .ref 10, .int 0]), (7, [.ref 11, .ref 12, .ref 13, .int 0]), (99, []), (99, []), (99, []), (99, []), (99, []), (99, [])] ++
  ni_RM.map (ni_sc (fun k => k + 14)) ++ [(101, [.long 0]), (102, [.double 0])]
def ni_ls0 : List Value := [.ref ni_big, .ref 0, .ref 14, .ref 108, .ref 109, .int 0, ni_J, ni_J, ni_J]
def ni_qq (o : Option ni_O) : Bool := match o with
  | some (.inl (some (.int 1)), _) => true
  | _ => false
def ni_P1 : List ni_C := ni_P0.set 14 (18, [.ref 15, .int 1])
set_option maxRecDepth 100000
theorem ni_kw68 (xs : List Int32) (a b c d : Int32) : ni_clO ni_o7 (ni_exO ni_o7 (ni_prog xs) 100) 8 68 [.ref 0, .int a, .int b, .int c, .int d, .ref 108] (ni_P0, 0) = some (.inl (some (.int 1)), (ni_P0, 1)) := rfl
theorem ni_km112 (xs : List Int32) (a b c d : Int32) : ni_clO ni_o7 (ni_exO ni_o7 (ni_prog xs) 100) 8 112 [.ref 14, .int a, .int b, .int c, .int d] (ni_P0, 1) = some (.inl (some (.int 0)), (ni_P1, 1)) := rfl
theorem ni_kw69 (xs : List Int32) (a b c d e : Int32) : ni_clO ni_o7 (ni_exO ni_o7 (ni_prog xs) 100) 8 69 [.ref 0, .int a, .int b, .int c, .int d, .int e, .ref 108] (ni_P0, 0) = some (.inl (some (.int 1)), (ni_P0, 1)) := rfl
theorem ni_km113 (xs : List Int32) (a b c d e : Int32) : ni_clO ni_o7 (ni_exO ni_o7 (ni_prog xs) 100) 8 113 [.ref 14, .int a, .int b, .int c, .int d, .int e] (ni_P0, 1) = some (.inl (some (.int 0)), (ni_P1, 1)) := rfl
theorem ni_kw70 (xs : List Int32) (a b c : Int32) : ni_clO ni_o7 (ni_exO ni_o7 (ni_prog xs) 100) 8 70 [.ref 0, .int a, .int b, .int c, .ref 108] (ni_P0, 0) = some (.inl (some (.int 1)), (ni_P0, 1)) := rfl
theorem ni_km114 (xs : List Int32) (a b c : Int32) : ni_clO ni_o7 (ni_exO ni_o7 (ni_prog xs) 100) 8 114 [.ref 14, .int a, .int b, .int c] (ni_P0, 1) = some (.inl (some (.int 0)), (ni_P1, 1)) := rfl
theorem ni_kw72 (xs : List Int32) (a b c d : Int32) : ni_clO ni_o7 (ni_exO ni_o7 (ni_prog xs) 100) 8 72 [.ref 0, .int a, .int b, .int c, .int d, .ref 108] (ni_P0, 0) = some (.inl (some (.int 1)), (ni_P0, 1)) := rfl
theorem ni_km116 (xs : List Int32) (a b c d : Int32) : ni_clO ni_o7 (ni_exO ni_o7 (ni_prog xs) 100) 8 116 [.ref 14, .int a, .int b, .int c, .int d] (ni_P0, 1) = some (.inl (some (.int 0)), (ni_P1, 1)) := rfl
theorem ni_kw73 (xs : List Int32) (a b c : Int32) : ni_clO ni_o7 (ni_exO ni_o7 (ni_prog xs) 100) 8 73 [.ref 0, .int a, .int b, .int c, .ref 108] (ni_P0, 0) = some (.inl (some (.int 1)), (ni_P0, 1)) := rfl
theorem ni_km118 (xs : List Int32) (a b c : Int32) : ni_clO ni_o7 (ni_exO ni_o7 (ni_prog xs) 100) 8 118 [.ref 14, .int a, .int b, .int c] (ni_P0, 1) = some (.inl (some (.int 0)), (ni_P1, 1)) := rfl
theorem ni_kw74 (xs : List Int32) (a : Int32) : ni_clO ni_o7 (ni_exO ni_o7 (ni_prog xs) 100) 8 74 [.ref 0, .int a, .ref 108] (ni_P0, 0) = some (.inl (some (.int 1)), (ni_P0, 1)) := rfl
theorem ni_km119 (xs : List Int32) (a : Int32) : ni_clO ni_o7 (ni_exO ni_o7 (ni_prog xs) 100) 8 119 [.ref 14, .int a] (ni_P0, 1) = some (.inl (some (.int 0)), (ni_P1, 1)) := rfl
theorem ni_kw75 (xs : List Int32) (a b : Int32) : ni_clO ni_o7 (ni_exO ni_o7 (ni_prog xs) 100) 8 75 [.ref 0, .int a, .int b, .ref 108] (ni_P0, 0) = some (.inl (some (.int 1)), (ni_P0, 1)) := rfl
theorem ni_km120 (xs : List Int32) (a b : Int32) : ni_clO ni_o7 (ni_exO ni_o7 (ni_prog xs) 100) 8 120 [.ref 14, .int a, .int b] (ni_P0, 1) = some (.inl (some (.int 0)), (ni_P1, 1)) := rfl
theorem ni_kw76 (xs : List Int32) (a b : Int32) : ni_clO ni_o7 (ni_exO ni_o7 (ni_prog xs) 100) 8 76 [.ref 0, .int a, .int b, .ref 108] (ni_P0, 0) = some (.inl (some (.int 1)), (ni_P0, 1)) := rfl
theorem ni_km122 (xs : List Int32) (a b : Int32) : ni_clO ni_o7 (ni_exO ni_o7 (ni_prog xs) 100) 8 122 [.ref 14, .int a, .int b] (ni_P0, 1) = some (.inl (some (.int 0)), (ni_P1, 1)) := rfl
theorem ni_kw77 (xs : List Int32) (a : Int32) : ni_clO ni_o7 (ni_exO ni_o7 (ni_prog xs) 100) 8 77 [.ref 0, .int a, .ref 108] (ni_P0, 0) = some (.inl (some (.int 1)), (ni_P0, 1)) := rfl
theorem ni_km123 (xs : List Int32) (a : Int32) : ni_clO ni_o7 (ni_exO ni_o7 (ni_prog xs) 100) 8 123 [.ref 14, .int a] (ni_P0, 1) = some (.inl (some (.int 0)), (ni_P1, 1)) := rfl
theorem ni_kw78 (xs : List Int32) (a : Int32) : ni_clO ni_o7 (ni_exO ni_o7 (ni_prog xs) 100) 8 78 [.ref 0, .int a, .ref 108] (ni_P0, 0) = some (.inl (some (.int 1)), (ni_P0, 1)) := rfl
theorem ni_km124 (xs : List Int32) (a : Int32) : ni_clO ni_o7 (ni_exO ni_o7 (ni_prog xs) 100) 8 124 [.ref 14, .int a] (ni_P0, 1) = some (.inl (some (.int 0)), (ni_P1, 1)) := rfl
theorem ni_kw79 (xs : List Int32) (a b : Int32) : ni_clO ni_o7 (ni_exO ni_o7 (ni_prog xs) 100) 8 79 [.ref 0, .int a, .int b, .ref 108] (ni_P0, 0) = some (.inl (some (.int 1)), (ni_P0, 1)) := rfl
theorem ni_km125 (xs : List Int32) (a b : Int32) : ni_clO ni_o7 (ni_exO ni_o7 (ni_prog xs) 100) 8 125 [.ref 14, .int a, .int b] (ni_P0, 1) = some (.inl (some (.int 0)), (ni_P1, 1)) := rfl
theorem ni_kw80 (xs : List Int32) (a : Int32) : ni_clO ni_o7 (ni_exO ni_o7 (ni_prog xs) 100) 8 80 [.ref 0, .int a, .ref 108] (ni_P0, 0) = some (.inl (some (.int 1)), (ni_P0, 1)) := rfl
theorem ni_km126 (xs : List Int32) (a : Int32) : ni_clO ni_o7 (ni_exO ni_o7 (ni_prog xs) 100) 8 126 [.ref 14, .int a] (ni_P0, 1) = some (.inl (some (.int 0)), (ni_P1, 1)) := rfl
theorem ni_kw81 (xs : List Int32) (a b : Int32) : ni_clO ni_o7 (ni_exO ni_o7 (ni_prog xs) 100) 8 81 [.ref 0, .int a, .int b, .ref 108] (ni_P0, 0) = some (.inl (some (.int 1)), (ni_P0, 1)) := rfl
theorem ni_km127 (xs : List Int32) (a b : Int32) : ni_clO ni_o7 (ni_exO ni_o7 (ni_prog xs) 100) 8 127 [.ref 14, .int a, .int b] (ni_P0, 1) = some (.inl (some (.int 0)), (ni_P1, 1)) := rfl
theorem ni_kw82 (xs : List Int32) (a b : Int32) : ni_clO ni_o7 (ni_exO ni_o7 (ni_prog xs) 100) 8 82 [.ref 0, .int a, .int b, .ref 108] (ni_P0, 0) = some (.inl (some (.int 1)), (ni_P0, 1)) := rfl
theorem ni_km129 (xs : List Int32) (a b : Int32) : ni_clO ni_o7 (ni_exO ni_o7 (ni_prog xs) 100) 8 129 [.ref 14, .int a, .int b] (ni_P0, 1) = some (.inl (some (.int 0)), (ni_P1, 1)) := rfl
theorem ni_kw83 (xs : List Int32) (a : Int32) : ni_clO ni_o7 (ni_exO ni_o7 (ni_prog xs) 100) 8 83 [.ref 0, .int a, .ref 108] (ni_P0, 0) = some (.inl (some (.int 1)), (ni_P0, 1)) := rfl
theorem ni_km137 (xs : List Int32) (a : Int32) : ni_clO ni_o7 (ni_exO ni_o7 (ni_prog xs) 100) 8 137 [.ref 14, .int a] (ni_P0, 1) = some (.inl (some (.int 0)), (ni_P1, 1)) := rfl
theorem ni_kw84 (xs : List Int32) (a : Int32) : ni_clO ni_o7 (ni_exO ni_o7 (ni_prog xs) 100) 8 84 [.ref 0, .int a, .ref 108] (ni_P0, 0) = some (.inl (some (.int 1)), (ni_P0, 1)) := rfl
theorem ni_km138 (xs : List Int32) (a : Int32) : ni_clO ni_o7 (ni_exO ni_o7 (ni_prog xs) 100) 8 138 [.ref 14, .int a] (ni_P0, 1) = some (.inl (some (.int 0)), (ni_P1, 1)) := rfl
theorem ni_kw86 (xs : List Int32) (a b : Int32) : ni_clO ni_o7 (ni_exO ni_o7 (ni_prog xs) 100) 8 86 [.ref 0, .int a, .int b, .ref 108] (ni_P0, 0) = some (.inl (some (.int 1)), (ni_P0, 1)) := rfl
theorem ni_km139 (xs : List Int32) (a b : Int32) : ni_clO ni_o7 (ni_exO ni_o7 (ni_prog xs) 100) 8 139 [.ref 14, .int a, .int b] (ni_P0, 1) = some (.inl (some (.int 0)), (ni_P1, 1)) := rfl
theorem ni_kw87 (xs : List Int32) (a b : Int32) : ni_clO ni_o7 (ni_exO ni_o7 (ni_prog xs) 100) 8 87 [.ref 0, .int a, .int b, .ref 108] (ni_P0, 0) = some (.inl (some (.int 1)), (ni_P0, 1)) := rfl
theorem ni_km142 (xs : List Int32) (a b : Int32) : ni_clO ni_o7 (ni_exO ni_o7 (ni_prog xs) 100) 8 142 [.ref 14, .int a, .int b] (ni_P0, 1) = some (.inl (some (.int 0)), (ni_P1, 1)) := rfl
theorem ni_kw88 (xs : List Int32) (a : Int32) : ni_clO ni_o7 (ni_exO ni_o7 (ni_prog xs) 100) 8 88 [.ref 0, .int a, .ref 109] (ni_P0, 0) = some (.inl (some (.int 1)), (ni_P0, 1)) := rfl
theorem ni_km143 (xs : List Int32) (a : Int32) : ni_clO ni_o7 (ni_exO ni_o7 (ni_prog xs) 100) 8 143 [.ref 14, .int a] (ni_P0, 1) = some (.inl (some (.double 0)), (ni_P1, 1)) := rfl
theorem ni_kw89 (xs : List Int32) (a b : Int32) : ni_clO ni_o7 (ni_exO ni_o7 (ni_prog xs) 100) 8 89 [.ref 0, .int a, .int b, .ref 108] (ni_P0, 0) = some (.inl (some (.int 1)), (ni_P0, 1)) := rfl
theorem ni_km145 (xs : List Int32) (a b : Int32) : ni_clO ni_o7 (ni_exO ni_o7 (ni_prog xs) 100) 8 145 [.ref 14, .int a, .int b] (ni_P0, 1) = some (.inl (some (.int 0)), (ni_P1, 1)) := rfl
theorem ni_kw90 (xs : List Int32) (a : Int32) : ni_clO ni_o7 (ni_exO ni_o7 (ni_prog xs) 100) 8 90 [.ref 0, .int a, .ref 108] (ni_P0, 0) = some (.inl (some (.int 1)), (ni_P0, 1)) := rfl
theorem ni_km146 (xs : List Int32) (a : Int32) : ni_clO ni_o7 (ni_exO ni_o7 (ni_prog xs) 100) 8 146 [.ref 14, .int a] (ni_P0, 1) = some (.inl (some (.int 0)), (ni_P1, 1)) := rfl
theorem ni_kw91 (xs : List Int32) (a : Int32) : ni_clO ni_o7 (ni_exO ni_o7 (ni_prog xs) 100) 8 91 [.ref 0, .int a, .ref 108] (ni_P0, 0) = some (.inl (some (.int 1)), (ni_P0, 1)) := rfl
theorem ni_km147 (xs : List Int32) (a : Int32) : ni_clO ni_o7 (ni_exO ni_o7 (ni_prog xs) 100) 8 147 [.ref 14, .int a] (ni_P0, 1) = some (.inl (some (.int 0)), (ni_P1, 1)) := rfl
theorem ni_kw92 (xs : List Int32) (a : Int32) : ni_clO ni_o7 (ni_exO ni_o7 (ni_prog xs) 100) 8 92 [.ref 0, .int a, .ref 108] (ni_P0, 0) = some (.inl (some (.int 1)), (ni_P0, 1)) := rfl
theorem ni_km148 (xs : List Int32) (a : Int32) : ni_clO ni_o7 (ni_exO ni_o7 (ni_prog xs) 100) 8 148 [.ref 14, .int a] (ni_P0, 1) = some (.inl (some (.int 0)), (ni_P1, 1)) := rfl
theorem ni_kw93 (xs : List Int32) (a b c : Int32) : ni_clO ni_o7 (ni_exO ni_o7 (ni_prog xs) 100) 8 93 [.ref 0, .int a, .int b, .int c, .ref 108] (ni_P0, 0) = some (.inl (some (.int 1)), (ni_P0, 1)) := rfl
theorem ni_km150 (xs : List Int32) (a b c : Int32) : ni_clO ni_o7 (ni_exO ni_o7 (ni_prog xs) 100) 8 150 [.ref 14, .int a, .int b, .int c] (ni_P0, 1) = some (.inl (some (.int 0)), (ni_P1, 1)) := rfl
theorem ni_kw94 (xs : List Int32) (a : Int32) : ni_clO ni_o7 (ni_exO ni_o7 (ni_prog xs) 100) 8 94 [.ref 0, .int a, .ref 108] (ni_P0, 0) = some (.inl (some (.int 1)), (ni_P0, 1)) := rfl
theorem ni_km152 (xs : List Int32) (a : Int32) : ni_clO ni_o7 (ni_exO ni_o7 (ni_prog xs) 100) 8 152 [.ref 14, .int a] (ni_P0, 1) = some (.inl (some (.int 0)), (ni_P1, 1)) := rfl
theorem ni_kw95 (xs : List Int32) (a b c d : Int32) : ni_clO ni_o7 (ni_exO ni_o7 (ni_prog xs) 100) 8 95 [.ref 0, .int a, .int b, .int c, .int d, .ref 108] (ni_P0, 0) = some (.inl (some (.int 1)), (ni_P0, 1)) := rfl
theorem ni_km154 (xs : List Int32) (a b c d : Int32) : ni_clO ni_o7 (ni_exO ni_o7 (ni_prog xs) 100) 8 154 [.ref 14, .int a, .int b, .int c, .int d] (ni_P0, 1) = some (.inl (some (.int 0)), (ni_P1, 1)) := rfl
theorem ni_kw96 (xs : List Int32) (a b : Int32) : ni_clO ni_o7 (ni_exO ni_o7 (ni_prog xs) 100) 8 96 [.ref 0, .int a, .int b, .ref 108] (ni_P0, 0) = some (.inl (some (.int 1)), (ni_P0, 1)) := rfl
theorem ni_km155 (xs : List Int32) (a b : Int32) : ni_clO ni_o7 (ni_exO ni_o7 (ni_prog xs) 100) 8 155 [.ref 14, .int a, .int b] (ni_P0, 1) = some (.inl (some (.int 0)), (ni_P1, 1)) := rfl
theorem ni_kw97 (xs : List Int32) (a b : Int32) : ni_clO ni_o7 (ni_exO ni_o7 (ni_prog xs) 100) 8 97 [.ref 0, .int a, .int b, .ref 108] (ni_P0, 0) = some (.inl (some (.int 1)), (ni_P0, 1)) := rfl
theorem ni_km156 (xs : List Int32) (a b : Int32) : ni_clO ni_o7 (ni_exO ni_o7 (ni_prog xs) 100) 8 156 [.ref 14, .int a, .int b] (ni_P0, 1) = some (.inl (some (.int 0)), (ni_P1, 1)) := rfl
theorem ni_kw98 (xs : List Int32) (a b c d e : Int32) : ni_clO ni_o7 (ni_exO ni_o7 (ni_prog xs) 100) 8 98 [.ref 0, .int a, .int b, .int c, .int d, .int e, .ref 108] (ni_P0, 0) = some (.inl (some (.int 1)), (ni_P0, 1)) := rfl
theorem ni_km157 (xs : List Int32) (a b c d e : Int32) : ni_clO ni_o7 (ni_exO ni_o7 (ni_prog xs) 100) 8 157 [.ref 14, .int a, .int b, .int c, .int d, .int e] (ni_P0, 1) = some (.inl (some (.int 0)), (ni_P1, 1)) := rfl
theorem ni_kw99 (xs : List Int32) (a b : Int32) : ni_clO ni_o7 (ni_exO ni_o7 (ni_prog xs) 100) 8 99 [.ref 0, .int a, .int b, .ref 108] (ni_P0, 0) = some (.inl (some (.int 1)), (ni_P0, 1)) := rfl
theorem ni_km158 (xs : List Int32) (a b : Int32) : ni_clO ni_o7 (ni_exO ni_o7 (ni_prog xs) 100) 8 158 [.ref 14, .int a, .int b] (ni_P0, 1) = some (.inl (some (.int 0)), (ni_P1, 1)) := rfl
theorem ni_kw100 (xs : List Int32) (a b c d : Int32) : ni_clO ni_o7 (ni_exO ni_o7 (ni_prog xs) 100) 8 100 [.ref 0, .int a, .int b, .int c, .int d, .ref 108] (ni_P0, 0) = some (.inl (some (.int 1)), (ni_P0, 1)) := rfl
theorem ni_km159 (xs : List Int32) (a b c d : Int32) : ni_clO ni_o7 (ni_exO ni_o7 (ni_prog xs) 100) 8 159 [.ref 14, .int a, .int b, .int c, .int d] (ni_P0, 1) = some (.inl (some (.int 0)), (ni_P1, 1)) := rfl
theorem ni_kw102 (xs : List Int32) (a b c : Int32) : ni_clO ni_o7 (ni_exO ni_o7 (ni_prog xs) 100) 8 102 [.ref 0, .int a, .int b, .int c, .ref 108] (ni_P0, 0) = some (.inl (some (.int 1)), (ni_P0, 1)) := rfl
theorem ni_km161 (xs : List Int32) (a b c : Int32) : ni_clO ni_o7 (ni_exO ni_o7 (ni_prog xs) 100) 8 161 [.ref 14, .int a, .int b, .int c] (ni_P0, 1) = some (.inl (some (.int 0)), (ni_P1, 1)) := rfl
theorem ni_kw103 (xs : List Int32) (a : Int32) : ni_clO ni_o7 (ni_exO ni_o7 (ni_prog xs) 100) 8 103 [.ref 0, .int a, .ref 108] (ni_P0, 0) = some (.inl (some (.int 1)), (ni_P0, 1)) := rfl
theorem ni_km162 (xs : List Int32) (a : Int32) : ni_clO ni_o7 (ni_exO ni_o7 (ni_prog xs) 100) 8 162 [.ref 14, .int a] (ni_P0, 1) = some (.inl (some (.int 0)), (ni_P1, 1)) := rfl
theorem ni_kw104 (xs : List Int32) (a b : Int32) : ni_clO ni_o7 (ni_exO ni_o7 (ni_prog xs) 100) 8 104 [.ref 0, .int a, .int b, .ref 108] (ni_P0, 0) = some (.inl (some (.int 1)), (ni_P0, 1)) := rfl
theorem ni_km163 (xs : List Int32) (a b : Int32) : ni_clO ni_o7 (ni_exO ni_o7 (ni_prog xs) 100) 8 163 [.ref 14, .int a, .int b] (ni_P0, 1) = some (.inl (some (.int 0)), (ni_P1, 1)) := rfl
theorem ni_kw106 (xs : List Int32) (a : Int32) : ni_clO ni_o7 (ni_exO ni_o7 (ni_prog xs) 100) 8 106 [.ref 0, .int a, .ref 108] (ni_P0, 0) = some (.inl (some (.int 1)), (ni_P0, 1)) := rfl
theorem ni_km169 (xs : List Int32) (a : Int32) : ni_clO ni_o7 (ni_exO ni_o7 (ni_prog xs) 100) 8 169 [.ref 14, .int a] (ni_P0, 1) = some (.inl (some (.int 0)), (ni_P1, 1)) := rfl
theorem ni_kw107 (xs : List Int32) (a : Int32) : ni_clO ni_o7 (ni_exO ni_o7 (ni_prog xs) 100) 8 107 [.ref 0, .int a, .ref 108] (ni_P0, 0) = some (.inl (some (.int 1)), (ni_P0, 1)) := rfl
theorem ni_km170 (xs : List Int32) (a : Int32) : ni_clO ni_o7 (ni_exO ni_o7 (ni_prog xs) 100) 8 170 [.ref 14, .int a] (ni_P0, 1) = some (.inl (some (.int 0)), (ni_P1, 1)) := rfl
theorem ni_kw108 (xs : List Int32) (a : Int32) : ni_clO ni_o7 (ni_exO ni_o7 (ni_prog xs) 100) 8 108 [.ref 0, .int a, .ref 108] (ni_P0, 0) = some (.inl (some (.int 1)), (ni_P0, 1)) := rfl
theorem ni_km171 (xs : List Int32) (a : Int32) : ni_clO ni_o7 (ni_exO ni_o7 (ni_prog xs) 100) 8 171 [.ref 14, .int a] (ni_P0, 1) = some (.inl (some (.int 0)), (ni_P1, 1)) := rfl
theorem ni_kw109 (xs : List Int32) (a b : Int32) : ni_clO ni_o7 (ni_exO ni_o7 (ni_prog xs) 100) 8 109 [.ref 0, .int a, .int b, .ref 108] (ni_P0, 0) = some (.inl (some (.int 1)), (ni_P0, 1)) := rfl
theorem ni_km172 (xs : List Int32) (a b : Int32) : ni_clO ni_o7 (ni_exO ni_o7 (ni_prog xs) 100) 8 172 [.ref 14, .int a, .int b] (ni_P0, 1) = some (.inl (some (.int 0)), (ni_P1, 1)) := rfl
end NTL
