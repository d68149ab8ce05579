section NIA
def ni_prL (xs : List Int32) : List (List (Nat × ni_S)) := [ni_pr0, ni_pr1, ni_pr2, ni_pr3, ni_pr4, ni_pr5, ni_pr6, ni_pr7, ni_pr8, ni_pr9, ni_pr10, ni_pr11, ni_pr12, ni_pr13, ni_pr14, ni_pr15, ni_pr16, ni_pr17, ni_pr18, ni_pr19, ni_pr20, ni_pr21, ni_pr22, ni_pr23, ni_pr24, ni_pr25, ni_pr26, ni_pr27, ni_pr28, ni_pr29, ni_pr30, ni_pr31, ni_pr32, ni_pr33, ni_pr34, ni_pr35, ni_pr36, ni_pr37, ni_pr38, ni_pr39, ni_pr40, ni_pr41, ni_pr42, ni_pr43, ni_pr44, ni_pr45, ni_pr46, ni_pr47, ni_pr48, ni_pr49, ni_pr50, ni_pr51, ni_pr52, ni_pr53, ni_pr54, ni_pr55, ni_pr56, ni_pr57, ni_pr58, ni_pr59, ni_pr60, ni_pr61, ni_pr62, ni_pr63, ni_pr64, ni_pr65, ni_pr66, ni_pr67, ni_pr68, ni_pr69, ni_pr70, ni_pr71, ni_pr72, ni_pr73, ni_pr74, ni_pr75, ni_pr76, ni_pr77, ni_pr78, ni_pr79, ni_pr80, ni_pr81, ni_pr82, ni_pr83, ni_pr84, ni_pr85, ni_pr86, ni_pr87, ni_pr88, ni_pr89, ni_pr90, ni_pr91, ni_pr92, ni_pr93, ni_pr94, ni_pr95, ni_pr96, ni_pr97, ni_pr98, ni_pr99, ni_pr100, ni_pr101, ni_pr102, ni_pr103, ni_pr104, ni_pr105, ni_pr106, ni_pr107, ni_pr108, ni_pr109, ni_pr110, ni_pr111, ni_pr112, ni_pr113, ni_pr114, ni_pr115, ni_pr116, ni_pr117, ni_pr118, ni_pr119, ni_pr120, ni_pr121, ni_pr122, ni_pr123, ni_pr124, ni_pr125, ni_pr126, ni_pr127, ni_pr128, ni_pr129, ni_pr130, ni_pr131, ni_pr132, ni_pr133, ni_pr134, ni_pr135, ni_pr136, ni_pr137, ni_pr138, ni_pr139, ni_pr140, ni_pr141, ni_pr142, ni_pr143, ni_pr144, ni_pr145, ni_pr146, ni_pr147, ni_pr148, ni_pr149, ni_pr150, ni_pr151, ni_pr152, ni_pr153, ni_pr154 xs, ni_pr155, ni_pr156, ni_pr157, ni_pr158]
theorem ni_all (xs : List Int32) (y : Nat) : ∀ r ∈ (ni_prL xs).getD y [], ni_Ok xs (ni_ms y).1 (ni_ms y).2.1 (ni_ms y).2.2.1 (ni_ms y).2.2.2.1 (ni_ms y).2.2.2.2 r.1 r.2 ∧ ni_MU r.2 := by
  match y with
  | 0 => exact ni_pk0
  | 1 => exact ni_pk1
  | 2 => exact ni_pk2
  | 3 => exact ni_pk3
  | 4 => exact ni_pk4
  | 5 => exact ni_pk5
  | 6 => exact ni_pk6
  | 7 => exact ni_pk7
  | 8 => exact ni_pk8
  | 9 => exact ni_pk9
  | 10 => exact ni_pk10
  | 11 => exact ni_pk11
  | 12 => exact ni_pk12
  | 13 => exact ni_pk13
  | 14 => exact ni_pk14
  | 15 => exact ni_pk15
  | 16 => exact ni_pk16
  | 17 => exact ni_pk17
  | 18 => exact ni_pk18
  | 19 => exact ni_pk19
  | 20 => exact ni_pk20
  | 21 => exact ni_pk21
  | 22 => exact ni_pk22
  | 23 => exact ni_pk23
  | 24 => exact ni_pk24
  | 25 => exact ni_pk25
  | 26 => exact ni_pk26
  | 27 => exact ni_pk27
  | 28 => exact ni_pk28
  | 29 => exact ni_pk29
  | 30 => exact ni_pk30
  | 31 => exact ni_pk31
  | 32 => exact ni_pk32
  | 33 => exact ni_pk33
  | 34 => exact ni_pk34
  | 35 => exact ni_pk35
  | 36 => exact ni_pk36
  | 37 => exact ni_pk37
  | 38 => exact ni_pk38
  | 39 => exact ni_pk39
  | 40 => exact ni_pk40
  | 41 => exact ni_pk41
  | 42 => exact ni_pk42
  | 43 => exact ni_pk43
  | 44 => exact ni_pk44
  | 45 => exact ni_pk45
  | 46 => exact ni_pk46
  | 47 => exact ni_pk47
  | 48 => exact ni_pk48
  | 49 => exact ni_pk49
  | 50 => exact ni_pk50
  | 51 => exact ni_pk51
  | 52 => exact ni_pk52
  | 53 => exact ni_pk53
  | 54 => exact ni_pk54
  | 55 => exact ni_pk55
  | 56 => exact ni_pk56
  | 57 => exact ni_pk57
  | 58 => exact ni_pk58
  | 59 => exact ni_pk59
  | 60 => exact ni_pk60
  | 61 => exact ni_pk61
  | 62 => exact ni_pk62
  | 63 => exact ni_pk63
  | 64 => exact ni_pk64
  | 65 => exact ni_pk65
  | 66 => exact ni_pk66
  | 67 => exact ni_pk67
  | 68 => exact ni_pk68
  | 69 => exact ni_pk69
  | 70 => exact ni_pk70
  | 71 => exact ni_pk71
  | 72 => exact ni_pk72
  | 73 => exact ni_pk73
  | 74 => exact ni_pk74
  | 75 => exact ni_pk75
  | 76 => exact ni_pk76
  | 77 => exact ni_pk77
  | 78 => exact ni_pk78
  | 79 => exact ni_pk79
  | 80 => exact ni_pk80
  | 81 => exact ni_pk81
  | 82 => exact ni_pk82
  | 83 => exact ni_pk83
  | 84 => exact ni_pk84
  | 85 => exact ni_pk85
  | 86 => exact ni_pk86
  | 87 => exact ni_pk87
  | 88 => exact ni_pk88
  | 89 => exact ni_pk89
  | 90 => exact ni_pk90
  | 91 => exact ni_pk91
  | 92 => exact ni_pk92
  | 93 => exact ni_pk93
  | 94 => exact ni_pk94
  | 95 => exact ni_pk95
  | 96 => exact ni_pk96
  | 97 => exact ni_pk97
  | 98 => exact ni_pk98
  | 99 => exact ni_pk99
  | 100 => exact ni_pk100
  | 101 => exact ni_pk101
  | 102 => exact ni_pk102
  | 103 => exact ni_pk103
  | 104 => exact ni_pk104
  | 105 => exact ni_pk105
  | 106 => exact ni_pk106
  | 107 => exact ni_pk107
  | 108 => exact ni_pk108
  | 109 => exact ni_pk109
  | 110 => exact ni_pk110
  | 111 => exact ni_pk111
  | 112 => exact ni_pk112
  | 113 => exact ni_pk113
  | 114 => exact ni_pk114
  | 115 => exact ni_pk115
  | 116 => exact ni_pk116
  | 117 => exact ni_pk117
  | 118 => exact ni_pk118
  | 119 => exact ni_pk119
  | 120 => exact ni_pk120
  | 121 => exact ni_pk121
  | 122 => exact ni_pk122
  | 123 => exact ni_pk123
  | 124 => exact ni_pk124
  | 125 => exact ni_pk125
  | 126 => exact ni_pk126
  | 127 => exact ni_pk127
  | 128 => exact ni_pk128
  | 129 => exact ni_pk129
  | 130 => exact ni_pk130
  | 131 => exact ni_pk131
  | 132 => exact ni_pk132
  | 133 => exact ni_pk133
  | 134 => exact ni_pk134
  | 135 => exact ni_pk135
  | 136 => exact ni_pk136
  | 137 => exact ni_pk137
  | 138 => exact ni_pk138
  | 139 => exact ni_pk139
  | 140 => exact ni_pk140
  | 141 => exact ni_pk141
  | 142 => exact ni_pk142
  | 143 => exact ni_pk143
  | 144 => exact ni_pk144
  | 145 => exact ni_pk145
  | 146 => exact ni_pk146
  | 147 => exact ni_pk147
  | 148 => exact ni_pk148
  | 149 => exact ni_pk149
  | 150 => exact ni_pk150
  | 151 => exact ni_pk151
  | 152 => exact ni_pk152
  | 153 => exact ni_pk153
  | 154 => exact ni_pk154
  | 155 => exact ni_pk155
  | 156 => exact ni_pk156
  | 157 => exact ni_pk157
  | 158 => exact ni_pk158
  | n + 159 =>
    intro r h
    have e : (ni_prL xs).getD (n + 159) [] = [] := by
      rw [List.getD_eq_getElem?_getD, List.getElem?_eq_none (by show 159 ≤ n + 159; omega)]
      rfl
    rw [e] at h
    cases h
theorem ni_plain (y : Nat) (h : y < 159) : plainFor (ni_ms y).1 = true := by
  have h9 : ∀ r ∈ ni_msL, plainFor r.1 = true := by decide +kernel
  have hl : ni_msL.length = 159 := by decide +kernel
  unfold ni_ms
  rw [List.getD_eq_getElem?_getD, List.getElem?_eq_getElem (by omega)]
  exact h9 _ (List.getElem_mem _)
theorem ni_far (xs : List Int32) (y : Nat) (h : 159 ≤ y) : (ni_prL xs).getD y [] = [] := by
  rw [List.getD_eq_getElem?_getD, List.getElem?_eq_none (by show 159 ≤ y; exact h)]
  rfl
end NIA
