section NLW
set_option maxRecDepth 100000
theorem ni_l3303 (xs : List Int32) : ni_prog xs 85 3303 = ni_sLd 3 1 3304 := rfl
theorem ni_l3304 (xs : List Int32) : ni_prog xs 85 3304 = ni_sV 14 0 10 3307 := rfl
theorem ni_l3307 (xs : List Int32) : ni_prog xs 85 3307 = ni_sLd 3 2 3308 := rfl
theorem ni_l3308 (xs : List Int32) : ni_prog xs 85 3308 = ni_sV 121 0 18 3311 := rfl
theorem ni_l3317 (xs : List Int32) : ni_prog xs 85 3317 = ni_sInc 5 6 3320 := rfl
end NLW
