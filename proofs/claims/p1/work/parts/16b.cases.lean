/-! THE CASES: over the small heap, whatever the script says -/
section NCS
set_option maxRecDepth 100000
def ni_P2 : List ni_C := (ni_P0.set 1 (5, [.int 0, .int 1, .int 0, .int 0, .ref 3, .ref 4, .ref 5, .ref 6, .ref 7])).set 15 (14, (ni_P0.getD 15 (0, [])).2.set 1 (.int 1))
theorem ni_hd (X : List (Nat × ni_S)) (a b c d e f : Int32) : ni_exO ni_o7 (ni_prQ (ni_pr85_1 [a, b, c, d, e, f] ++ X)) 320 8 85 28 ni_ls0 [] (ni_P0, 0) = ni_exO ni_o7 (ni_prQ (ni_pr85_1 [a, b, c, d, e, f] ++ X)) 308 8 85 (ni_tsf 0 3317 [260, 304, 408, 476, 567, 647, 703, 795, 851, 987, 1095, 1187, 1279, 1359, 1415, 1428, 1441, 1454, 1467, 1480, 1493, 1556, 1624, 1637, 1650, 1718, 1786, 1842, 1898, 1954, 2022, 2090, 2158, 2226, 2282, 2366, 2462, 2546, 2642, 2698, 2754, 2810, 2866, 2922, 2990, 3046, 3123, 3179, 3247, 3303] (a &&& 63)) ni_ls0 [] (ni_P0, 0) := rfl
theorem ni_ca0 (a b c d e f : Int32) : ni_exO ni_o7 (ni_prQ (ni_L0 [a, b, c, d, e, f])) 308 8 85 260 ni_ls0 [] (ni_P0, 0) = some (.inl (some (.int 1)), (ni_P2, 0)) := rfl
theorem ni_ca1 (a b c d e f : Int32) : ni_exO ni_o7 (ni_prQ (ni_L1 [a, b, c, d, e, f])) 308 8 85 304 ni_ls0 [] (ni_P0, 0) = some (.inl (some (.int 1)), (ni_P1, 1)) := rfl
theorem ni_ca2 (a b c d e f : Int32) : ni_exO ni_o7 (ni_prQ (ni_L2 [a, b, c, d, e, f])) 308 8 85 408 ni_ls0 [] (ni_P0, 0) = some (.inl (some (.int 1)), (ni_P1, 1)) := rfl
theorem ni_ca3_0 (a b d e f : Int32) : ni_exO ni_o7 (ni_prQ (ni_L3 [a, b, 0, d, e, f])) 308 8 85 476 ni_ls0 [] (ni_P0, 0) = some (.inl (some (.int 1)), (ni_P1, 1)) := rfl
theorem ni_sg3_1_0 (a b c d e f : Int32) : ni_exO ni_o7 (ni_prQ (ni_L3 [a, b, c, d, e, f])) 308 8 85 476 [.ref ni_big, .ref 0, .ref 14, .ref 108, .ref 109, .int 0, ni_J, ni_J, ni_J] [] (ni_P0, 0) = ni_exO ni_o7 (ni_prQ (ni_L3 [a, b, c, d, e, f])) 296 8 85 (if decide (c = 0) = true then 496 else 492) [.ref ni_big, .ref 0, .ref 14, .ref 108, .ref 109, .int 0, ni_J, ni_J, ni_J] [.int b, .ref 0] (ni_P0, 0) := rfl
theorem ni_sg3_1_1 (a b c d e f : Int32) : ni_exO ni_o7 (ni_prQ (ni_L3 [a, b, c, d, e, f])) 296 8 85 492 [.ref ni_big, .ref 0, .ref 14, .ref 108, .ref 109, .int 0, ni_J, ni_J, ni_J] [.int b, .ref 0] (ni_P0, 0) = ni_exO ni_o7 (ni_prQ (ni_L3 [a, b, c, d, e, f])) 279 8 85 (if decide (c = 0) = true then 523 else 519) [.ref ni_big, .ref 0, .ref 14, .ref 108, .ref 109, .int 0, .int 1, ni_J, ni_J] [.int b, .ref 14] (ni_P0, 1) := rfl
theorem ni_se3_1 (a b c d e f : Int32) : ni_exO ni_o7 (ni_prQ (ni_L3 [a, b, c, d, e, f])) 279 8 85 519 [.ref ni_big, .ref 0, .ref 14, .ref 108, .ref 109, .int 0, .int 1, ni_J, ni_J] [.int b, .ref 14] (ni_P0, 1) = some (.inl (some (.int 1)), (ni_P1, 1)) := rfl
theorem ni_ca3_1 (a b c d e f : Int32) (hc : ¬ c = 0) : ni_exO ni_o7 (ni_prQ (ni_L3 [a, b, c, d, e, f])) 308 8 85 476 [.ref ni_big, .ref 0, .ref 14, .ref 108, .ref 109, .int 0, ni_J, ni_J, ni_J] [] (ni_P0, 0) = some (.inl (some (.int 1)), (ni_P1, 1)) := by
  rw [ni_sg3_1_0, if_neg (by simp [hc])]
  rw [ni_sg3_1_1, if_neg (by simp [hc])]
  exact ni_se3_1 a b c d e f
theorem ni_ca4 (a b c d e f : Int32) : ni_exO ni_o7 (ni_prQ (ni_L4 [a, b, c, d, e, f])) 308 8 85 567 ni_ls0 [] (ni_P0, 0) = some (.inl (some (.int 1)), (ni_P1, 1)) := rfl
theorem ni_ca5 (a b c d e f : Int32) : ni_exO ni_o7 (ni_prQ (ni_L5 [a, b, c, d, e, f])) 308 8 85 647 ni_ls0 [] (ni_P0, 0) = some (.inl (some (.int 1)), (ni_P1, 1)) := rfl
theorem ni_ca6 (a b c d e f : Int32) : ni_exO ni_o7 (ni_prQ (ni_L6 [a, b, c, d, e, f])) 308 8 85 703 ni_ls0 [] (ni_P0, 0) = some (.inl (some (.int 1)), (ni_P1, 1)) := rfl
theorem ni_ca7 (a b c d e f : Int32) : ni_exO ni_o7 (ni_prQ (ni_L7 [a, b, c, d, e, f])) 308 8 85 795 ni_ls0 [] (ni_P0, 0) = some (.inl (some (.int 1)), (ni_P1, 1)) := rfl
theorem ni_ca8_00 (a b d e : Int32) : ni_exO ni_o7 (ni_prQ (ni_L8 [a, b, 0, d, e, 0])) 308 8 85 851 ni_ls0 [] (ni_P0, 0) = some (.inl (some (.int 1)), (ni_P1, 1)) := rfl
theorem ni_sg8_01_0 (a b d e f : Int32) : ni_exO ni_o7 (ni_prQ (ni_L8 [a, b, 0, d, e, f])) 308 8 85 851 [.ref ni_big, .ref 0, .ref 14, .ref 108, .ref 109, .int 0, ni_J, ni_J, ni_J] [] (ni_P0, 0) = ni_exO ni_o7 (ni_prQ (ni_L8 [a, b, 0, d, e, f])) 279 8 85 (if decide (f = 0) = true then 897 else 893) [.ref ni_big, .ref 0, .ref 14, .ref 108, .ref 109, .int 0, ni_J, ni_J, ni_J] [.int e, .int d, .int 0, .int b, .ref 0] (ni_P0, 0) := rfl
theorem ni_sg8_01_1 (a b d e f : Int32) : ni_exO ni_o7 (ni_prQ (ni_L8 [a, b, 0, d, e, f])) 279 8 85 893 [.ref ni_big, .ref 0, .ref 14, .ref 108, .ref 109, .int 0, ni_J, ni_J, ni_J] [.int e, .int d, .int 0, .int b, .ref 0] (ni_P0, 0) = ni_exO ni_o7 (ni_prQ (ni_L8 [a, b, 0, d, e, f])) 245 8 85 (if decide (f = 0) = true then 950 else 946) [.ref ni_big, .ref 0, .ref 14, .ref 108, .ref 109, .int 0, .int 1, ni_J, ni_J] [.int e, .int d, .int 0, .int b, .ref 14] (ni_P0, 1) := rfl
theorem ni_se8_01 (a b d e f : Int32) : ni_exO ni_o7 (ni_prQ (ni_L8 [a, b, 0, d, e, f])) 245 8 85 946 [.ref ni_big, .ref 0, .ref 14, .ref 108, .ref 109, .int 0, .int 1, ni_J, ni_J] [.int e, .int d, .int 0, .int b, .ref 14] (ni_P0, 1) = some (.inl (some (.int 1)), (ni_P1, 1)) := rfl
theorem ni_ca8_01 (a b d e f : Int32) (hf : ¬ f = 0) : ni_exO ni_o7 (ni_prQ (ni_L8 [a, b, 0, d, e, f])) 308 8 85 851 [.ref ni_big, .ref 0, .ref 14, .ref 108, .ref 109, .int 0, ni_J, ni_J, ni_J] [] (ni_P0, 0) = some (.inl (some (.int 1)), (ni_P1, 1)) := by
  rw [ni_sg8_01_0, if_neg (by simp [hf])]
  rw [ni_sg8_01_1, if_neg (by simp [hf])]
  exact ni_se8_01 a b d e f
theorem ni_sg8_10_0 (a b c d e : Int32) : ni_exO ni_o7 (ni_prQ (ni_L8 [a, b, c, d, e, 0])) 308 8 85 851 [.ref ni_big, .ref 0, .ref 14, .ref 108, .ref 109, .int 0, ni_J, ni_J, ni_J] [] (ni_P0, 0) = ni_exO ni_o7 (ni_prQ (ni_L8 [a, b, c, d, e, 0])) 296 8 85 (if decide (c = 0) = true then 871 else 867) [.ref ni_big, .ref 0, .ref 14, .ref 108, .ref 109, .int 0, ni_J, ni_J, ni_J] [.int b, .ref 0] (ni_P0, 0) := rfl
theorem ni_sg8_10_1 (a b c d e : Int32) : ni_exO ni_o7 (ni_prQ (ni_L8 [a, b, c, d, e, 0])) 296 8 85 867 [.ref ni_big, .ref 0, .ref 14, .ref 108, .ref 109, .int 0, ni_J, ni_J, ni_J] [.int b, .ref 0] (ni_P0, 0) = ni_exO ni_o7 (ni_prQ (ni_L8 [a, b, c, d, e, 0])) 262 8 85 (if decide (c = 0) = true then 924 else 920) [.ref ni_big, .ref 0, .ref 14, .ref 108, .ref 109, .int 0, .int 1, ni_J, ni_J] [.int b, .ref 14] (ni_P0, 1) := rfl
theorem ni_se8_10 (a b c d e : Int32) : ni_exO ni_o7 (ni_prQ (ni_L8 [a, b, c, d, e, 0])) 262 8 85 920 [.ref ni_big, .ref 0, .ref 14, .ref 108, .ref 109, .int 0, .int 1, ni_J, ni_J] [.int b, .ref 14] (ni_P0, 1) = some (.inl (some (.int 1)), (ni_P1, 1)) := rfl
theorem ni_ca8_10 (a b c d e : Int32) (hc : ¬ c = 0) : ni_exO ni_o7 (ni_prQ (ni_L8 [a, b, c, d, e, 0])) 308 8 85 851 [.ref ni_big, .ref 0, .ref 14, .ref 108, .ref 109, .int 0, ni_J, ni_J, ni_J] [] (ni_P0, 0) = some (.inl (some (.int 1)), (ni_P1, 1)) := by
  rw [ni_sg8_10_0, if_neg (by simp [hc])]
  rw [ni_sg8_10_1, if_neg (by simp [hc])]
  exact ni_se8_10 a b c d e
theorem ni_sg8_11_0 (a b c d e f : Int32) : ni_exO ni_o7 (ni_prQ (ni_L8 [a, b, c, d, e, f])) 308 8 85 851 [.ref ni_big, .ref 0, .ref 14, .ref 108, .ref 109, .int 0, ni_J, ni_J, ni_J] [] (ni_P0, 0) = ni_exO ni_o7 (ni_prQ (ni_L8 [a, b, c, d, e, f])) 296 8 85 (if decide (c = 0) = true then 871 else 867) [.ref ni_big, .ref 0, .ref 14, .ref 108, .ref 109, .int 0, ni_J, ni_J, ni_J] [.int b, .ref 0] (ni_P0, 0) := rfl
theorem ni_sg8_11_1 (a b c d e f : Int32) : ni_exO ni_o7 (ni_prQ (ni_L8 [a, b, c, d, e, f])) 296 8 85 867 [.ref ni_big, .ref 0, .ref 14, .ref 108, .ref 109, .int 0, ni_J, ni_J, ni_J] [.int b, .ref 0] (ni_P0, 0) = ni_exO ni_o7 (ni_prQ (ni_L8 [a, b, c, d, e, f])) 278 8 85 (if decide (f = 0) = true then 897 else 893) [.ref ni_big, .ref 0, .ref 14, .ref 108, .ref 109, .int 0, ni_J, ni_J, ni_J] [.int e, .int d, .int 1, .int b, .ref 0] (ni_P0, 0) := rfl
theorem ni_sg8_11_2 (a b c d e f : Int32) : ni_exO ni_o7 (ni_prQ (ni_L8 [a, b, c, d, e, f])) 278 8 85 893 [.ref ni_big, .ref 0, .ref 14, .ref 108, .ref 109, .int 0, ni_J, ni_J, ni_J] [.int e, .int d, .int 1, .int b, .ref 0] (ni_P0, 0) = ni_exO ni_o7 (ni_prQ (ni_L8 [a, b, c, d, e, f])) 261 8 85 (if decide (c = 0) = true then 924 else 920) [.ref ni_big, .ref 0, .ref 14, .ref 108, .ref 109, .int 0, .int 1, ni_J, ni_J] [.int b, .ref 14] (ni_P0, 1) := rfl
theorem ni_sg8_11_3 (a b c d e f : Int32) : ni_exO ni_o7 (ni_prQ (ni_L8 [a, b, c, d, e, f])) 261 8 85 920 [.ref ni_big, .ref 0, .ref 14, .ref 108, .ref 109, .int 0, .int 1, ni_J, ni_J] [.int b, .ref 14] (ni_P0, 1) = ni_exO ni_o7 (ni_prQ (ni_L8 [a, b, c, d, e, f])) 243 8 85 (if decide (f = 0) = true then 950 else 946) [.ref ni_big, .ref 0, .ref 14, .ref 108, .ref 109, .int 0, .int 1, ni_J, ni_J] [.int e, .int d, .int 1, .int b, .ref 14] (ni_P0, 1) := rfl
theorem ni_se8_11 (a b c d e f : Int32) : ni_exO ni_o7 (ni_prQ (ni_L8 [a, b, c, d, e, f])) 243 8 85 946 [.ref ni_big, .ref 0, .ref 14, .ref 108, .ref 109, .int 0, .int 1, ni_J, ni_J] [.int e, .int d, .int 1, .int b, .ref 14] (ni_P0, 1) = some (.inl (some (.int 1)), (ni_P1, 1)) := rfl
theorem ni_ca8_11 (a b c d e f : Int32) (hc : ¬ c = 0) (hf : ¬ f = 0) : ni_exO ni_o7 (ni_prQ (ni_L8 [a, b, c, d, e, f])) 308 8 85 851 [.ref ni_big, .ref 0, .ref 14, .ref 108, .ref 109, .int 0, ni_J, ni_J, ni_J] [] (ni_P0, 0) = some (.inl (some (.int 1)), (ni_P1, 1)) := by
  rw [ni_sg8_11_0, if_neg (by simp [hc])]
  rw [ni_sg8_11_1, if_neg (by simp [hf])]
  rw [ni_sg8_11_2, if_neg (by simp [hc])]
  rw [ni_sg8_11_3, if_neg (by simp [hf])]
  exact ni_se8_11 a b c d e f
theorem ni_ca9_0 (a b d e f : Int32) : ni_exO ni_o7 (ni_prQ (ni_L9 [a, b, 0, d, e, f])) 308 8 85 987 ni_ls0 [] (ni_P0, 0) = some (.inl (some (.int 1)), (ni_P1, 1)) := rfl
theorem ni_sg9_1_0 (a b c d e f : Int32) : ni_exO ni_o7 (ni_prQ (ni_L9 [a, b, c, d, e, f])) 308 8 85 987 [.ref ni_big, .ref 0, .ref 14, .ref 108, .ref 109, .int 0, ni_J, ni_J, ni_J] [] (ni_P0, 0) = ni_exO ni_o7 (ni_prQ (ni_L9 [a, b, c, d, e, f])) 296 8 85 (if decide (c = 0) = true then 1007 else 1003) [.ref ni_big, .ref 0, .ref 14, .ref 108, .ref 109, .int 0, ni_J, ni_J, ni_J] [.int b, .ref 0] (ni_P0, 0) := rfl
theorem ni_sg9_1_1 (a b c d e f : Int32) : ni_exO ni_o7 (ni_prQ (ni_L9 [a, b, c, d, e, f])) 296 8 85 1003 [.ref ni_big, .ref 0, .ref 14, .ref 108, .ref 109, .int 0, ni_J, ni_J, ni_J] [.int b, .ref 0] (ni_P0, 0) = ni_exO ni_o7 (ni_prQ (ni_L9 [a, b, c, d, e, f])) 269 8 85 (if decide (c = 0) = true then 1046 else 1042) [.ref ni_big, .ref 0, .ref 14, .ref 108, .ref 109, .int 0, .int 1, ni_J, ni_J] [.int b, .ref 14] (ni_P0, 1) := rfl
theorem ni_se9_1 (a b c d e f : Int32) : ni_exO ni_o7 (ni_prQ (ni_L9 [a, b, c, d, e, f])) 269 8 85 1042 [.ref ni_big, .ref 0, .ref 14, .ref 108, .ref 109, .int 0, .int 1, ni_J, ni_J] [.int b, .ref 14] (ni_P0, 1) = some (.inl (some (.int 1)), (ni_P1, 1)) := rfl
theorem ni_ca9_1 (a b c d e f : Int32) (hc : ¬ c = 0) : ni_exO ni_o7 (ni_prQ (ni_L9 [a, b, c, d, e, f])) 308 8 85 987 [.ref ni_big, .ref 0, .ref 14, .ref 108, .ref 109, .int 0, ni_J, ni_J, ni_J] [] (ni_P0, 0) = some (.inl (some (.int 1)), (ni_P1, 1)) := by
  rw [ni_sg9_1_0, if_neg (by simp [hc])]
  rw [ni_sg9_1_1, if_neg (by simp [hc])]
  exact ni_se9_1 a b c d e f
theorem ni_ca10 (a b c d e f : Int32) : ni_exO ni_o7 (ni_prQ (ni_L10 [a, b, c, d, e, f])) 308 8 85 1095 ni_ls0 [] (ni_P0, 0) = some (.inl (some (.int 1)), (ni_P1, 1)) := rfl
theorem ni_ca11 (a b c d e f : Int32) : ni_exO ni_o7 (ni_prQ (ni_L11 [a, b, c, d, e, f])) 308 8 85 1187 ni_ls0 [] (ni_P0, 0) = some (.inl (some (.int 1)), (ni_P1, 1)) := rfl
theorem ni_ca12 (a b c d e f : Int32) : ni_exO ni_o7 (ni_prQ (ni_L12 [a, b, c, d, e, f])) 308 8 85 1279 ni_ls0 [] (ni_P0, 0) = some (.inl (some (.int 1)), (ni_P1, 1)) := rfl
theorem ni_ca14 (a b c d e f : Int32) : ni_exO ni_o7 (ni_prQ (ni_L14 [a, b, c, d, e, f])) 308 8 85 1415 ni_ls0 [] (ni_P0, 0) = some (.inl (some (.int 1)), (ni_P0, 0)) := rfl
theorem ni_ca15 (a b c d e f : Int32) : ni_exO ni_o7 (ni_prQ (ni_L15 [a, b, c, d, e, f])) 308 8 85 1428 ni_ls0 [] (ni_P0, 0) = some (.inl (some (.int 1)), (ni_P0, 0)) := rfl
theorem ni_ca16 (a b c d e f : Int32) : ni_exO ni_o7 (ni_prQ (ni_L16 [a, b, c, d, e, f])) 308 8 85 1441 ni_ls0 [] (ni_P0, 0) = some (.inl (some (.int 1)), (ni_P0, 0)) := rfl
theorem ni_ca17 (a b c d e f : Int32) : ni_exO ni_o7 (ni_prQ (ni_L17 [a, b, c, d, e, f])) 308 8 85 1454 ni_ls0 [] (ni_P0, 0) = some (.inl (some (.int 1)), (ni_P0, 0)) := rfl
theorem ni_ca18 (a b c d e f : Int32) : ni_exO ni_o7 (ni_prQ (ni_L18 [a, b, c, d, e, f])) 308 8 85 1467 ni_ls0 [] (ni_P0, 0) = some (.inl (some (.int 1)), (ni_P0, 0)) := rfl
theorem ni_ca19 (a b c d e f : Int32) : ni_exO ni_o7 (ni_prQ (ni_L19 [a, b, c, d, e, f])) 308 8 85 1480 ni_ls0 [] (ni_P0, 0) = some (.inl (some (.int 1)), (ni_P0, 0)) := rfl
theorem ni_ca20 (a b c d e f : Int32) : ni_exO ni_o7 (ni_prQ (ni_L20 [a, b, c, d, e, f])) 308 8 85 1493 ni_ls0 [] (ni_P0, 0) = some (.inl (some (.int 1)), (ni_P1, 1)) := rfl
theorem ni_ca21 (a b c d e f : Int32) : ni_exO ni_o7 (ni_prQ (ni_L21 [a, b, c, d, e, f])) 308 8 85 1556 ni_ls0 [] (ni_P0, 0) = some (.inl (some (.int 1)), (ni_P1, 1)) := rfl
theorem ni_ca22 (a b c d e f : Int32) : ni_exO ni_o7 (ni_prQ (ni_L22 [a, b, c, d, e, f])) 308 8 85 1624 ni_ls0 [] (ni_P0, 0) = some (.inl (some (.int 1)), (ni_P0, 0)) := rfl
theorem ni_ca23 (a b c d e f : Int32) : ni_exO ni_o7 (ni_prQ (ni_L23 [a, b, c, d, e, f])) 308 8 85 1637 ni_ls0 [] (ni_P0, 0) = some (.inl (some (.int 1)), (ni_P0, 0)) := rfl
theorem ni_ca24 (a b c d e f : Int32) : ni_exO ni_o7 (ni_prQ (ni_L24 [a, b, c, d, e, f])) 308 8 85 1650 ni_ls0 [] (ni_P0, 0) = some (.inl (some (.int 1)), (ni_P1, 1)) := rfl
theorem ni_ca25 (a b c d e f : Int32) : ni_exO ni_o7 (ni_prQ (ni_L25 [a, b, c, d, e, f])) 308 8 85 1718 ni_ls0 [] (ni_P0, 0) = some (.inl (some (.int 1)), (ni_P1, 1)) := rfl
theorem ni_ca26 (a b c d e f : Int32) : ni_exO ni_o7 (ni_prQ (ni_L26 [a, b, c, d, e, f])) 308 8 85 1786 ni_ls0 [] (ni_P0, 0) = some (.inl (some (.int 1)), (ni_P1, 1)) := rfl
theorem ni_ca27 (a b c d e f : Int32) : ni_exO ni_o7 (ni_prQ (ni_L27 [a, b, c, d, e, f])) 308 8 85 1842 ni_ls0 [] (ni_P0, 0) = some (.inl (some (.int 1)), (ni_P1, 1)) := rfl
theorem ni_ca28 (a b c d e f : Int32) : ni_exO ni_o7 (ni_prQ (ni_L28 [a, b, c, d, e, f])) 308 8 85 1898 ni_ls0 [] (ni_P0, 0) = some (.inl (some (.int 1)), (ni_P1, 1)) := rfl
theorem ni_ca29 (a b c d e f : Int32) : ni_exO ni_o7 (ni_prQ (ni_L29 [a, b, c, d, e, f])) 308 8 85 1954 ni_ls0 [] (ni_P0, 0) = some (.inl (some (.int 1)), (ni_P1, 1)) := rfl
theorem ni_ca30 (a b c d e f : Int32) : ni_exO ni_o7 (ni_prQ (ni_L30 [a, b, c, d, e, f])) 308 8 85 2022 ni_ls0 [] (ni_P0, 0) = some (.inl (some (.int 1)), (ni_P1, 1)) := rfl
theorem ni_ca31 (a b c d e f : Int32) : ni_exO ni_o7 (ni_prQ (ni_L31 [a, b, c, d, e, f])) 308 8 85 2090 ni_ls0 [] (ni_P0, 0) = some (.inl (some (.int 1)), (ni_P1, 1)) := rfl
theorem ni_ca32 (a b c d e f : Int32) : ni_exO ni_o7 (ni_prQ (ni_L32 [a, b, c, d, e, f])) 308 8 85 2158 ni_ls0 [] (ni_P0, 0) = some (.inl (some (.int 1)), (ni_P1, 1)) := rfl
theorem ni_ca33 (a b c d e f : Int32) : ni_exO ni_o7 (ni_prQ (ni_L33 [a, b, c, d, e, f])) 308 8 85 2226 ni_ls0 [] (ni_P0, 0) = some (.inl (some (.int 1)), (ni_P1, 1)) := rfl
theorem ni_ca34_0 (a b d e f : Int32) : ni_exO ni_o7 (ni_prQ (ni_L34 [a, b, 0, d, e, f])) 308 8 85 2282 ni_ls0 [] (ni_P0, 0) = some (.inl (some (.int 1)), (ni_P1, 1)) := rfl
theorem ni_sg34_1_0 (a b c d e f : Int32) : ni_exO ni_o7 (ni_prQ (ni_L34 [a, b, c, d, e, f])) 308 8 85 2282 [.ref ni_big, .ref 0, .ref 14, .ref 108, .ref 109, .int 0, ni_J, ni_J, ni_J] [] (ni_P0, 0) = ni_exO ni_o7 (ni_prQ (ni_L34 [a, b, c, d, e, f])) 296 8 85 (if decide (c = 0) = true then 2302 else 2298) [.ref ni_big, .ref 0, .ref 14, .ref 108, .ref 109, .int 0, ni_J, ni_J, ni_J] [.int b, .ref 0] (ni_P0, 0) := rfl
theorem ni_sg34_1_1 (a b c d e f : Int32) : ni_exO ni_o7 (ni_prQ (ni_L34 [a, b, c, d, e, f])) 296 8 85 2298 [.ref ni_big, .ref 0, .ref 14, .ref 108, .ref 109, .int 0, ni_J, ni_J, ni_J] [.int b, .ref 0] (ni_P0, 0) = ni_exO ni_o7 (ni_prQ (ni_L34 [a, b, c, d, e, f])) 279 8 85 (if decide (c = 0) = true then 2329 else 2325) [.ref ni_big, .ref 0, .ref 14, .ref 108, .ref 109, .int 0, .int 1, ni_J, ni_J] [.int b, .ref 14] (ni_P0, 1) := rfl
theorem ni_se34_1 (a b c d e f : Int32) : ni_exO ni_o7 (ni_prQ (ni_L34 [a, b, c, d, e, f])) 279 8 85 2325 [.ref ni_big, .ref 0, .ref 14, .ref 108, .ref 109, .int 0, .int 1, ni_J, ni_J] [.int b, .ref 14] (ni_P0, 1) = some (.inl (some (.int 1)), (ni_P1, 1)) := rfl
theorem ni_ca34_1 (a b c d e f : Int32) (hc : ¬ c = 0) : ni_exO ni_o7 (ni_prQ (ni_L34 [a, b, c, d, e, f])) 308 8 85 2282 [.ref ni_big, .ref 0, .ref 14, .ref 108, .ref 109, .int 0, ni_J, ni_J, ni_J] [] (ni_P0, 0) = some (.inl (some (.int 1)), (ni_P1, 1)) := by
  rw [ni_sg34_1_0, if_neg (by simp [hc])]
  rw [ni_sg34_1_1, if_neg (by simp [hc])]
  exact ni_se34_1 a b c d e f
theorem ni_ca35_0 (a b d e f : Int32) : ni_exO ni_o7 (ni_prQ (ni_L35 [a, b, 0, d, e, f])) 308 8 85 2366 ni_ls0 [] (ni_P0, 0) = some (.inl (some (.int 1)), (ni_P1, 1)) := rfl
theorem ni_sg35_1_0 (a b c d e f : Int32) : ni_exO ni_o7 (ni_prQ (ni_L35 [a, b, c, d, e, f])) 308 8 85 2366 [.ref ni_big, .ref 0, .ref 14, .ref 108, .ref 109, .int 0, ni_J, ni_J, ni_J] [] (ni_P0, 0) = ni_exO ni_o7 (ni_prQ (ni_L35 [a, b, c, d, e, f])) 296 8 85 (if decide (c = 0) = true then 2386 else 2382) [.ref ni_big, .ref 0, .ref 14, .ref 108, .ref 109, .int 0, ni_J, ni_J, ni_J] [.int b, .ref 0] (ni_P0, 0) := rfl
theorem ni_sg35_1_1 (a b c d e f : Int32) : ni_exO ni_o7 (ni_prQ (ni_L35 [a, b, c, d, e, f])) 296 8 85 2382 [.ref ni_big, .ref 0, .ref 14, .ref 108, .ref 109, .int 0, ni_J, ni_J, ni_J] [.int b, .ref 0] (ni_P0, 0) = ni_exO ni_o7 (ni_prQ (ni_L35 [a, b, c, d, e, f])) 274 8 85 (if decide (c = 0) = true then 2419 else 2415) [.ref ni_big, .ref 0, .ref 14, .ref 108, .ref 109, .int 0, .int 1, ni_J, ni_J] [.int b, .ref 14] (ni_P0, 1) := rfl
theorem ni_se35_1 (a b c d e f : Int32) : ni_exO ni_o7 (ni_prQ (ni_L35 [a, b, c, d, e, f])) 274 8 85 2415 [.ref ni_big, .ref 0, .ref 14, .ref 108, .ref 109, .int 0, .int 1, ni_J, ni_J] [.int b, .ref 14] (ni_P0, 1) = some (.inl (some (.int 1)), (ni_P1, 1)) := rfl
theorem ni_ca35_1 (a b c d e f : Int32) (hc : ¬ c = 0) : ni_exO ni_o7 (ni_prQ (ni_L35 [a, b, c, d, e, f])) 308 8 85 2366 [.ref ni_big, .ref 0, .ref 14, .ref 108, .ref 109, .int 0, ni_J, ni_J, ni_J] [] (ni_P0, 0) = some (.inl (some (.int 1)), (ni_P1, 1)) := by
  rw [ni_sg35_1_0, if_neg (by simp [hc])]
  rw [ni_sg35_1_1, if_neg (by simp [hc])]
  exact ni_se35_1 a b c d e f
theorem ni_ca36_0 (a b d e f : Int32) : ni_exO ni_o7 (ni_prQ (ni_L36 [a, b, 0, d, e, f])) 308 8 85 2462 ni_ls0 [] (ni_P0, 0) = some (.inl (some (.int 1)), (ni_P1, 1)) := rfl
theorem ni_sg36_1_0 (a b c d e f : Int32) : ni_exO ni_o7 (ni_prQ (ni_L36 [a, b, c, d, e, f])) 308 8 85 2462 [.ref ni_big, .ref 0, .ref 14, .ref 108, .ref 109, .int 0, ni_J, ni_J, ni_J] [] (ni_P0, 0) = ni_exO ni_o7 (ni_prQ (ni_L36 [a, b, c, d, e, f])) 296 8 85 (if decide (c = 0) = true then 2482 else 2478) [.ref ni_big, .ref 0, .ref 14, .ref 108, .ref 109, .int 0, ni_J, ni_J, ni_J] [.int b, .ref 0] (ni_P0, 0) := rfl
theorem ni_sg36_1_1 (a b c d e f : Int32) : ni_exO ni_o7 (ni_prQ (ni_L36 [a, b, c, d, e, f])) 296 8 85 2478 [.ref ni_big, .ref 0, .ref 14, .ref 108, .ref 109, .int 0, ni_J, ni_J, ni_J] [.int b, .ref 0] (ni_P0, 0) = ni_exO ni_o7 (ni_prQ (ni_L36 [a, b, c, d, e, f])) 279 8 85 (if decide (c = 0) = true then 2509 else 2505) [.ref ni_big, .ref 0, .ref 14, .ref 108, .ref 109, .int 0, .int 1, ni_J, ni_J] [.int b, .ref 14] (ni_P0, 1) := rfl
theorem ni_se36_1 (a b c d e f : Int32) : ni_exO ni_o7 (ni_prQ (ni_L36 [a, b, c, d, e, f])) 279 8 85 2505 [.ref ni_big, .ref 0, .ref 14, .ref 108, .ref 109, .int 0, .int 1, ni_J, ni_J] [.int b, .ref 14] (ni_P0, 1) = some (.inl (some (.int 1)), (ni_P1, 1)) := rfl
theorem ni_ca36_1 (a b c d e f : Int32) (hc : ¬ c = 0) : ni_exO ni_o7 (ni_prQ (ni_L36 [a, b, c, d, e, f])) 308 8 85 2462 [.ref ni_big, .ref 0, .ref 14, .ref 108, .ref 109, .int 0, ni_J, ni_J, ni_J] [] (ni_P0, 0) = some (.inl (some (.int 1)), (ni_P1, 1)) := by
  rw [ni_sg36_1_0, if_neg (by simp [hc])]
  rw [ni_sg36_1_1, if_neg (by simp [hc])]
  exact ni_se36_1 a b c d e f
theorem ni_ca37_0 (a b d e f : Int32) : ni_exO ni_o7 (ni_prQ (ni_L37 [a, b, 0, d, e, f])) 308 8 85 2546 ni_ls0 [] (ni_P0, 0) = some (.inl (some (.int 1)), (ni_P1, 1)) := rfl
theorem ni_sg37_1_0 (a b c d e f : Int32) : ni_exO ni_o7 (ni_prQ (ni_L37 [a, b, c, d, e, f])) 308 8 85 2546 [.ref ni_big, .ref 0, .ref 14, .ref 108, .ref 109, .int 0, ni_J, ni_J, ni_J] [] (ni_P0, 0) = ni_exO ni_o7 (ni_prQ (ni_L37 [a, b, c, d, e, f])) 296 8 85 (if decide (c = 0) = true then 2566 else 2562) [.ref ni_big, .ref 0, .ref 14, .ref 108, .ref 109, .int 0, ni_J, ni_J, ni_J] [.int b, .ref 0] (ni_P0, 0) := rfl
theorem ni_sg37_1_1 (a b c d e f : Int32) : ni_exO ni_o7 (ni_prQ (ni_L37 [a, b, c, d, e, f])) 296 8 85 2562 [.ref ni_big, .ref 0, .ref 14, .ref 108, .ref 109, .int 0, ni_J, ni_J, ni_J] [.int b, .ref 0] (ni_P0, 0) = ni_exO ni_o7 (ni_prQ (ni_L37 [a, b, c, d, e, f])) 274 8 85 (if decide (c = 0) = true then 2599 else 2595) [.ref ni_big, .ref 0, .ref 14, .ref 108, .ref 109, .int 0, .int 1, ni_J, ni_J] [.int b, .ref 14] (ni_P0, 1) := rfl
theorem ni_se37_1 (a b c d e f : Int32) : ni_exO ni_o7 (ni_prQ (ni_L37 [a, b, c, d, e, f])) 274 8 85 2595 [.ref ni_big, .ref 0, .ref 14, .ref 108, .ref 109, .int 0, .int 1, ni_J, ni_J] [.int b, .ref 14] (ni_P0, 1) = some (.inl (some (.int 1)), (ni_P1, 1)) := rfl
theorem ni_ca37_1 (a b c d e f : Int32) (hc : ¬ c = 0) : ni_exO ni_o7 (ni_prQ (ni_L37 [a, b, c, d, e, f])) 308 8 85 2546 [.ref ni_big, .ref 0, .ref 14, .ref 108, .ref 109, .int 0, ni_J, ni_J, ni_J] [] (ni_P0, 0) = some (.inl (some (.int 1)), (ni_P1, 1)) := by
  rw [ni_sg37_1_0, if_neg (by simp [hc])]
  rw [ni_sg37_1_1, if_neg (by simp [hc])]
  exact ni_se37_1 a b c d e f
theorem ni_ca38 (a b c d e f : Int32) : ni_exO ni_o7 (ni_prQ (ni_L38 [a, b, c, d, e, f])) 308 8 85 2642 ni_ls0 [] (ni_P0, 0) = some (.inl (some (.int 1)), (ni_P1, 1)) := rfl
theorem ni_ca39 (a b c d e f : Int32) : ni_exO ni_o7 (ni_prQ (ni_L39 [a, b, c, d, e, f])) 308 8 85 2698 ni_ls0 [] (ni_P0, 0) = some (.inl (some (.int 1)), (ni_P1, 1)) := rfl
theorem ni_ca40 (a b c d e f : Int32) : ni_exO ni_o7 (ni_prQ (ni_L40 [a, b, c, d, e, f])) 308 8 85 2754 ni_ls0 [] (ni_P0, 0) = some (.inl (some (.int 1)), (ni_P1, 1)) := rfl
theorem ni_ca41 (a b c d e f : Int32) : ni_exO ni_o7 (ni_prQ (ni_L41 [a, b, c, d, e, f])) 308 8 85 2810 ni_ls0 [] (ni_P0, 0) = some (.inl (some (.int 1)), (ni_P1, 1)) := rfl
theorem ni_ca42 (a b c d e f : Int32) : ni_exO ni_o7 (ni_prQ (ni_L42 [a, b, c, d, e, f])) 308 8 85 2866 ni_ls0 [] (ni_P0, 0) = some (.inl (some (.int 1)), (ni_P1, 1)) := rfl
theorem ni_ca43 (a b c d e f : Int32) : ni_exO ni_o7 (ni_prQ (ni_L43 [a, b, c, d, e, f])) 308 8 85 2922 ni_ls0 [] (ni_P0, 0) = some (.inl (some (.int 1)), (ni_P1, 1)) := rfl
theorem ni_ca44 (a b c d e f : Int32) : ni_exO ni_o7 (ni_prQ (ni_L44 [a, b, c, d, e, f])) 308 8 85 2990 ni_ls0 [] (ni_P0, 0) = some (.inl (some (.int 1)), (ni_P1, 1)) := rfl
theorem ni_ca45 (a b c d e f : Int32) : ni_exO ni_o7 (ni_prQ (ni_L45 [a, b, c, d, e, f])) 308 8 85 3046 ni_ls0 [] (ni_P0, 0) = some (.inl (some (.int 1)), (ni_P1, 1)) := rfl
theorem ni_ca46 (a b c d e f : Int32) : ni_exO ni_o7 (ni_prQ (ni_L46 [a, b, c, d, e, f])) 308 8 85 3123 ni_ls0 [] (ni_P0, 0) = some (.inl (some (.int 1)), (ni_P1, 1)) := rfl
theorem ni_ca47 (a b c d e f : Int32) : ni_exO ni_o7 (ni_prQ (ni_L47 [a, b, c, d, e, f])) 308 8 85 3179 ni_ls0 [] (ni_P0, 0) = some (.inl (some (.int 1)), (ni_P1, 1)) := rfl
theorem ni_ca49 (a b c d e f : Int32) : ni_exO ni_o7 (ni_prQ (ni_L49 [a, b, c, d, e, f])) 308 8 85 3303 ni_ls0 [] (ni_P0, 0) = some (.inl (some (.int 1)), (ni_P0, 0)) := rfl
end NCS
