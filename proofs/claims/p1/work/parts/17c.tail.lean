/-! EVERY SCRIPT: the loop over the small heap -/
section NTA
set_option maxRecDepth 100000
def ni_End (xs : List Int32) (pc : Nat) : Prop := ∃ M : ni_H, ni_G xs 9 85 pc ni_ls0 [] (ni_P0, 0) (.inl (some (.int 1)), M) ∧ M.1.length + M.2 ≤ 1001 ∧ (M.1.map (fun c => c.2.length)).sum ≤ 20000
theorem ni_en0 {xs : List Int32} {pc : Nat} (h : ni_G xs 9 85 pc ni_ls0 [] (ni_P0, 0) (.inl (some (.int 1)), (ni_P0, 0))) : ni_End xs pc := ⟨_, h, by decide +kernel, by decide +kernel⟩
theorem ni_en1 {xs : List Int32} {pc : Nat} (h : ni_G xs 9 85 pc ni_ls0 [] (ni_P0, 0) (.inl (some (.int 1)), (ni_P1, 1))) : ni_End xs pc := ⟨_, h, by decide +kernel, by decide +kernel⟩
theorem ni_en2 {xs : List Int32} {pc : Nat} (h : ni_G xs 9 85 pc ni_ls0 [] (ni_P0, 0) (.inl (some (.int 1)), (ni_P2, 0))) : ni_End xs pc := ⟨_, h, by decide +kernel, by decide +kernel⟩
theorem ni_enU {xs : List Int32} {pc : Nat} {τ σ : Int32} (h : ni_G xs 9 85 pc ni_ls0 [] (ni_P0, 0) (.inl (some (.int 1)), (ni_PU τ σ, 0))) : ni_End xs pc := by
  have e : (ni_PU τ σ).map (fun c => c.2.length) = (ni_PU 0 0).map (fun c => c.2.length) := rfl
  refine ⟨_, h, ?_, ?_⟩
  · show (ni_PU τ σ).length + 0 ≤ 1001
    have e2 : (ni_PU τ σ).length = (ni_PU 0 0).length := by rw [← List.length_map (f := fun c : ni_C => c.2.length), e, List.length_map]
    rw [e2]
    decide +kernel
  · show ((ni_PU τ σ).map (fun c => c.2.length)).sum ≤ 20000
    rw [e]
    decide +kernel
theorem ni_k63 (a : Int32) : ∃ k : Nat, k < 64 ∧ a &&& 63 = Int32.ofNat k := by
  refine ⟨(a &&& 63).toBitVec.toNat, ?_, ?_⟩
  · rw [Int32.toBitVec_and, BitVec.toNat_and]
    exact Nat.and_lt_two_pow _ (n := 6) (by decide)
  · apply Int32.toBitVec.inj
    simp
theorem ni_i1 {b : Int32} (h : ¬ (b < 1 ∨ ¬ b ≤ 60)) : ∃ N : Nat, N ≤ 60 ∧ b = Int32.ofNat N ∧ ¬ Int32.ofNat N < 1 ∧ Int32.ofNat N ≤ 60 := by
  have h1 : ¬ b < 1 := fun z => h (Or.inl z)
  have h2 : b ≤ 60 := Classical.not_not.mp fun z => h (Or.inr z)
  have h3 := Int32.le_iff_toInt_le.mp h2
  have h4 : ¬ b.toInt < 1 := fun z => h1 (Int32.lt_iff_toInt_lt.mpr z)
  have h5 : (60 : Int32).toInt = 60 := by decide
  have h0 : 0 ≤ b := Int32.le_iff_toInt_le.mpr (by show (0 : Int32).toInt ≤ b.toInt; have : (0 : Int32).toInt = 0 := by decide
                                                   omega)
  have e : Int32.ofNat b.toNatClampNeg = b := Int32.ofNat_toNatClampNeg b h0
  refine ⟨b.toNatClampNeg, ?_, e.symm, by rw [e]; exact h1, by rw [e]; exact h2⟩
  show b.toInt.toNat ≤ 60
  omega
theorem ni_all6 (a b c d e f : Int32) : ni_End [a, b, c, d, e, f] 28 := by
  obtain ⟨k, hk, h⟩ := ni_k63 a
  suffices H : ni_End [a, b, c, d, e, f] (ni_tsf 0 3317 [260, 304, 408, 476, 567, 647, 703, 795, 851, 987, 1095, 1187, 1279, 1359, 1415, 1428, 1441, 1454, 1467, 1480, 1493, 1556, 1624, 1637, 1650, 1718, 1786, 1842, 1898, 1954, 2022, 2090, 2158, 2226, 2282, 2366, 2462, 2546, 2642, 2698, 2754, 2810, 2866, 2922, 2990, 3046, 3123, 3179, 3247, 3303] (a &&& 63)) by
    obtain ⟨M, h1, h2⟩ := H
    exact ⟨M, ni_go28 a b c d e f h1, h2⟩
  rw [h]
  clear h
  match k, hk with
  | 0, _ => exact ni_en2 (ni_ca0 a b c d e f)
  | 1, _ => exact ni_en1 (ni_ca1 a b c d e f)
  | 2, _ => exact ni_en1 (ni_ca2 a b c d e f)
  | 3, _ => exact ni_en1 (ni_ca3 a b c d e f)
  | 4, _ => exact ni_en1 (ni_ca4 a b c d e f)
  | 5, _ => exact ni_en1 (ni_ca5 a b c d e f)
  | 6, _ => exact ni_en1 (ni_ca6 a b c d e f)
  | 7, _ => exact ni_en1 (ni_ca7 a b c d e f)
  | 8, _ => exact ni_en1 (ni_ca8 a b c d e f)
  | 9, _ => exact ni_en1 (ni_ca9 a b c d e f)
  | 10, _ => exact ni_en1 (ni_ca10 a b c d e f)
  | 11, _ => exact ni_en1 (ni_ca11 a b c d e f)
  | 12, _ => exact ni_en1 (ni_ca12 a b c d e f)
  | 13, _ =>
    by_cases hb : b < 1 ∨ ¬ b ≤ 60
    · exact ni_en1 (ni_cb13 a b c d e f hb)
    · obtain ⟨N, hN, rfl, h1, h2⟩ := ni_i1 hb
      exact ni_enU (ni_cg13 a c d e f N h1 h2 hN)
  | 14, _ => exact ni_en0 (ni_ca14 a b c d e f)
  | 15, _ => exact ni_en0 (ni_ca15 a b c d e f)
  | 16, _ => exact ni_en0 (ni_ca16 a b c d e f)
  | 17, _ => exact ni_en0 (ni_ca17 a b c d e f)
  | 18, _ => exact ni_en0 (ni_ca18 a b c d e f)
  | 19, _ => exact ni_en0 (ni_ca19 a b c d e f)
  | 20, _ => exact ni_en1 (ni_ca20 a b c d e f)
  | 21, _ => exact ni_en1 (ni_ca21 a b c d e f)
  | 22, _ => exact ni_en0 (ni_ca22 a b c d e f)
  | 23, _ => exact ni_en0 (ni_ca23 a b c d e f)
  | 24, _ => exact ni_en1 (ni_ca24 a b c d e f)
  | 25, _ => exact ni_en1 (ni_ca25 a b c d e f)
  | 26, _ => exact ni_en1 (ni_ca26 a b c d e f)
  | 27, _ => exact ni_en1 (ni_ca27 a b c d e f)
  | 28, _ => exact ni_en1 (ni_ca28 a b c d e f)
  | 29, _ => exact ni_en1 (ni_ca29 a b c d e f)
  | 30, _ => exact ni_en1 (ni_ca30 a b c d e f)
  | 31, _ => exact ni_en1 (ni_ca31 a b c d e f)
  | 32, _ => exact ni_en1 (ni_ca32 a b c d e f)
  | 33, _ => exact ni_en1 (ni_ca33 a b c d e f)
  | 34, _ => exact ni_en1 (ni_ca34 a b c d e f)
  | 35, _ => exact ni_en1 (ni_ca35 a b c d e f)
  | 36, _ => exact ni_en1 (ni_ca36 a b c d e f)
  | 37, _ => exact ni_en1 (ni_ca37 a b c d e f)
  | 38, _ => exact ni_en1 (ni_ca38 a b c d e f)
  | 39, _ => exact ni_en1 (ni_ca39 a b c d e f)
  | 40, _ => exact ni_en1 (ni_ca40 a b c d e f)
  | 41, _ => exact ni_en1 (ni_ca41 a b c d e f)
  | 42, _ => exact ni_en1 (ni_ca42 a b c d e f)
  | 43, _ => exact ni_en1 (ni_ca43 a b c d e f)
  | 44, _ => exact ni_en1 (ni_ca44 a b c d e f)
  | 45, _ => exact ni_en1 (ni_ca45 a b c d e f)
  | 46, _ => exact ni_en1 (ni_ca46 a b c d e f)
  | 47, _ => exact ni_en1 (ni_ca47 a b c d e f)
  | 48, _ =>
    by_cases hb : b < 1 ∨ ¬ b ≤ 60
    · exact ni_en1 (ni_cb48 a b c d e f hb)
    · obtain ⟨L, vs, q1, q2, q3, q4, q5, q6, q7⟩ := ni_cpR [a, b, c, d, e, f]
      exact ⟨_, ni_cg48 a b c d e f q1 q4 q5 q6 q7 (fun z => hb (Or.inl z)) (Classical.not_not.mp fun z => hb (Or.inr z)), by show L.length + 0 ≤ 1001; omega, q3⟩
  | 49, _ => exact ni_en0 (ni_ca49 a b c d e f)
  | 50, _ => exact ni_en0 (ni_gT a b c d e f)
  | 51, _ => exact ni_en0 (ni_gT a b c d e f)
  | 52, _ => exact ni_en0 (ni_gT a b c d e f)
  | 53, _ => exact ni_en0 (ni_gT a b c d e f)
  | 54, _ => exact ni_en0 (ni_gT a b c d e f)
  | 55, _ => exact ni_en0 (ni_gT a b c d e f)
  | 56, _ => exact ni_en0 (ni_gT a b c d e f)
  | 57, _ => exact ni_en0 (ni_gT a b c d e f)
  | 58, _ => exact ni_en0 (ni_gT a b c d e f)
  | 59, _ => exact ni_en0 (ni_gT a b c d e f)
  | 60, _ => exact ni_en0 (ni_gT a b c d e f)
  | 61, _ => exact ni_en0 (ni_gT a b c d e f)
  | 62, _ => exact ni_en0 (ni_gT a b c d e f)
  | 63, _ => exact ni_en0 (ni_gT a b c d e f)
  | n + 64, hk => omega
theorem ni_allX (xs : List Int32) (h : xs.length ≤ 6) : ni_End xs 28 := by
  match xs, h with
  | [], _ => exact ni_en0 (ni_gS0)
  | [a], _ => exact ni_en0 (ni_gS1 a)
  | [a, b], _ => exact ni_en0 (ni_gS2 a b)
  | [a, b, c], _ => exact ni_en0 (ni_gS3 a b c)
  | [a, b, c, d], _ => exact ni_en0 (ni_gS4 a b c d)
  | [a, b, c, d, e], _ => exact ni_en0 (ni_gS5 a b c d e)
  | [a, b, c, d, e, f], _ => exact ni_all6 a b c d e f
  | _ :: _ :: _ :: _ :: _ :: _ :: _ :: _, h => simp at h
end NTA
