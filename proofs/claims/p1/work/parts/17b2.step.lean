/-! step AND settledIn over the small heap, by rules -/
section NSU
variable {xs : List Int32}
def ni_PT (τ : Int32) : List ni_C := ni_P0.set 1 (5, [.int τ, .int 0, .int 0, .int 0, .ref 3, .ref 4, .ref 5, .ref 6, .ref 7])
def ni_PV (τ : Int32) : List ni_C := (ni_PT τ).set 108 (101, [.long τ.toInt64])
def ni_mt : List Value := (ni_P0.getD 15 (0, [])).2.drop 1
def ni_PU (τ σ : Int32) : List ni_C := (ni_PV τ).set 15 (14, .int σ :: ni_mt)
set_option maxRecDepth 100000
theorem ni_fI (x : Int32) : ni_fit .int (.int x) = true := by simp [ni_fit, narrow, fits]
theorem ni_fL (x : Int64) : ni_fit .long (.long x) = true := by simp [ni_fit, narrow, fits]
theorem ni_tk (xs : List Int32) (τ : Int32) : ni_R xs 3 63 [.ref 1] (ni_PT τ, 0) (.inl none, (ni_PT (τ + 1), 0)) := by
  refine ni_enter (Nat.le_of_ble_eq_true rfl) rfl ?_
  refine ni_xP (g := ni_gPush (.int 0) 1) rfl rfl ?_
  refine ni_xSt rfl rfl rfl ?_
  refine ni_xLd rfl rfl rfl ?_
  refine ni_xLd rfl rfl rfl ?_
  refine ni_xGet rfl rfl rfl ?_
  refine ni_xIc true rfl rfl ?_
  refine ni_xP (g := ni_gPush (.int 0) 69) rfl rfl ?_
  refine ni_xSt rfl rfl rfl ?_
  refine ni_xLd rfl rfl rfl ?_
  refine ni_xLd rfl rfl rfl ?_
  refine ni_xGet rfl rfl rfl ?_
  refine ni_xIc true rfl rfl ?_
  refine ni_xP (g := ni_gPush (.int 0) 149) rfl rfl ?_
  refine ni_xSt rfl rfl rfl ?_
  refine ni_xLd rfl rfl rfl ?_
  refine ni_xLd rfl rfl rfl ?_
  refine ni_xGet rfl rfl rfl ?_
  refine ni_xIc true rfl rfl ?_
  refine ni_xP (g := ni_gPush (.int 0) 170) rfl rfl ?_
  refine ni_xSt rfl rfl rfl ?_
  refine ni_xLd rfl rfl rfl ?_
  refine ni_xLd rfl rfl rfl ?_
  refine ni_xGet rfl rfl rfl ?_
  refine ni_xIc true rfl rfl ?_
  refine ni_xP (g := ni_gPush (.int 0) 207) rfl rfl ?_
  refine ni_xSt rfl rfl rfl ?_
  refine ni_xLd rfl rfl rfl ?_
  refine ni_xLd rfl rfl rfl ?_
  refine ni_xGet rfl rfl rfl ?_
  refine ni_xIc true rfl rfl ?_
  refine ni_xLd rfl rfl rfl ?_
  refine ni_xP (g := ni_gDup 294) rfl rfl ?_
  refine ni_xGet rfl rfl rfl ?_
  refine ni_xP (g := ni_gPush (.int 1) 298) rfl rfl ?_
  refine ni_xP (g := ni_gI (fun x y => x + y) 299) rfl rfl ?_
  refine ni_xPut rfl rfl (Nat.le_of_ble_eq_true rfl) (ni_fI _) rfl ?_
  exact ni_xRv rfl rfl
theorem ni_sz0 (xs : List Int32) (τ σ : Int32) : ni_R xs 1 187 [.ref 30] (ni_PU τ σ, 0) (.inl (some (.int 0)), (ni_PU τ σ, 0)) := by
  refine ni_enter (Nat.le_of_ble_eq_true rfl) rfl ?_
  refine ni_xLd rfl rfl rfl ?_
  refine ni_xGet rfl rfl rfl ?_
  exact ni_xR rfl rfl
theorem ni_tm (xs : List Int32) (τ σ : Int32) : ni_R xs 3 176 [.ref 15] (ni_PU τ σ, 0) (.inl none, (ni_PU τ (σ + 1), 0)) := by
  refine ni_enter (Nat.le_of_ble_eq_true rfl) rfl ?_
  refine ni_xP (g := ni_gPush (.int 0) 1) rfl rfl ?_
  refine ni_xSt rfl rfl rfl ?_
  refine ni_xLd rfl rfl rfl ?_
  refine ni_xP (g := ni_gPush (.int 2) 4) rfl rfl ?_
  refine ni_xLd rfl rfl rfl ?_
  refine ni_xGet rfl rfl rfl ?_
  refine ni_xP (g := ni_gI (fun x y => x * y) 9) rfl rfl ?_
  refine ni_xIc true rfl rfl ?_
  refine ni_xP (g := ni_gPush (.int 0) 102) rfl rfl ?_
  refine ni_xSt rfl rfl rfl ?_
  refine ni_xLd rfl rfl rfl ?_
  refine ni_xP (g := ni_gPush (.int 2) 105) rfl rfl ?_
  refine ni_xLd rfl rfl rfl ?_
  refine ni_xGet rfl rfl rfl ?_
  refine ni_xP (g := ni_gI (fun x y => x * y) 110) rfl rfl ?_
  refine ni_xIc true rfl rfl ?_
  refine ni_xP (g := ni_gPush (.int 0) 197) rfl rfl ?_
  refine ni_xSt rfl rfl rfl ?_
  refine ni_xLd rfl rfl rfl ?_
  refine ni_xLd rfl rfl rfl ?_
  refine ni_xGet rfl rfl rfl ?_
  refine ni_xV rfl rfl rfl rfl (Nat.le_of_ble_eq_true rfl) (ni_Rup (ni_sz0 xs _ _) (by decide)) ?_
  refine ni_xIc true rfl rfl ?_
  refine ni_xP (g := ni_gPush (.int 0) 221) rfl rfl ?_
  refine ni_xSt rfl rfl rfl ?_
  refine ni_xLd rfl rfl rfl ?_
  refine ni_xLd rfl rfl rfl ?_
  refine ni_xGet rfl rfl rfl ?_
  refine ni_xIc true rfl rfl ?_
  refine ni_xP (g := ni_gPush (.int 0) 242) rfl rfl ?_
  refine ni_xSt rfl rfl rfl ?_
  refine ni_xLd rfl rfl rfl ?_
  refine ni_xP (g := ni_gPush (.int 2) 245) rfl rfl ?_
  refine ni_xLd rfl rfl rfl ?_
  refine ni_xGet rfl rfl rfl ?_
  refine ni_xP (g := ni_gI (fun x y => x * y) 250) rfl rfl ?_
  refine ni_xIc true rfl rfl ?_
  refine ni_xLd rfl rfl rfl ?_
  refine ni_xP (g := ni_gDup 266) rfl rfl ?_
  refine ni_xGet rfl rfl rfl ?_
  refine ni_xP (g := ni_gPush (.int 1) 270) rfl rfl ?_
  refine ni_xP (g := ni_gI (fun x y => x + y) 271) rfl rfl ?_
  refine ni_xPut rfl rfl (Nat.le_of_ble_eq_true rfl) (ni_fI _) rfl ?_
  exact ni_xRv rfl rfl
theorem ni_c9g {t : Int32} {M : ni_H} (h1 : ¬ t < 1) (h2 : t ≤ 60) : ni_R xs 1 9 [.int t, .int 1, .int 60] M (.inl none, M) := by
  refine ni_enter (Nat.le_of_ble_eq_true rfl) rfl ?_
  refine ni_xLd rfl rfl rfl ?_
  refine ni_xLd rfl rfl rfl ?_
  refine ni_xIc false rfl (decide_eq_false h1) ?_
  refine ni_xLd rfl rfl rfl ?_
  refine ni_xLd rfl rfl rfl ?_
  refine ni_xIc true rfl (decide_eq_true h2) ?_
  exact ni_xRv rfl rfl
theorem ni_c9b {t : Int32} {M : ni_H} (h : t < 1 ∨ ¬ t ≤ 60) : ni_R xs 1 9 [.int t, .int 1, .int 60] M (.inr "java/lang/IllegalArgumentException", (M.1, M.2 + 1)) := by
  by_cases h1 : t < 1
  · skip
    refine ni_enter (Nat.le_of_ble_eq_true rfl) rfl ?_
    refine ni_xLd rfl rfl rfl ?_
    refine ni_xLd rfl rfl rfl ?_
    refine ni_xIc true rfl (decide_eq_true h1) ?_
    exact ni_xTh rfl (Nat.le_of_ble_eq_true rfl)
  · skip
    refine ni_enter (Nat.le_of_ble_eq_true rfl) rfl ?_
    refine ni_xLd rfl rfl rfl ?_
    refine ni_xLd rfl rfl rfl ?_
    refine ni_xIc false rfl (decide_eq_false h1) ?_
    refine ni_xLd rfl rfl rfl ?_
    refine ni_xLd rfl rfl rfl ?_
    refine ni_xIc false rfl (decide_eq_false (h.resolve_left h1)) ?_
    exact ni_xTh rfl (Nat.le_of_ble_eq_true rfl)
theorem ni_c130g {t : Int32} {M : ni_H} (h1 : ¬ t < 1) (h2 : t ≤ 60) : ni_R xs 1 130 [.int t, .int 1, .int 60] M (.inl (some (.int 1)), M) := by
  refine ni_enter (Nat.le_of_ble_eq_true rfl) rfl ?_
  refine ni_xLd rfl rfl rfl ?_
  refine ni_xLd rfl rfl rfl ?_
  refine ni_xIc false rfl (decide_eq_false h1) ?_
  refine ni_xLd rfl rfl rfl ?_
  refine ni_xLd rfl rfl rfl ?_
  refine ni_xIc false rfl (decide_eq_false (Int32.not_lt.mpr h2)) ?_
  refine ni_xP (g := ni_gPush (.int 1) 11) rfl rfl ?_
  refine ni_xP (g := ni_gGo 15) rfl rfl ?_
  exact ni_xR rfl rfl
theorem ni_c130b {t : Int32} {M : ni_H} (h : t < 1 ∨ ¬ t ≤ 60) : ni_R xs 1 130 [.int t, .int 1, .int 60] M (.inl (some (.int 0)), M) := by
  by_cases h1 : t < 1
  · skip
    refine ni_enter (Nat.le_of_ble_eq_true rfl) rfl ?_
    refine ni_xLd rfl rfl rfl ?_
    refine ni_xLd rfl rfl rfl ?_
    refine ni_xIc true rfl (decide_eq_true h1) ?_
    refine ni_xP (g := ni_gPush (.int 0) 15) rfl rfl ?_
    exact ni_xR rfl rfl
  · skip
    refine ni_enter (Nat.le_of_ble_eq_true rfl) rfl ?_
    refine ni_xLd rfl rfl rfl ?_
    refine ni_xLd rfl rfl rfl ?_
    refine ni_xIc false rfl (decide_eq_false h1) ?_
    refine ni_xLd rfl rfl rfl ?_
    refine ni_xLd rfl rfl rfl ?_
    refine ni_xIc true rfl (decide_eq_true (Int32.not_le.mp (h.resolve_left h1))) ?_
    refine ni_xP (g := ni_gPush (.int 0) 15) rfl rfl ?_
    exact ni_xR rfl rfl
theorem ni_w105b {t : Int32} (h : t < 1 ∨ ¬ t ≤ 60) : ni_R xs 6 105 [.ref 0, .int t, .ref 108] (ni_P0, 0) (.inl (some (.int 1)), (ni_P0, 1)) := by
  have h50 : ni_R xs 5 50 [.ref 0, .int t] (ni_P0, 0) (.inr "java/lang/IllegalArgumentException", (ni_P0, 1)) := by
    refine ni_enter (Nat.le_of_ble_eq_true rfl) rfl ?_
    refine ni_xLd rfl rfl rfl ?_
    refine ni_xP (g := ni_gPush (.int 1) 2) rfl rfl ?_
    refine ni_xP (g := ni_gPush (.int 60) 4) rfl rfl ?_
    exact ni_xCt rfl (Nat.le_of_ble_eq_true rfl) rfl rfl (Nat.le_of_ble_eq_true rfl) (ni_Rup (ni_c9b h) (by decide))
  refine ni_enter (Nat.le_of_ble_eq_true rfl) rfl ?_
  refine ni_xLd rfl rfl rfl ?_
  refine ni_xP (g := ni_gPush (.int 0) 2) rfl rfl ?_
  refine ni_xLd rfl rfl rfl ?_
  refine ni_xLd rfl rfl rfl ?_
  refine ni_xVc rfl rfl rfl rfl (Nat.le_of_ble_eq_true rfl) h50 rfl ?_
  refine ni_xP (g := ni_gPush (.int 1) 14) rfl rfl ?_
  exact ni_xR rfl rfl
theorem ni_w101b {t : Int32} (h : t < 1 ∨ ¬ t ≤ 60) : ni_R xs 6 101 [.ref 0, .int t, .ref 108] (ni_P0, 0) (.inl (some (.int 1)), (ni_P0, 1)) := by
  have h50 : ni_R xs 5 45 [.ref 0, .int t] (ni_P0, 0) (.inr "java/lang/IllegalArgumentException", (ni_P0, 1)) := by
    refine ni_enter (Nat.le_of_ble_eq_true rfl) rfl ?_
    refine ni_xLd rfl rfl rfl ?_
    refine ni_xP (g := ni_gPush (.int 1) 2) rfl rfl ?_
    refine ni_xP (g := ni_gPush (.int 60) 4) rfl rfl ?_
    exact ni_xCt rfl (Nat.le_of_ble_eq_true rfl) rfl rfl (Nat.le_of_ble_eq_true rfl) (ni_Rup (ni_c9b h) (by decide))
  refine ni_enter (Nat.le_of_ble_eq_true rfl) rfl ?_
  refine ni_xLd rfl rfl rfl ?_
  refine ni_xP (g := ni_gPush (.int 0) 2) rfl rfl ?_
  refine ni_xLd rfl rfl rfl ?_
  refine ni_xLd rfl rfl rfl ?_
  refine ni_xVc rfl rfl rfl rfl (Nat.le_of_ble_eq_true rfl) h50 rfl ?_
  refine ni_xP (g := ni_gPush (.int 1) 14) rfl rfl ?_
  exact ni_xR rfl rfl
theorem ni_k164 (xs : List Int32) : ni_clO ni_o7 (ni_exO ni_o7 (ni_prog xs) 100) 4 164 [.ref 14, .int 1, .int 1] (ni_P0, 1) = some (.inl (some (.int 1)), (ni_P1, 1)) := rfl
theorem ni_w166b {t : Int32} (h : t < 1 ∨ ¬ t ≤ 60) : ni_R xs 6 166 [.ref 14, .int t] (ni_P0, 1) (.inl (some (.int 0)), (ni_P1, 1)) := by
  refine ni_enter (Nat.le_of_ble_eq_true rfl) rfl ?_
  refine ni_xLd rfl rfl rfl ?_
  refine ni_xLd rfl rfl rfl ?_
  refine ni_xP (g := ni_gPush (.int 1) 3) rfl rfl ?_
  refine ni_xP (g := ni_gPush (.int 60) 5) rfl rfl ?_
  refine ni_xC rfl (Nat.le_of_ble_eq_true rfl) rfl rfl (Nat.le_of_ble_eq_true rfl) (ni_Rup (ni_c130b h) (by decide)) ?_
  refine ni_xIf false rfl rfl ?_
  refine ni_xP (g := ni_gPush (.int 1) 12) rfl rfl ?_
  refine ni_xP (g := ni_gGo 16) rfl rfl ?_
  refine ni_xP (g := ni_gPush (.int 1) 17) rfl rfl ?_
  refine ni_xV rfl rfl rfl rfl (Nat.le_of_ble_eq_true rfl) (ni_ofO (ni_k164 xs)) ?_
  refine ni_xIf false rfl rfl ?_
  refine ni_xP (g := ni_gPush (.int 0) 24) rfl rfl ?_
  exact ni_xR rfl rfl
theorem ni_w160b {t : Int32} (h : t < 1 ∨ ¬ t ≤ 60) : ni_R xs 6 160 [.ref 14, .int t] (ni_P0, 1) (.inl (some (.int 0)), (ni_P1, 1)) := by
  refine ni_enter (Nat.le_of_ble_eq_true rfl) rfl ?_
  refine ni_xLd rfl rfl rfl ?_
  refine ni_xLd rfl rfl rfl ?_
  refine ni_xP (g := ni_gPush (.int 1) 3) rfl rfl ?_
  refine ni_xP (g := ni_gPush (.int 60) 5) rfl rfl ?_
  refine ni_xC rfl (Nat.le_of_ble_eq_true rfl) rfl rfl (Nat.le_of_ble_eq_true rfl) (ni_Rup (ni_c130b h) (by decide)) ?_
  refine ni_xIf false rfl rfl ?_
  refine ni_xP (g := ni_gPush (.int 1) 12) rfl rfl ?_
  refine ni_xP (g := ni_gGo 16) rfl rfl ?_
  refine ni_xP (g := ni_gPush (.int 1) 17) rfl rfl ?_
  refine ni_xV rfl rfl rfl rfl (Nat.le_of_ble_eq_true rfl) (ni_ofO (ni_k164 xs)) ?_
  refine ni_xIf false rfl rfl ?_
  refine ni_xP (g := ni_gPush (.int 0) 24) rfl rfl ?_
  exact ni_xR rfl rfl
theorem ni_i60 (N j : Nat) (hN : N ≤ 60) (hj : j ≤ 60) : (Int32.ofNat N ≤ Int32.ofNat j) ↔ N ≤ j := Int32.ofNat_le_iff_le (by omega) (by omega)
theorem ni_lp50 (N : Nat) (hN : N ≤ 60) : ∀ k j, j + k = N → ni_G xs 4 50 9 [.ref 0, .int (Int32.ofNat N), .int (Int32.ofNat j)] [] (ni_PT (Int32.ofNat j), 0) (.inl (some (.int (Int32.ofNat N))), (ni_PT (Int32.ofNat N), 0)) := by
  intro k
  induction k with
  | zero =>
    intro j hj
    have e : j = N := by omega
    subst e
    refine ni_xLd rfl rfl rfl ?_
    refine ni_xLd rfl rfl rfl ?_
    refine ni_xIc true rfl (decide_eq_true ((ni_i60 j j hN hN).mpr (Nat.le_refl _))) ?_
    refine ni_xLd rfl rfl rfl ?_
    refine ni_xGet rfl rfl rfl ?_
    refine ni_xGet rfl rfl rfl ?_
    exact ni_xR rfl rfl
  | succ k ih =>
    intro j hj
    refine ni_xLd rfl rfl rfl ?_
    refine ni_xLd rfl rfl rfl ?_
    refine ni_xIc false rfl (decide_eq_false fun z => absurd ((ni_i60 N j hN (by omega)).mp z) (by omega)) ?_
    refine ni_xLd rfl rfl rfl ?_
    refine ni_xGet rfl rfl rfl ?_
    refine ni_xV rfl rfl rfl rfl (Nat.le_of_ble_eq_true rfl) (ni_Rup (ni_tk xs (Int32.ofNat j)) (by decide)) ?_
    refine ni_xInc rfl rfl rfl ?_
    refine ni_xP (g := ni_gGo 9) rfl rfl ?_
    have h9 := ih (j + 1) (by omega)
    rw [Int32.ofNat_add] at h9
    exact h9
theorem ni_lp166 (N : Nat) (hN : N ≤ 60) : ∀ k j, j + k = N → ni_G xs 4 166 27 [.ref 14, .int (Int32.ofNat N), .int (Int32.ofNat j)] [] (ni_PU (Int32.ofNat N) (Int32.ofNat j), 0) (.inl (some (.int (Int32.ofNat N))), (ni_PU (Int32.ofNat N) (Int32.ofNat N), 0)) := by
  intro k
  induction k with
  | zero =>
    intro j hj
    have e : j = N := by omega
    subst e
    refine ni_xLd rfl rfl rfl ?_
    refine ni_xLd rfl rfl rfl ?_
    refine ni_xIc true rfl (decide_eq_true ((ni_i60 j j hN hN).mpr (Nat.le_refl _))) ?_
    refine ni_xLd rfl rfl rfl ?_
    refine ni_xGet rfl rfl rfl ?_
    refine ni_xGet rfl rfl rfl ?_
    exact ni_xR rfl rfl
  | succ k ih =>
    intro j hj
    refine ni_xLd rfl rfl rfl ?_
    refine ni_xLd rfl rfl rfl ?_
    refine ni_xIc false rfl (decide_eq_false fun z => absurd ((ni_i60 N j hN (by omega)).mp z) (by omega)) ?_
    refine ni_xLd rfl rfl rfl ?_
    refine ni_xGet rfl rfl rfl ?_
    refine ni_xV rfl rfl rfl rfl (Nat.le_of_ble_eq_true rfl) (ni_Rup (ni_tm xs (Int32.ofNat N) (Int32.ofNat j)) (by decide)) ?_
    refine ni_xInc rfl rfl rfl ?_
    refine ni_xP (g := ni_gGo 27) rfl rfl ?_
    have h9 := ih (j + 1) (by omega)
    rw [Int32.ofNat_add] at h9
    exact h9
theorem ni_w105g (N : Nat) (h1 : ¬ Int32.ofNat N < 1) (h2 : Int32.ofNat N ≤ 60) (hN : N ≤ 60) : ni_R xs 6 105 [.ref 0, .int (Int32.ofNat N), .ref 108] (ni_P0, 0) (.inl (some (.int 0)), (ni_PV (Int32.ofNat N), 0)) := by
  have h50 : ni_R xs 5 50 [.ref 0, .int (Int32.ofNat N)] (ni_P0, 0) (.inl (some (.int (Int32.ofNat N))), (ni_PT (Int32.ofNat N), 0)) := by
    refine ni_enter (Nat.le_of_ble_eq_true rfl) rfl ?_
    refine ni_xLd rfl rfl rfl ?_
    refine ni_xP (g := ni_gPush (.int 1) 2) rfl rfl ?_
    refine ni_xP (g := ni_gPush (.int 60) 4) rfl rfl ?_
    refine ni_xC rfl (Nat.le_of_ble_eq_true rfl) rfl rfl (Nat.le_of_ble_eq_true rfl) (ni_Rup (ni_c9g h1 h2) (by decide)) ?_
    refine ni_xP (g := ni_gPush (.int 0) 8) rfl rfl ?_
    refine ni_xSt rfl rfl rfl ?_
    exact ni_lp50 N hN N 0 (by omega)
  refine ni_enter (Nat.le_of_ble_eq_true rfl) rfl ?_
  refine ni_xLd rfl rfl rfl ?_
  refine ni_xP (g := ni_gPush (.int 0) 2) rfl rfl ?_
  refine ni_xLd rfl rfl rfl ?_
  refine ni_xLd rfl rfl rfl ?_
  refine ni_xVX rfl rfl rfl rfl (Nat.le_of_ble_eq_true rfl) h50 ?_
  refine ni_xP (g := ni_gU (fun x => .long x.toInt64) 8) rfl rfl ?_
  refine ni_xAst rfl rfl ⟨by decide, rfl, by decide, Nat.le_of_ble_eq_true rfl, rfl, ni_fL _⟩ rfl ?_
  refine ni_xP (g := ni_gGo 15) rfl rfl ?_
  refine ni_xP (g := ni_gPush (.int 0) 16) rfl rfl ?_
  exact ni_xR rfl rfl
theorem ni_k151 (xs : List Int32) (τ : Int32) : ni_R xs 2 151 [.ref 14, .int 0, .int 1] (ni_PV τ, 0) (.inl (some (.int 0)), (ni_PV τ, 0)) := by
  refine ni_enter (Nat.le_of_ble_eq_true rfl) rfl ?_
  refine ni_xLd rfl rfl rfl ?_
  refine ni_xIf true rfl rfl ?_
  refine ni_xLd rfl rfl rfl ?_
  refine ni_xGet rfl rfl rfl ?_
  refine ni_xIf true rfl rfl ?_
  refine ni_xP (g := ni_gPush (.int 0) 28) rfl rfl ?_
  exact ni_xR rfl rfl
theorem ni_k164g (xs : List Int32) (τ : Int32) : ni_R xs 3 164 [.ref 14, .int 0, .int 1] (ni_PV τ, 0) (.inl (some (.int 0)), (ni_PV τ, 0)) := by
  refine ni_enter (Nat.le_of_ble_eq_true rfl) rfl ?_
  refine ni_xLd rfl rfl rfl ?_
  refine ni_xP (g := ni_gPush (.int 0) 2) rfl rfl ?_
  refine ni_xPut (M' := (ni_PV τ, 0)) rfl rfl (Nat.le_of_ble_eq_true rfl) rfl rfl ?_
  refine ni_xLd rfl rfl rfl ?_
  refine ni_xLd rfl rfl rfl ?_
  refine ni_xLd rfl rfl rfl ?_
  refine ni_xV rfl rfl rfl rfl (Nat.le_of_ble_eq_true rfl) (ni_k151 xs τ) ?_
  exact ni_xR rfl rfl
theorem ni_w166g (N : Nat) (h1 : ¬ Int32.ofNat N < 1) (h2 : Int32.ofNat N ≤ 60) (hN : N ≤ 60) : ni_R xs 5 166 [.ref 14, .int (Int32.ofNat N)] (ni_PV (Int32.ofNat N), 0) (.inl (some (.int (Int32.ofNat N))), (ni_PU (Int32.ofNat N) (Int32.ofNat N), 0)) := by
  refine ni_enter (Nat.le_of_ble_eq_true rfl) rfl ?_
  refine ni_xLd rfl rfl rfl ?_
  refine ni_xLd rfl rfl rfl ?_
  refine ni_xP (g := ni_gPush (.int 1) 3) rfl rfl ?_
  refine ni_xP (g := ni_gPush (.int 60) 5) rfl rfl ?_
  refine ni_xC rfl (Nat.le_of_ble_eq_true rfl) rfl rfl (Nat.le_of_ble_eq_true rfl) (ni_Rup (ni_c130g h1 h2) (by decide)) ?_
  refine ni_xIf true rfl rfl ?_
  refine ni_xP (g := ni_gPush (.int 0) 16) rfl rfl ?_
  refine ni_xP (g := ni_gPush (.int 1) 17) rfl rfl ?_
  refine ni_xV rfl rfl rfl rfl (Nat.le_of_ble_eq_true rfl) (ni_Rup (ni_k164g xs _) (by decide)) ?_
  refine ni_xIf true rfl rfl ?_
  refine ni_xP (g := ni_gPush (.int 0) 26) rfl rfl ?_
  refine ni_xSt rfl rfl rfl ?_
  exact ni_lp166 N hN N 0 (by omega)
theorem ni_cmp0 (x : Int64) : lg_cmp x x = 0 := by simp [lg_cmp]
theorem ni_cb13 (a b c d e f : Int32) (h : b < 1 ∨ ¬ b ≤ 60) : ni_G [a, b, c, d, e, f] 9 85 1359 ni_ls0 [] (ni_P0, 0) (.inl (some (.int 1)), (ni_P1, 1)) := by
  refine ni_xLd (ni_ro [a, b, c, d, e, f] (1359, ni_sLd 3 1 1360) (ni_me85_15 [a, b, c, d, e, f] _ (List.mem_of_getElem? (i := 0) rfl))) rfl rfl ?_
  refine ni_xLd (ni_ro [a, b, c, d, e, f] (1360, ni_sLd 3 0 1361) (ni_me85_15 [a, b, c, d, e, f] _ (List.mem_of_getElem? (i := 1) rfl))) rfl rfl ?_
  refine ni_xLd (ni_ro [a, b, c, d, e, f] (1361, ni_sLd 0 5 1363) (ni_me85_15 [a, b, c, d, e, f] _ (List.mem_of_getElem? (i := 2) rfl))) rfl rfl ?_
  refine ni_xP (g := ni_gPush (.int 1) 1364) (ni_ro [a, b, c, d, e, f] (1363, ni_sP (ni_gPush (.int 1) 1364)) (ni_me85_15 [a, b, c, d, e, f] _ (List.mem_of_getElem? (i := 3) rfl))) rfl ?_
  refine ni_xP (g := ni_gI (fun x y => x + y) 1365) (ni_ro [a, b, c, d, e, f] (1364, ni_sP (ni_gI (fun x y => x + y) 1365)) (ni_me85_15 [a, b, c, d, e, f] _ (List.mem_of_getElem? (i := 4) rfl))) rfl ?_
  refine ni_xSld (ni_ro [a, b, c, d, e, f] (1365, ni_sSld [a, b, c, d, e, f] 1366) (ni_me85_15 [a, b, c, d, e, f] _ (List.mem_of_getElem? (i := 5) rfl))) ⟨by decide, rfl⟩ ?_
  refine ni_xLd (ni_ro [a, b, c, d, e, f] (1366, ni_sLd 3 3 1367) (ni_me85_15 [a, b, c, d, e, f] _ (List.mem_of_getElem? (i := 6) rfl))) rfl rfl ?_
  refine ni_xC (ni_ro [a, b, c, d, e, f] (1367, ni_sC 105 3 1370) (ni_me85_15 [a, b, c, d, e, f] _ (List.mem_of_getElem? (i := 7) rfl))) (Nat.le_of_ble_eq_true rfl) rfl rfl (Nat.le_of_ble_eq_true rfl) (ni_Rup (ni_w105b h) (by decide)) ?_
  refine ni_xSt (ni_ro [a, b, c, d, e, f] (1370, ni_sSt 0 6 1372) (ni_me85_15 [a, b, c, d, e, f] _ (List.mem_of_getElem? (i := 8) rfl))) rfl rfl ?_
  refine ni_xLd (ni_ro [a, b, c, d, e, f] (1372, ni_sLd 3 2 1373) (ni_me85_15 [a, b, c, d, e, f] _ (List.mem_of_getElem? (i := 9) rfl))) rfl rfl ?_
  refine ni_xLd (ni_ro [a, b, c, d, e, f] (1373, ni_sLd 3 0 1374) (ni_me85_15 [a, b, c, d, e, f] _ (List.mem_of_getElem? (i := 10) rfl))) rfl rfl ?_
  refine ni_xLd (ni_ro [a, b, c, d, e, f] (1374, ni_sLd 0 5 1376) (ni_me85_15 [a, b, c, d, e, f] _ (List.mem_of_getElem? (i := 11) rfl))) rfl rfl ?_
  refine ni_xP (g := ni_gPush (.int 1) 1377) (ni_ro [a, b, c, d, e, f] (1376, ni_sP (ni_gPush (.int 1) 1377)) (ni_me85_15 [a, b, c, d, e, f] _ (List.mem_of_getElem? (i := 12) rfl))) rfl ?_
  refine ni_xP (g := ni_gI (fun x y => x + y) 1378) (ni_ro [a, b, c, d, e, f] (1377, ni_sP (ni_gI (fun x y => x + y) 1378)) (ni_me85_15 [a, b, c, d, e, f] _ (List.mem_of_getElem? (i := 13) rfl))) rfl ?_
  refine ni_xSld (ni_ro [a, b, c, d, e, f] (1378, ni_sSld [a, b, c, d, e, f] 1379) (ni_me85_15 [a, b, c, d, e, f] _ (List.mem_of_getElem? (i := 14) rfl))) ⟨by decide, rfl⟩ ?_
  refine ni_xV (ni_ro [a, b, c, d, e, f] (1379, ni_sV 166 1 18 1382) (ni_me85_15 [a, b, c, d, e, f] _ (List.mem_of_getElem? (i := 15) rfl))) rfl rfl rfl (Nat.le_of_ble_eq_true rfl) (ni_Rup (ni_w166b h) (by decide)) ?_
  refine ni_xSt (ni_ro [a, b, c, d, e, f] (1382, ni_sSt 0 7 1384) (ni_me85_15 [a, b, c, d, e, f] _ (List.mem_of_getElem? (i := 16) rfl))) rfl rfl ?_
  refine ni_xLd (ni_ro [a, b, c, d, e, f] (1384, ni_sLd 3 2 1385) (ni_me85_15 [a, b, c, d, e, f] _ (List.mem_of_getElem? (i := 17) rfl))) rfl rfl ?_
  refine ni_xV (ni_ro [a, b, c, d, e, f] (1385, ni_sV 167 0 18 1388) (ni_me85_15 [a, b, c, d, e, f] _ (List.mem_of_getElem? (i := 18) rfl))) rfl rfl rfl (Nat.le_of_ble_eq_true rfl) (ni_ofO (ni_k167 [a, b, c, d, e, f])) ?_
  refine ni_xLd (ni_ro [a, b, c, d, e, f] (1388, ni_sLd 0 6 1390) (ni_me85_15 [a, b, c, d, e, f] _ (List.mem_of_getElem? (i := 19) rfl))) rfl rfl ?_
  refine ni_xIc true (ni_ro [a, b, c, d, e, f] (1390, ni_sP (ni_gIc (fun x y => decide (x = y)) 1395 1393)) (ni_me85_15 [a, b, c, d, e, f] _ (List.mem_of_getElem? (i := 20) rfl))) rfl ?_
  refine ni_xLd (ni_ro [a, b, c, d, e, f] (1395, ni_sLd 0 6 1397) (ni_me85_15 [a, b, c, d, e, f] _ (List.mem_of_getElem? (i := 21) rfl))) rfl rfl ?_
  refine ni_xIf true (ni_ro [a, b, c, d, e, f] (1397, ni_sP (ni_gIf (fun x => decide (¬ x = 0)) 1412 1400)) (ni_me85_15 [a, b, c, d, e, f] _ (List.mem_of_getElem? (i := 22) rfl))) rfl ?_
  refine ni_xP (g := ni_gGo 3317) (ni_ro [a, b, c, d, e, f] (1412, ni_sP (ni_gGo 3317)) (ni_me85_15 [a, b, c, d, e, f] _ (List.mem_of_getElem? (i := 30) rfl))) rfl ?_
  refine ni_xInc (ni_ro [a, b, c, d, e, f] (3317, ni_sInc 5 (6) 3320) (ni_me85_52 [a, b, c, d, e, f] _ (List.mem_of_getElem? (i := 0) rfl))) rfl rfl ?_
  refine ni_xP (g := ni_gGo 28) (ni_ro [a, b, c, d, e, f] (3320, ni_sP (ni_gGo 28)) (ni_me85_52 [a, b, c, d, e, f] _ (List.mem_of_getElem? (i := 1) rfl))) rfl ?_
  refine ni_xLd (ni_ro [a, b, c, d, e, f] (28, ni_sLd 0 5 30) (ni_me85_1 [a, b, c, d, e, f] _ (List.mem_of_getElem? (i := 0) rfl))) rfl rfl ?_
  refine ni_xLd (ni_ro [a, b, c, d, e, f] (30, ni_sLd 3 0 31) (ni_me85_1 [a, b, c, d, e, f] _ (List.mem_of_getElem? (i := 1) rfl))) rfl rfl ?_
  refine ni_xSln (ni_ro [a, b, c, d, e, f] (31, ni_sSln [a, b, c, d, e, f] 32) (ni_me85_1 [a, b, c, d, e, f] _ (List.mem_of_getElem? (i := 2) rfl))) rfl ?_
  refine ni_xP (g := ni_gPush (.int 6) 34) (ni_ro [a, b, c, d, e, f] (32, ni_sP (ni_gPush (.int 6) 34)) (ni_me85_1 [a, b, c, d, e, f] _ (List.mem_of_getElem? (i := 3) rfl))) rfl ?_
  refine ni_xP (g := ni_gI (fun x y => x - y) 35) (ni_ro [a, b, c, d, e, f] (34, ni_sP (ni_gI (fun x y => x - y) 35)) (ni_me85_1 [a, b, c, d, e, f] _ (List.mem_of_getElem? (i := 4) rfl))) rfl ?_
  refine ni_xIc true (ni_ro [a, b, c, d, e, f] (35, ni_sP (ni_gIc (fun x y => decide (y < x)) 3323 38)) (ni_me85_1 [a, b, c, d, e, f] _ (List.mem_of_getElem? (i := 5) rfl))) (show decide (Int32.ofNat 6 - 6 < 0 + 6) = true from by decide) ?_
  refine ni_xP (g := ni_gPush (.int 1) 3324) (ni_ro [a, b, c, d, e, f] (3323, ni_sP (ni_gPush (.int 1) 3324)) (ni_me85_52 [a, b, c, d, e, f] _ (List.mem_of_getElem? (i := 2) rfl))) rfl ?_
  exact ni_xR (ni_ro [a, b, c, d, e, f] (3324, ni_sR (some .boolean)) (ni_me85_52 [a, b, c, d, e, f] _ (List.mem_of_getElem? (i := 3) rfl))) rfl
theorem ni_cb48 (a b c d e f : Int32) (h : b < 1 ∨ ¬ b ≤ 60) : ni_G [a, b, c, d, e, f] 9 85 3247 ni_ls0 [] (ni_P0, 0) (.inl (some (.int 1)), (ni_P1, 1)) := by
  refine ni_xLd (ni_ro [a, b, c, d, e, f] (3247, ni_sLd 3 1 3248) (ni_me85_50 [a, b, c, d, e, f] _ (List.mem_of_getElem? (i := 0) rfl))) rfl rfl ?_
  refine ni_xLd (ni_ro [a, b, c, d, e, f] (3248, ni_sLd 3 0 3249) (ni_me85_50 [a, b, c, d, e, f] _ (List.mem_of_getElem? (i := 1) rfl))) rfl rfl ?_
  refine ni_xLd (ni_ro [a, b, c, d, e, f] (3249, ni_sLd 0 5 3251) (ni_me85_50 [a, b, c, d, e, f] _ (List.mem_of_getElem? (i := 2) rfl))) rfl rfl ?_
  refine ni_xP (g := ni_gPush (.int 1) 3252) (ni_ro [a, b, c, d, e, f] (3251, ni_sP (ni_gPush (.int 1) 3252)) (ni_me85_50 [a, b, c, d, e, f] _ (List.mem_of_getElem? (i := 3) rfl))) rfl ?_
  refine ni_xP (g := ni_gI (fun x y => x + y) 3253) (ni_ro [a, b, c, d, e, f] (3252, ni_sP (ni_gI (fun x y => x + y) 3253)) (ni_me85_50 [a, b, c, d, e, f] _ (List.mem_of_getElem? (i := 4) rfl))) rfl ?_
  refine ni_xSld (ni_ro [a, b, c, d, e, f] (3253, ni_sSld [a, b, c, d, e, f] 3254) (ni_me85_50 [a, b, c, d, e, f] _ (List.mem_of_getElem? (i := 5) rfl))) ⟨by decide, rfl⟩ ?_
  refine ni_xLd (ni_ro [a, b, c, d, e, f] (3254, ni_sLd 3 3 3255) (ni_me85_50 [a, b, c, d, e, f] _ (List.mem_of_getElem? (i := 6) rfl))) rfl rfl ?_
  refine ni_xC (ni_ro [a, b, c, d, e, f] (3255, ni_sC 101 3 3258) (ni_me85_50 [a, b, c, d, e, f] _ (List.mem_of_getElem? (i := 7) rfl))) (Nat.le_of_ble_eq_true rfl) rfl rfl (Nat.le_of_ble_eq_true rfl) (ni_Rup (ni_w101b h) (by decide)) ?_
  refine ni_xSt (ni_ro [a, b, c, d, e, f] (3258, ni_sSt 0 6 3260) (ni_me85_50 [a, b, c, d, e, f] _ (List.mem_of_getElem? (i := 8) rfl))) rfl rfl ?_
  refine ni_xLd (ni_ro [a, b, c, d, e, f] (3260, ni_sLd 3 2 3261) (ni_me85_50 [a, b, c, d, e, f] _ (List.mem_of_getElem? (i := 9) rfl))) rfl rfl ?_
  refine ni_xLd (ni_ro [a, b, c, d, e, f] (3261, ni_sLd 3 0 3262) (ni_me85_50 [a, b, c, d, e, f] _ (List.mem_of_getElem? (i := 10) rfl))) rfl rfl ?_
  refine ni_xLd (ni_ro [a, b, c, d, e, f] (3262, ni_sLd 0 5 3264) (ni_me85_50 [a, b, c, d, e, f] _ (List.mem_of_getElem? (i := 11) rfl))) rfl rfl ?_
  refine ni_xP (g := ni_gPush (.int 1) 3265) (ni_ro [a, b, c, d, e, f] (3264, ni_sP (ni_gPush (.int 1) 3265)) (ni_me85_50 [a, b, c, d, e, f] _ (List.mem_of_getElem? (i := 12) rfl))) rfl ?_
  refine ni_xP (g := ni_gI (fun x y => x + y) 3266) (ni_ro [a, b, c, d, e, f] (3265, ni_sP (ni_gI (fun x y => x + y) 3266)) (ni_me85_50 [a, b, c, d, e, f] _ (List.mem_of_getElem? (i := 13) rfl))) rfl ?_
  refine ni_xSld (ni_ro [a, b, c, d, e, f] (3266, ni_sSld [a, b, c, d, e, f] 3267) (ni_me85_50 [a, b, c, d, e, f] _ (List.mem_of_getElem? (i := 14) rfl))) ⟨by decide, rfl⟩ ?_
  refine ni_xV (ni_ro [a, b, c, d, e, f] (3267, ni_sV 160 1 18 3270) (ni_me85_50 [a, b, c, d, e, f] _ (List.mem_of_getElem? (i := 15) rfl))) rfl rfl rfl (Nat.le_of_ble_eq_true rfl) (ni_Rup (ni_w160b h) (by decide)) ?_
  refine ni_xSt (ni_ro [a, b, c, d, e, f] (3270, ni_sSt 0 7 3272) (ni_me85_50 [a, b, c, d, e, f] _ (List.mem_of_getElem? (i := 16) rfl))) rfl rfl ?_
  refine ni_xLd (ni_ro [a, b, c, d, e, f] (3272, ni_sLd 3 2 3273) (ni_me85_50 [a, b, c, d, e, f] _ (List.mem_of_getElem? (i := 17) rfl))) rfl rfl ?_
  refine ni_xV (ni_ro [a, b, c, d, e, f] (3273, ni_sV 167 0 18 3276) (ni_me85_50 [a, b, c, d, e, f] _ (List.mem_of_getElem? (i := 18) rfl))) rfl rfl rfl (Nat.le_of_ble_eq_true rfl) (ni_ofO (ni_k167 [a, b, c, d, e, f])) ?_
  refine ni_xLd (ni_ro [a, b, c, d, e, f] (3276, ni_sLd 0 6 3278) (ni_me85_50 [a, b, c, d, e, f] _ (List.mem_of_getElem? (i := 19) rfl))) rfl rfl ?_
  refine ni_xIc true (ni_ro [a, b, c, d, e, f] (3278, ni_sP (ni_gIc (fun x y => decide (x = y)) 3283 3281)) (ni_me85_50 [a, b, c, d, e, f] _ (List.mem_of_getElem? (i := 20) rfl))) rfl ?_
  refine ni_xLd (ni_ro [a, b, c, d, e, f] (3283, ni_sLd 0 6 3285) (ni_me85_50 [a, b, c, d, e, f] _ (List.mem_of_getElem? (i := 21) rfl))) rfl rfl ?_
  refine ni_xIf true (ni_ro [a, b, c, d, e, f] (3285, ni_sP (ni_gIf (fun x => decide (¬ x = 0)) 3300 3288)) (ni_me85_50 [a, b, c, d, e, f] _ (List.mem_of_getElem? (i := 22) rfl))) rfl ?_
  refine ni_xP (g := ni_gGo 3317) (ni_ro [a, b, c, d, e, f] (3300, ni_sP (ni_gGo 3317)) (ni_me85_50 [a, b, c, d, e, f] _ (List.mem_of_getElem? (i := 30) rfl))) rfl ?_
  refine ni_xInc (ni_ro [a, b, c, d, e, f] (3317, ni_sInc 5 (6) 3320) (ni_me85_52 [a, b, c, d, e, f] _ (List.mem_of_getElem? (i := 0) rfl))) rfl rfl ?_
  refine ni_xP (g := ni_gGo 28) (ni_ro [a, b, c, d, e, f] (3320, ni_sP (ni_gGo 28)) (ni_me85_52 [a, b, c, d, e, f] _ (List.mem_of_getElem? (i := 1) rfl))) rfl ?_
  refine ni_xLd (ni_ro [a, b, c, d, e, f] (28, ni_sLd 0 5 30) (ni_me85_1 [a, b, c, d, e, f] _ (List.mem_of_getElem? (i := 0) rfl))) rfl rfl ?_
  refine ni_xLd (ni_ro [a, b, c, d, e, f] (30, ni_sLd 3 0 31) (ni_me85_1 [a, b, c, d, e, f] _ (List.mem_of_getElem? (i := 1) rfl))) rfl rfl ?_
  refine ni_xSln (ni_ro [a, b, c, d, e, f] (31, ni_sSln [a, b, c, d, e, f] 32) (ni_me85_1 [a, b, c, d, e, f] _ (List.mem_of_getElem? (i := 2) rfl))) rfl ?_
  refine ni_xP (g := ni_gPush (.int 6) 34) (ni_ro [a, b, c, d, e, f] (32, ni_sP (ni_gPush (.int 6) 34)) (ni_me85_1 [a, b, c, d, e, f] _ (List.mem_of_getElem? (i := 3) rfl))) rfl ?_
  refine ni_xP (g := ni_gI (fun x y => x - y) 35) (ni_ro [a, b, c, d, e, f] (34, ni_sP (ni_gI (fun x y => x - y) 35)) (ni_me85_1 [a, b, c, d, e, f] _ (List.mem_of_getElem? (i := 4) rfl))) rfl ?_
  refine ni_xIc true (ni_ro [a, b, c, d, e, f] (35, ni_sP (ni_gIc (fun x y => decide (y < x)) 3323 38)) (ni_me85_1 [a, b, c, d, e, f] _ (List.mem_of_getElem? (i := 5) rfl))) (show decide (Int32.ofNat 6 - 6 < 0 + 6) = true from by decide) ?_
  refine ni_xP (g := ni_gPush (.int 1) 3324) (ni_ro [a, b, c, d, e, f] (3323, ni_sP (ni_gPush (.int 1) 3324)) (ni_me85_52 [a, b, c, d, e, f] _ (List.mem_of_getElem? (i := 2) rfl))) rfl ?_
  exact ni_xR (ni_ro [a, b, c, d, e, f] (3324, ni_sR (some .boolean)) (ni_me85_52 [a, b, c, d, e, f] _ (List.mem_of_getElem? (i := 3) rfl))) rfl
theorem ni_k167g (xs : List Int32) (τ : Int32) : ni_R xs 2 167 [.ref 14] (ni_PU τ τ, 0) (.inl (some (.int 0)), (ni_PU τ τ, 0)) := by
  refine ni_enter (Nat.le_of_ble_eq_true rfl) rfl ?_
  refine ni_xLd rfl rfl rfl ?_
  refine ni_xGet rfl rfl rfl ?_
  exact ni_xR rfl rfl
theorem ni_cg13 (a c d e f : Int32) (N : Nat) (h1 : ¬ Int32.ofNat N < 1) (h2 : Int32.ofNat N ≤ 60) (hN : N ≤ 60) : ni_G [a, Int32.ofNat N, c, d, e, f] 9 85 1359 ni_ls0 [] (ni_P0, 0) (.inl (some (.int 1)), (ni_PU (Int32.ofNat N) (Int32.ofNat N), 0)) := by
  refine ni_xLd (ni_ro [a, Int32.ofNat N, c, d, e, f] (1359, ni_sLd 3 1 1360) (ni_me85_15 [a, Int32.ofNat N, c, d, e, f] _ (List.mem_of_getElem? (i := 0) rfl))) rfl rfl ?_
  refine ni_xLd (ni_ro [a, Int32.ofNat N, c, d, e, f] (1360, ni_sLd 3 0 1361) (ni_me85_15 [a, Int32.ofNat N, c, d, e, f] _ (List.mem_of_getElem? (i := 1) rfl))) rfl rfl ?_
  refine ni_xLd (ni_ro [a, Int32.ofNat N, c, d, e, f] (1361, ni_sLd 0 5 1363) (ni_me85_15 [a, Int32.ofNat N, c, d, e, f] _ (List.mem_of_getElem? (i := 2) rfl))) rfl rfl ?_
  refine ni_xP (g := ni_gPush (.int 1) 1364) (ni_ro [a, Int32.ofNat N, c, d, e, f] (1363, ni_sP (ni_gPush (.int 1) 1364)) (ni_me85_15 [a, Int32.ofNat N, c, d, e, f] _ (List.mem_of_getElem? (i := 3) rfl))) rfl ?_
  refine ni_xP (g := ni_gI (fun x y => x + y) 1365) (ni_ro [a, Int32.ofNat N, c, d, e, f] (1364, ni_sP (ni_gI (fun x y => x + y) 1365)) (ni_me85_15 [a, Int32.ofNat N, c, d, e, f] _ (List.mem_of_getElem? (i := 4) rfl))) rfl ?_
  refine ni_xSld (ni_ro [a, Int32.ofNat N, c, d, e, f] (1365, ni_sSld [a, Int32.ofNat N, c, d, e, f] 1366) (ni_me85_15 [a, Int32.ofNat N, c, d, e, f] _ (List.mem_of_getElem? (i := 5) rfl))) ⟨by decide, rfl⟩ ?_
  refine ni_xLd (ni_ro [a, Int32.ofNat N, c, d, e, f] (1366, ni_sLd 3 3 1367) (ni_me85_15 [a, Int32.ofNat N, c, d, e, f] _ (List.mem_of_getElem? (i := 6) rfl))) rfl rfl ?_
  refine ni_xC (ni_ro [a, Int32.ofNat N, c, d, e, f] (1367, ni_sC 105 3 1370) (ni_me85_15 [a, Int32.ofNat N, c, d, e, f] _ (List.mem_of_getElem? (i := 7) rfl))) (Nat.le_of_ble_eq_true rfl) rfl rfl (Nat.le_of_ble_eq_true rfl) (ni_Rup (ni_w105g N h1 h2 hN) (by decide)) ?_
  refine ni_xSt (ni_ro [a, Int32.ofNat N, c, d, e, f] (1370, ni_sSt 0 6 1372) (ni_me85_15 [a, Int32.ofNat N, c, d, e, f] _ (List.mem_of_getElem? (i := 8) rfl))) rfl rfl ?_
  refine ni_xLd (ni_ro [a, Int32.ofNat N, c, d, e, f] (1372, ni_sLd 3 2 1373) (ni_me85_15 [a, Int32.ofNat N, c, d, e, f] _ (List.mem_of_getElem? (i := 9) rfl))) rfl rfl ?_
  refine ni_xLd (ni_ro [a, Int32.ofNat N, c, d, e, f] (1373, ni_sLd 3 0 1374) (ni_me85_15 [a, Int32.ofNat N, c, d, e, f] _ (List.mem_of_getElem? (i := 10) rfl))) rfl rfl ?_
  refine ni_xLd (ni_ro [a, Int32.ofNat N, c, d, e, f] (1374, ni_sLd 0 5 1376) (ni_me85_15 [a, Int32.ofNat N, c, d, e, f] _ (List.mem_of_getElem? (i := 11) rfl))) rfl rfl ?_
  refine ni_xP (g := ni_gPush (.int 1) 1377) (ni_ro [a, Int32.ofNat N, c, d, e, f] (1376, ni_sP (ni_gPush (.int 1) 1377)) (ni_me85_15 [a, Int32.ofNat N, c, d, e, f] _ (List.mem_of_getElem? (i := 12) rfl))) rfl ?_
  refine ni_xP (g := ni_gI (fun x y => x + y) 1378) (ni_ro [a, Int32.ofNat N, c, d, e, f] (1377, ni_sP (ni_gI (fun x y => x + y) 1378)) (ni_me85_15 [a, Int32.ofNat N, c, d, e, f] _ (List.mem_of_getElem? (i := 13) rfl))) rfl ?_
  refine ni_xSld (ni_ro [a, Int32.ofNat N, c, d, e, f] (1378, ni_sSld [a, Int32.ofNat N, c, d, e, f] 1379) (ni_me85_15 [a, Int32.ofNat N, c, d, e, f] _ (List.mem_of_getElem? (i := 14) rfl))) ⟨by decide, rfl⟩ ?_
  refine ni_xV (ni_ro [a, Int32.ofNat N, c, d, e, f] (1379, ni_sV 166 1 18 1382) (ni_me85_15 [a, Int32.ofNat N, c, d, e, f] _ (List.mem_of_getElem? (i := 15) rfl))) rfl rfl rfl (Nat.le_of_ble_eq_true rfl) (ni_Rup (ni_w166g N h1 h2 hN) (by decide)) ?_
  refine ni_xSt (ni_ro [a, Int32.ofNat N, c, d, e, f] (1382, ni_sSt 0 7 1384) (ni_me85_15 [a, Int32.ofNat N, c, d, e, f] _ (List.mem_of_getElem? (i := 16) rfl))) rfl rfl ?_
  refine ni_xLd (ni_ro [a, Int32.ofNat N, c, d, e, f] (1384, ni_sLd 3 2 1385) (ni_me85_15 [a, Int32.ofNat N, c, d, e, f] _ (List.mem_of_getElem? (i := 17) rfl))) rfl rfl ?_
  refine ni_xV (ni_ro [a, Int32.ofNat N, c, d, e, f] (1385, ni_sV 167 0 18 1388) (ni_me85_15 [a, Int32.ofNat N, c, d, e, f] _ (List.mem_of_getElem? (i := 18) rfl))) rfl rfl rfl (Nat.le_of_ble_eq_true rfl) (ni_Rup (ni_k167g [a, Int32.ofNat N, c, d, e, f] _) (by decide)) ?_
  refine ni_xLd (ni_ro [a, Int32.ofNat N, c, d, e, f] (1388, ni_sLd 0 6 1390) (ni_me85_15 [a, Int32.ofNat N, c, d, e, f] _ (List.mem_of_getElem? (i := 19) rfl))) rfl rfl ?_
  refine ni_xIc true (ni_ro [a, Int32.ofNat N, c, d, e, f] (1390, ni_sP (ni_gIc (fun x y => decide (x = y)) 1395 1393)) (ni_me85_15 [a, Int32.ofNat N, c, d, e, f] _ (List.mem_of_getElem? (i := 20) rfl))) rfl ?_
  refine ni_xLd (ni_ro [a, Int32.ofNat N, c, d, e, f] (1395, ni_sLd 0 6 1397) (ni_me85_15 [a, Int32.ofNat N, c, d, e, f] _ (List.mem_of_getElem? (i := 21) rfl))) rfl rfl ?_
  refine ni_xIf false (ni_ro [a, Int32.ofNat N, c, d, e, f] (1397, ni_sP (ni_gIf (fun x => decide (¬ x = 0)) 1412 1400)) (ni_me85_15 [a, Int32.ofNat N, c, d, e, f] _ (List.mem_of_getElem? (i := 22) rfl))) rfl ?_
  refine ni_xLd (ni_ro [a, Int32.ofNat N, c, d, e, f] (1400, ni_sLd 3 3 1401) (ni_me85_15 [a, Int32.ofNat N, c, d, e, f] _ (List.mem_of_getElem? (i := 23) rfl))) rfl rfl ?_
  refine ni_xP (g := ni_gPush (.int 0) 1402) (ni_ro [a, Int32.ofNat N, c, d, e, f] (1401, ni_sP (ni_gPush (.int 0) 1402)) (ni_me85_15 [a, Int32.ofNat N, c, d, e, f] _ (List.mem_of_getElem? (i := 24) rfl))) rfl ?_
  refine ni_xAld (ni_ro [a, Int32.ofNat N, c, d, e, f] (1402, ni_sAld .long 1 1403) (ni_me85_15 [a, Int32.ofNat N, c, d, e, f] _ (List.mem_of_getElem? (i := 25) rfl))) rfl ⟨by decide, rfl, by decide⟩ rfl rfl ?_
  refine ni_xLd (ni_ro [a, Int32.ofNat N, c, d, e, f] (1403, ni_sLd 0 7 1405) (ni_me85_15 [a, Int32.ofNat N, c, d, e, f] _ (List.mem_of_getElem? (i := 26) rfl))) rfl rfl ?_
  refine ni_xP (g := ni_gU (fun x => .long x.toInt64) 1406) (ni_ro [a, Int32.ofNat N, c, d, e, f] (1405, ni_sP (ni_gU (fun x => .long x.toInt64) 1406)) (ni_me85_15 [a, Int32.ofNat N, c, d, e, f] _ (List.mem_of_getElem? (i := 27) rfl))) rfl ?_
  refine ni_xP (g := ni_gJ (fun x y => .int (lg_cmp x y)) 1407) (ni_ro [a, Int32.ofNat N, c, d, e, f] (1406, ni_sP (ni_gJ (fun x y => .int (lg_cmp x y)) 1407)) (ni_me85_15 [a, Int32.ofNat N, c, d, e, f] _ (List.mem_of_getElem? (i := 28) rfl))) rfl ?_
  refine ni_xIf true (ni_ro [a, Int32.ofNat N, c, d, e, f] (1407, ni_sP (ni_gIf (fun x => decide (x = 0)) 1412 1410)) (ni_me85_15 [a, Int32.ofNat N, c, d, e, f] _ (List.mem_of_getElem? (i := 29) rfl))) (by rw [ni_cmp0]; rfl) ?_
  refine ni_xP (g := ni_gGo 3317) (ni_ro [a, Int32.ofNat N, c, d, e, f] (1412, ni_sP (ni_gGo 3317)) (ni_me85_15 [a, Int32.ofNat N, c, d, e, f] _ (List.mem_of_getElem? (i := 30) rfl))) rfl ?_
  refine ni_xInc (ni_ro [a, Int32.ofNat N, c, d, e, f] (3317, ni_sInc 5 (6) 3320) (ni_me85_52 [a, Int32.ofNat N, c, d, e, f] _ (List.mem_of_getElem? (i := 0) rfl))) rfl rfl ?_
  refine ni_xP (g := ni_gGo 28) (ni_ro [a, Int32.ofNat N, c, d, e, f] (3320, ni_sP (ni_gGo 28)) (ni_me85_52 [a, Int32.ofNat N, c, d, e, f] _ (List.mem_of_getElem? (i := 1) rfl))) rfl ?_
  refine ni_xLd (ni_ro [a, Int32.ofNat N, c, d, e, f] (28, ni_sLd 0 5 30) (ni_me85_1 [a, Int32.ofNat N, c, d, e, f] _ (List.mem_of_getElem? (i := 0) rfl))) rfl rfl ?_
  refine ni_xLd (ni_ro [a, Int32.ofNat N, c, d, e, f] (30, ni_sLd 3 0 31) (ni_me85_1 [a, Int32.ofNat N, c, d, e, f] _ (List.mem_of_getElem? (i := 1) rfl))) rfl rfl ?_
  refine ni_xSln (ni_ro [a, Int32.ofNat N, c, d, e, f] (31, ni_sSln [a, Int32.ofNat N, c, d, e, f] 32) (ni_me85_1 [a, Int32.ofNat N, c, d, e, f] _ (List.mem_of_getElem? (i := 2) rfl))) rfl ?_
  refine ni_xP (g := ni_gPush (.int 6) 34) (ni_ro [a, Int32.ofNat N, c, d, e, f] (32, ni_sP (ni_gPush (.int 6) 34)) (ni_me85_1 [a, Int32.ofNat N, c, d, e, f] _ (List.mem_of_getElem? (i := 3) rfl))) rfl ?_
  refine ni_xP (g := ni_gI (fun x y => x - y) 35) (ni_ro [a, Int32.ofNat N, c, d, e, f] (34, ni_sP (ni_gI (fun x y => x - y) 35)) (ni_me85_1 [a, Int32.ofNat N, c, d, e, f] _ (List.mem_of_getElem? (i := 4) rfl))) rfl ?_
  refine ni_xIc true (ni_ro [a, Int32.ofNat N, c, d, e, f] (35, ni_sP (ni_gIc (fun x y => decide (y < x)) 3323 38)) (ni_me85_1 [a, Int32.ofNat N, c, d, e, f] _ (List.mem_of_getElem? (i := 5) rfl))) (show decide (Int32.ofNat 6 - 6 < 0 + 6) = true from by decide) ?_
  refine ni_xP (g := ni_gPush (.int 1) 3324) (ni_ro [a, Int32.ofNat N, c, d, e, f] (3323, ni_sP (ni_gPush (.int 1) 3324)) (ni_me85_52 [a, Int32.ofNat N, c, d, e, f] _ (List.mem_of_getElem? (i := 2) rfl))) rfl ?_
  exact ni_xR (ni_ro [a, Int32.ofNat N, c, d, e, f] (3324, ni_sR (some .boolean)) (ni_me85_52 [a, Int32.ofNat N, c, d, e, f] _ (List.mem_of_getElem? (i := 3) rfl))) rfl
theorem ni_w175 {L : List ni_C} {vs : List Value} (h1 : L[110]? = some (14, vs)) (h2 : vs[2]? = some (.int 0)) : ni_R xs 4 175 [.ref 110] (L, 0) (.inl (some (.int 0)), (L, 0)) := by
  refine ni_enter (Nat.le_of_ble_eq_true rfl) rfl ?_
  refine ni_xP (g := ni_gPush (.int 0) 1) rfl rfl ?_
  refine ni_xSt rfl rfl rfl ?_
  refine ni_xP (g := ni_gPush (.int 0) 3) rfl rfl ?_
  refine ni_xSt rfl rfl rfl ?_
  refine ni_xLd rfl rfl rfl ?_
  refine ni_xP (g := ni_gPush (.int 2) 6) rfl rfl ?_
  refine ni_xLd rfl rfl rfl ?_
  refine ni_xGet rfl h1 h2 ?_
  refine ni_xP (g := ni_gI (fun x y => x * y) 11) rfl rfl ?_
  refine ni_xIc true rfl rfl ?_
  refine ni_xLd rfl rfl rfl ?_
  exact ni_xR rfl rfl
theorem ni_k61 (xs : List Int32) : ni_clO ni_o7 (ni_exO ni_o7 (ni_prog xs) 100) 3 61 [.ref 1] (ni_P0, 0) = some (.inl (some (.int 0)), (ni_P0, 0)) := rfl
theorem ni_w101g {t : Int32} (h1 : ¬ t < 1) (h2 : t ≤ 60) : ni_R xs 6 101 [.ref 0, .int t, .ref 108] (ni_P0, 0) (.inl (some (.int 0)), (ni_P0, 0)) := by
  have h50 : ni_R xs 5 45 [.ref 0, .int t] (ni_P0, 0) (.inl (some (.int 0)), (ni_P0, 0)) := by
    refine ni_enter (Nat.le_of_ble_eq_true rfl) rfl ?_
    refine ni_xLd rfl rfl rfl ?_
    refine ni_xP (g := ni_gPush (.int 1) 2) rfl rfl ?_
    refine ni_xP (g := ni_gPush (.int 60) 4) rfl rfl ?_
    refine ni_xC rfl (Nat.le_of_ble_eq_true rfl) rfl rfl (Nat.le_of_ble_eq_true rfl) (ni_Rup (ni_c9g h1 h2) (by decide)) ?_
    refine ni_xLd rfl rfl rfl ?_
    refine ni_xGet rfl rfl rfl ?_
    refine ni_xV rfl rfl rfl rfl (Nat.le_of_ble_eq_true rfl) (ni_Rup (ni_ofO (ni_k61 xs)) (by decide)) ?_
    refine ni_xIf false rfl rfl ?_
    refine ni_xP (g := ni_gPush (.int 0) 18) rfl rfl ?_
    exact ni_xR rfl rfl
  refine ni_enter (Nat.le_of_ble_eq_true rfl) rfl ?_
  refine ni_xLd rfl rfl rfl ?_
  refine ni_xP (g := ni_gPush (.int 0) 2) rfl rfl ?_
  refine ni_xLd rfl rfl rfl ?_
  refine ni_xLd rfl rfl rfl ?_
  refine ni_xVX rfl rfl rfl rfl (Nat.le_of_ble_eq_true rfl) h50 ?_
  refine ni_xP (g := ni_gU (fun x => .long x.toInt64) 8) rfl rfl ?_
  refine ni_xAst (M' := (ni_P0, 0)) rfl rfl ⟨by decide, rfl, by decide, by decide, rfl, ni_fL _⟩ rfl ?_
  refine ni_xP (g := ni_gGo 15) rfl rfl ?_
  refine ni_xP (g := ni_gPush (.int 0) 16) rfl rfl ?_
  exact ni_xR rfl rfl
theorem ni_k164s (xs : List Int32) : ni_clO ni_o7 (ni_exO ni_o7 (ni_prog xs) 100) 3 164 [.ref 14, .int 0, .int 1] (ni_P0, 0) = some (.inl (some (.int 0)), (ni_P0, 0)) := rfl
theorem ni_w160g {t : Int32} {L : List ni_C} {vs : List Value} (hc : ni_R xs 6 174 [.ref 15] (ni_P0, 0) (.inl (some (.ref 110)), (L, 0))) (g1 : L[110]? = some (14, vs)) (g2 : vs[2]? = some (.int 0)) (h1 : ¬ t < 1) (h2 : t ≤ 60) : ni_R xs 7 160 [.ref 14, .int t] (ni_P0, 0) (.inl (some (.int 0)), (L, 0)) := by
  refine ni_enter (Nat.le_of_ble_eq_true rfl) rfl ?_
  refine ni_xLd rfl rfl rfl ?_
  refine ni_xLd rfl rfl rfl ?_
  refine ni_xP (g := ni_gPush (.int 1) 3) rfl rfl ?_
  refine ni_xP (g := ni_gPush (.int 60) 5) rfl rfl ?_
  refine ni_xC rfl (Nat.le_of_ble_eq_true rfl) rfl rfl (Nat.le_of_ble_eq_true rfl) (ni_Rup (ni_c130g h1 h2) (by decide)) ?_
  refine ni_xIf true rfl rfl ?_
  refine ni_xP (g := ni_gPush (.int 0) 16) rfl rfl ?_
  refine ni_xP (g := ni_gPush (.int 1) 17) rfl rfl ?_
  refine ni_xV rfl rfl rfl rfl (Nat.le_of_ble_eq_true rfl) (ni_Rup (ni_ofO (ni_k164s xs)) (by decide)) ?_
  refine ni_xIf true rfl rfl ?_
  refine ni_xLd rfl rfl rfl ?_
  refine ni_xGet rfl rfl rfl ?_
  refine ni_xV rfl rfl rfl rfl (Nat.le_of_ble_eq_true rfl) hc ?_
  refine ni_xSt rfl rfl rfl ?_
  refine ni_xP (g := ni_gPush (.int 0) 34) rfl rfl ?_
  refine ni_xSt rfl rfl rfl ?_
  refine ni_xLd rfl rfl rfl ?_
  refine ni_xLd rfl rfl rfl ?_
  refine ni_xIc false rfl (decide_eq_false fun z => h1 (Int32.lt_trans z (by decide))) ?_
  refine ni_xLd rfl rfl rfl ?_
  refine ni_xV rfl rfl rfl g1 (Nat.le_of_ble_eq_true rfl) (ni_Rup (ni_w175 g1 g2) (by decide)) ?_
  refine ni_xIf false rfl rfl ?_
  refine ni_xLd rfl rfl rfl ?_
  exact ni_xR rfl rfl
theorem ni_w167 {L : List ni_C} (h : L[14]? = some (18, [.ref 15, .int 0])) : ni_R xs 2 167 [.ref 14] (L, 0) (.inl (some (.int 0)), (L, 0)) := by
  refine ni_enter (Nat.le_of_ble_eq_true rfl) rfl ?_
  refine ni_xLd rfl rfl rfl ?_
  refine ni_xGet rfl h rfl ?_
  exact ni_xR rfl rfl
theorem ni_cg48 (a b c d e f : Int32) {L : List ni_C} {vs : List Value} (hc : ni_R [a, b, c, d, e, f] 6 174 [.ref 15] (ni_P0, 0) (.inl (some (.ref 110)), (L, 0))) (g1 : L[110]? = some (14, vs)) (g2 : vs[2]? = some (.int 0)) (g3 : L[14]? = some (18, [.ref 15, .int 0])) (g4 : L[108]? = some (101, [.long 0])) (h1 : ¬ b < 1) (h2 : b ≤ 60) : ni_G [a, b, c, d, e, f] 9 85 3247 ni_ls0 [] (ni_P0, 0) (.inl (some (.int 1)), (L, 0)) := by
  refine ni_xLd (ni_ro [a, b, c, d, e, f] (3247, ni_sLd 3 1 3248) (ni_me85_50 [a, b, c, d, e, f] _ (List.mem_of_getElem? (i := 0) rfl))) rfl rfl ?_
  refine ni_xLd (ni_ro [a, b, c, d, e, f] (3248, ni_sLd 3 0 3249) (ni_me85_50 [a, b, c, d, e, f] _ (List.mem_of_getElem? (i := 1) rfl))) rfl rfl ?_
  refine ni_xLd (ni_ro [a, b, c, d, e, f] (3249, ni_sLd 0 5 3251) (ni_me85_50 [a, b, c, d, e, f] _ (List.mem_of_getElem? (i := 2) rfl))) rfl rfl ?_
  refine ni_xP (g := ni_gPush (.int 1) 3252) (ni_ro [a, b, c, d, e, f] (3251, ni_sP (ni_gPush (.int 1) 3252)) (ni_me85_50 [a, b, c, d, e, f] _ (List.mem_of_getElem? (i := 3) rfl))) rfl ?_
  refine ni_xP (g := ni_gI (fun x y => x + y) 3253) (ni_ro [a, b, c, d, e, f] (3252, ni_sP (ni_gI (fun x y => x + y) 3253)) (ni_me85_50 [a, b, c, d, e, f] _ (List.mem_of_getElem? (i := 4) rfl))) rfl ?_
  refine ni_xSld (ni_ro [a, b, c, d, e, f] (3253, ni_sSld [a, b, c, d, e, f] 3254) (ni_me85_50 [a, b, c, d, e, f] _ (List.mem_of_getElem? (i := 5) rfl))) ⟨by decide, rfl⟩ ?_
  refine ni_xLd (ni_ro [a, b, c, d, e, f] (3254, ni_sLd 3 3 3255) (ni_me85_50 [a, b, c, d, e, f] _ (List.mem_of_getElem? (i := 6) rfl))) rfl rfl ?_
  refine ni_xC (ni_ro [a, b, c, d, e, f] (3255, ni_sC 101 3 3258) (ni_me85_50 [a, b, c, d, e, f] _ (List.mem_of_getElem? (i := 7) rfl))) (Nat.le_of_ble_eq_true rfl) rfl rfl (Nat.le_of_ble_eq_true rfl) (ni_Rup (ni_w101g h1 h2) (by decide)) ?_
  refine ni_xSt (ni_ro [a, b, c, d, e, f] (3258, ni_sSt 0 6 3260) (ni_me85_50 [a, b, c, d, e, f] _ (List.mem_of_getElem? (i := 8) rfl))) rfl rfl ?_
  refine ni_xLd (ni_ro [a, b, c, d, e, f] (3260, ni_sLd 3 2 3261) (ni_me85_50 [a, b, c, d, e, f] _ (List.mem_of_getElem? (i := 9) rfl))) rfl rfl ?_
  refine ni_xLd (ni_ro [a, b, c, d, e, f] (3261, ni_sLd 3 0 3262) (ni_me85_50 [a, b, c, d, e, f] _ (List.mem_of_getElem? (i := 10) rfl))) rfl rfl ?_
  refine ni_xLd (ni_ro [a, b, c, d, e, f] (3262, ni_sLd 0 5 3264) (ni_me85_50 [a, b, c, d, e, f] _ (List.mem_of_getElem? (i := 11) rfl))) rfl rfl ?_
  refine ni_xP (g := ni_gPush (.int 1) 3265) (ni_ro [a, b, c, d, e, f] (3264, ni_sP (ni_gPush (.int 1) 3265)) (ni_me85_50 [a, b, c, d, e, f] _ (List.mem_of_getElem? (i := 12) rfl))) rfl ?_
  refine ni_xP (g := ni_gI (fun x y => x + y) 3266) (ni_ro [a, b, c, d, e, f] (3265, ni_sP (ni_gI (fun x y => x + y) 3266)) (ni_me85_50 [a, b, c, d, e, f] _ (List.mem_of_getElem? (i := 13) rfl))) rfl ?_
  refine ni_xSld (ni_ro [a, b, c, d, e, f] (3266, ni_sSld [a, b, c, d, e, f] 3267) (ni_me85_50 [a, b, c, d, e, f] _ (List.mem_of_getElem? (i := 14) rfl))) ⟨by decide, rfl⟩ ?_
  refine ni_xV (ni_ro [a, b, c, d, e, f] (3267, ni_sV 160 1 18 3270) (ni_me85_50 [a, b, c, d, e, f] _ (List.mem_of_getElem? (i := 15) rfl))) rfl rfl rfl (Nat.le_of_ble_eq_true rfl) (ni_Rup (ni_w160g hc g1 g2 h1 h2) (by decide)) ?_
  refine ni_xSt (ni_ro [a, b, c, d, e, f] (3270, ni_sSt 0 7 3272) (ni_me85_50 [a, b, c, d, e, f] _ (List.mem_of_getElem? (i := 16) rfl))) rfl rfl ?_
  refine ni_xLd (ni_ro [a, b, c, d, e, f] (3272, ni_sLd 3 2 3273) (ni_me85_50 [a, b, c, d, e, f] _ (List.mem_of_getElem? (i := 17) rfl))) rfl rfl ?_
  refine ni_xV (ni_ro [a, b, c, d, e, f] (3273, ni_sV 167 0 18 3276) (ni_me85_50 [a, b, c, d, e, f] _ (List.mem_of_getElem? (i := 18) rfl))) rfl rfl g3 (Nat.le_of_ble_eq_true rfl) (ni_Rup (ni_w167 g3) (by decide)) ?_
  refine ni_xLd (ni_ro [a, b, c, d, e, f] (3276, ni_sLd 0 6 3278) (ni_me85_50 [a, b, c, d, e, f] _ (List.mem_of_getElem? (i := 19) rfl))) rfl rfl ?_
  refine ni_xIc true (ni_ro [a, b, c, d, e, f] (3278, ni_sP (ni_gIc (fun x y => decide (x = y)) 3283 3281)) (ni_me85_50 [a, b, c, d, e, f] _ (List.mem_of_getElem? (i := 20) rfl))) rfl ?_
  refine ni_xLd (ni_ro [a, b, c, d, e, f] (3283, ni_sLd 0 6 3285) (ni_me85_50 [a, b, c, d, e, f] _ (List.mem_of_getElem? (i := 21) rfl))) rfl rfl ?_
  refine ni_xIf false (ni_ro [a, b, c, d, e, f] (3285, ni_sP (ni_gIf (fun x => decide (¬ x = 0)) 3300 3288)) (ni_me85_50 [a, b, c, d, e, f] _ (List.mem_of_getElem? (i := 22) rfl))) rfl ?_
  refine ni_xLd (ni_ro [a, b, c, d, e, f] (3288, ni_sLd 3 3 3289) (ni_me85_50 [a, b, c, d, e, f] _ (List.mem_of_getElem? (i := 23) rfl))) rfl rfl ?_
  refine ni_xP (g := ni_gPush (.int 0) 3290) (ni_ro [a, b, c, d, e, f] (3289, ni_sP (ni_gPush (.int 0) 3290)) (ni_me85_50 [a, b, c, d, e, f] _ (List.mem_of_getElem? (i := 24) rfl))) rfl ?_
  refine ni_xAld (ni_ro [a, b, c, d, e, f] (3290, ni_sAld .long 1 3291) (ni_me85_50 [a, b, c, d, e, f] _ (List.mem_of_getElem? (i := 25) rfl))) g4 ⟨by decide, rfl, by decide⟩ rfl rfl ?_
  refine ni_xLd (ni_ro [a, b, c, d, e, f] (3291, ni_sLd 0 7 3293) (ni_me85_50 [a, b, c, d, e, f] _ (List.mem_of_getElem? (i := 26) rfl))) rfl rfl ?_
  refine ni_xP (g := ni_gU (fun x => .long x.toInt64) 3294) (ni_ro [a, b, c, d, e, f] (3293, ni_sP (ni_gU (fun x => .long x.toInt64) 3294)) (ni_me85_50 [a, b, c, d, e, f] _ (List.mem_of_getElem? (i := 27) rfl))) rfl ?_
  refine ni_xP (g := ni_gJ (fun x y => .int (lg_cmp x y)) 3295) (ni_ro [a, b, c, d, e, f] (3294, ni_sP (ni_gJ (fun x y => .int (lg_cmp x y)) 3295)) (ni_me85_50 [a, b, c, d, e, f] _ (List.mem_of_getElem? (i := 28) rfl))) rfl ?_
  refine ni_xIf true (ni_ro [a, b, c, d, e, f] (3295, ni_sP (ni_gIf (fun x => decide (x = 0)) 3300 3298)) (ni_me85_50 [a, b, c, d, e, f] _ (List.mem_of_getElem? (i := 29) rfl))) rfl ?_
  refine ni_xP (g := ni_gGo 3317) (ni_ro [a, b, c, d, e, f] (3300, ni_sP (ni_gGo 3317)) (ni_me85_50 [a, b, c, d, e, f] _ (List.mem_of_getElem? (i := 30) rfl))) rfl ?_
  refine ni_xInc (ni_ro [a, b, c, d, e, f] (3317, ni_sInc 5 (6) 3320) (ni_me85_52 [a, b, c, d, e, f] _ (List.mem_of_getElem? (i := 0) rfl))) rfl rfl ?_
  refine ni_xP (g := ni_gGo 28) (ni_ro [a, b, c, d, e, f] (3320, ni_sP (ni_gGo 28)) (ni_me85_52 [a, b, c, d, e, f] _ (List.mem_of_getElem? (i := 1) rfl))) rfl ?_
  refine ni_xLd (ni_ro [a, b, c, d, e, f] (28, ni_sLd 0 5 30) (ni_me85_1 [a, b, c, d, e, f] _ (List.mem_of_getElem? (i := 0) rfl))) rfl rfl ?_
  refine ni_xLd (ni_ro [a, b, c, d, e, f] (30, ni_sLd 3 0 31) (ni_me85_1 [a, b, c, d, e, f] _ (List.mem_of_getElem? (i := 1) rfl))) rfl rfl ?_
  refine ni_xSln (ni_ro [a, b, c, d, e, f] (31, ni_sSln [a, b, c, d, e, f] 32) (ni_me85_1 [a, b, c, d, e, f] _ (List.mem_of_getElem? (i := 2) rfl))) rfl ?_
  refine ni_xP (g := ni_gPush (.int 6) 34) (ni_ro [a, b, c, d, e, f] (32, ni_sP (ni_gPush (.int 6) 34)) (ni_me85_1 [a, b, c, d, e, f] _ (List.mem_of_getElem? (i := 3) rfl))) rfl ?_
  refine ni_xP (g := ni_gI (fun x y => x - y) 35) (ni_ro [a, b, c, d, e, f] (34, ni_sP (ni_gI (fun x y => x - y) 35)) (ni_me85_1 [a, b, c, d, e, f] _ (List.mem_of_getElem? (i := 4) rfl))) rfl ?_
  refine ni_xIc true (ni_ro [a, b, c, d, e, f] (35, ni_sP (ni_gIc (fun x y => decide (y < x)) 3323 38)) (ni_me85_1 [a, b, c, d, e, f] _ (List.mem_of_getElem? (i := 5) rfl))) (show decide (Int32.ofNat 6 - 6 < 0 + 6) = true from by decide) ?_
  refine ni_xP (g := ni_gPush (.int 1) 3324) (ni_ro [a, b, c, d, e, f] (3323, ni_sP (ni_gPush (.int 1) 3324)) (ni_me85_52 [a, b, c, d, e, f] _ (List.mem_of_getElem? (i := 2) rfl))) rfl ?_
  exact ni_xR (ni_ro [a, b, c, d, e, f] (3324, ni_sR (some .boolean)) (ni_me85_52 [a, b, c, d, e, f] _ (List.mem_of_getElem? (i := 3) rfl))) rfl
theorem ni_go28 (a b c d e f : Int32) {o : ni_O} (k : ni_G [a, b, c, d, e, f] 9 85 (ni_tsf 0 3317 [260, 304, 408, 476, 567, 647, 703, 795, 851, 987, 1095, 1187, 1279, 1359, 1415, 1428, 1441, 1454, 1467, 1480, 1493, 1556, 1624, 1637, 1650, 1718, 1786, 1842, 1898, 1954, 2022, 2090, 2158, 2226, 2282, 2366, 2462, 2546, 2642, 2698, 2754, 2810, 2866, 2922, 2990, 3046, 3123, 3179, 3247, 3303] (a &&& 63)) ni_ls0 [] (ni_P0, 0) o) : ni_G [a, b, c, d, e, f] 9 85 28 ni_ls0 [] (ni_P0, 0) o := by
  refine ni_xLd (ni_ro [a, b, c, d, e, f] (28, ni_sLd 0 5 30) (ni_me85_1 [a, b, c, d, e, f] _ (List.mem_of_getElem? (i := 0) rfl))) rfl rfl ?_
  refine ni_xLd (ni_ro [a, b, c, d, e, f] (30, ni_sLd 3 0 31) (ni_me85_1 [a, b, c, d, e, f] _ (List.mem_of_getElem? (i := 1) rfl))) rfl rfl ?_
  refine ni_xSln (ni_ro [a, b, c, d, e, f] (31, ni_sSln [a, b, c, d, e, f] 32) (ni_me85_1 [a, b, c, d, e, f] _ (List.mem_of_getElem? (i := 2) rfl))) rfl ?_
  refine ni_xP (g := ni_gPush (.int 6) 34) (ni_ro [a, b, c, d, e, f] (32, ni_sP (ni_gPush (.int 6) 34)) (ni_me85_1 [a, b, c, d, e, f] _ (List.mem_of_getElem? (i := 3) rfl))) rfl ?_
  refine ni_xP (g := ni_gI (fun x y => x - y) 35) (ni_ro [a, b, c, d, e, f] (34, ni_sP (ni_gI (fun x y => x - y) 35)) (ni_me85_1 [a, b, c, d, e, f] _ (List.mem_of_getElem? (i := 4) rfl))) rfl ?_
  refine ni_xIc false (ni_ro [a, b, c, d, e, f] (35, ni_sP (ni_gIc (fun x y => decide (y < x)) 3323 38)) (ni_me85_1 [a, b, c, d, e, f] _ (List.mem_of_getElem? (i := 5) rfl))) (show decide (Int32.ofNat 6 - 6 < 0) = false from by decide) ?_
  refine ni_xLd (ni_ro [a, b, c, d, e, f] (38, ni_sLd 3 0 39) (ni_me85_1 [a, b, c, d, e, f] _ (List.mem_of_getElem? (i := 6) rfl))) rfl rfl ?_
  refine ni_xLd (ni_ro [a, b, c, d, e, f] (39, ni_sLd 0 5 41) (ni_me85_1 [a, b, c, d, e, f] _ (List.mem_of_getElem? (i := 7) rfl))) rfl rfl ?_
  refine ni_xSld (ni_ro [a, b, c, d, e, f] (41, ni_sSld [a, b, c, d, e, f] 42) (ni_me85_1 [a, b, c, d, e, f] _ (List.mem_of_getElem? (i := 8) rfl))) ⟨by decide, rfl⟩ ?_
  refine ni_xP (g := ni_gPush (.int 63) 44) (ni_ro [a, b, c, d, e, f] (42, ni_sP (ni_gPush (.int 63) 44)) (ni_me85_1 [a, b, c, d, e, f] _ (List.mem_of_getElem? (i := 9) rfl))) rfl ?_
  refine ni_xP (g := ni_gI (fun x y => x &&& y) 45) (ni_ro [a, b, c, d, e, f] (44, ni_sP (ni_gI (fun x y => x &&& y) 45)) (ni_me85_1 [a, b, c, d, e, f] _ (List.mem_of_getElem? (i := 10) rfl))) rfl ?_
  refine ni_xP (g := ni_gSw (ni_tsf 0 3317 [260, 304, 408, 476, 567, 647, 703, 795, 851, 987, 1095, 1187, 1279, 1359, 1415, 1428, 1441, 1454, 1467, 1480, 1493, 1556, 1624, 1637, 1650, 1718, 1786, 1842, 1898, 1954, 2022, 2090, 2158, 2226, 2282, 2366, 2462, 2546, 2642, 2698, 2754, 2810, 2866, 2922, 2990, 3046, 3123, 3179, 3247, 3303])) (ni_ro [a, b, c, d, e, f] (45, ni_sP (ni_gSw (ni_tsf 0 3317 [260, 304, 408, 476, 567, 647, 703, 795, 851, 987, 1095, 1187, 1279, 1359, 1415, 1428, 1441, 1454, 1467, 1480, 1493, 1556, 1624, 1637, 1650, 1718, 1786, 1842, 1898, 1954, 2022, 2090, 2158, 2226, 2282, 2366, 2462, 2546, 2642, 2698, 2754, 2810, 2866, 2922, 2990, 3046, 3123, 3179, 3247, 3303]))) (ni_me85_1 [a, b, c, d, e, f] _ (List.mem_of_getElem? (i := 11) rfl))) rfl ?_
  exact k
theorem ni_gT (a b c d e f : Int32) : ni_G [a, b, c, d, e, f] 9 85 3317 ni_ls0 [] (ni_P0, 0) (.inl (some (.int 1)), (ni_P0, 0)) := by
  refine ni_xInc (ni_ro [a, b, c, d, e, f] (3317, ni_sInc 5 (6) 3320) (ni_me85_52 [a, b, c, d, e, f] _ (List.mem_of_getElem? (i := 0) rfl))) rfl rfl ?_
  refine ni_xP (g := ni_gGo 28) (ni_ro [a, b, c, d, e, f] (3320, ni_sP (ni_gGo 28)) (ni_me85_52 [a, b, c, d, e, f] _ (List.mem_of_getElem? (i := 1) rfl))) rfl ?_
  refine ni_xLd (ni_ro [a, b, c, d, e, f] (28, ni_sLd 0 5 30) (ni_me85_1 [a, b, c, d, e, f] _ (List.mem_of_getElem? (i := 0) rfl))) rfl rfl ?_
  refine ni_xLd (ni_ro [a, b, c, d, e, f] (30, ni_sLd 3 0 31) (ni_me85_1 [a, b, c, d, e, f] _ (List.mem_of_getElem? (i := 1) rfl))) rfl rfl ?_
  refine ni_xSln (ni_ro [a, b, c, d, e, f] (31, ni_sSln [a, b, c, d, e, f] 32) (ni_me85_1 [a, b, c, d, e, f] _ (List.mem_of_getElem? (i := 2) rfl))) rfl ?_
  refine ni_xP (g := ni_gPush (.int 6) 34) (ni_ro [a, b, c, d, e, f] (32, ni_sP (ni_gPush (.int 6) 34)) (ni_me85_1 [a, b, c, d, e, f] _ (List.mem_of_getElem? (i := 3) rfl))) rfl ?_
  refine ni_xP (g := ni_gI (fun x y => x - y) 35) (ni_ro [a, b, c, d, e, f] (34, ni_sP (ni_gI (fun x y => x - y) 35)) (ni_me85_1 [a, b, c, d, e, f] _ (List.mem_of_getElem? (i := 4) rfl))) rfl ?_
  refine ni_xIc true (ni_ro [a, b, c, d, e, f] (35, ni_sP (ni_gIc (fun x y => decide (y < x)) 3323 38)) (ni_me85_1 [a, b, c, d, e, f] _ (List.mem_of_getElem? (i := 5) rfl))) (show decide (Int32.ofNat 6 - 6 < 0 + 6) = true from by decide) ?_
  refine ni_xP (g := ni_gPush (.int 1) 3324) (ni_ro [a, b, c, d, e, f] (3323, ni_sP (ni_gPush (.int 1) 3324)) (ni_me85_52 [a, b, c, d, e, f] _ (List.mem_of_getElem? (i := 2) rfl))) rfl ?_
  exact ni_xR (ni_ro [a, b, c, d, e, f] (3324, ni_sR (some .boolean)) (ni_me85_52 [a, b, c, d, e, f] _ (List.mem_of_getElem? (i := 3) rfl))) rfl
theorem ni_gS0 : ni_G [] 9 85 28 ni_ls0 [] (ni_P0, 0) (.inl (some (.int 1)), (ni_P0, 0)) := by
  refine ni_xLd (ni_ro [] (28, ni_sLd 0 5 30) (ni_me85_1 [] _ (List.mem_of_getElem? (i := 0) rfl))) rfl rfl ?_
  refine ni_xLd (ni_ro [] (30, ni_sLd 3 0 31) (ni_me85_1 [] _ (List.mem_of_getElem? (i := 1) rfl))) rfl rfl ?_
  refine ni_xSln (ni_ro [] (31, ni_sSln [] 32) (ni_me85_1 [] _ (List.mem_of_getElem? (i := 2) rfl))) rfl ?_
  refine ni_xP (g := ni_gPush (.int 6) 34) (ni_ro [] (32, ni_sP (ni_gPush (.int 6) 34)) (ni_me85_1 [] _ (List.mem_of_getElem? (i := 3) rfl))) rfl ?_
  refine ni_xP (g := ni_gI (fun x y => x - y) 35) (ni_ro [] (34, ni_sP (ni_gI (fun x y => x - y) 35)) (ni_me85_1 [] _ (List.mem_of_getElem? (i := 4) rfl))) rfl ?_
  refine ni_xIc true (ni_ro [] (35, ni_sP (ni_gIc (fun x y => decide (y < x)) 3323 38)) (ni_me85_1 [] _ (List.mem_of_getElem? (i := 5) rfl))) (show decide (Int32.ofNat 0 - 6 < 0) = true from by decide) ?_
  refine ni_xP (g := ni_gPush (.int 1) 3324) (ni_ro [] (3323, ni_sP (ni_gPush (.int 1) 3324)) (ni_me85_52 [] _ (List.mem_of_getElem? (i := 2) rfl))) rfl ?_
  exact ni_xR (ni_ro [] (3324, ni_sR (some .boolean)) (ni_me85_52 [] _ (List.mem_of_getElem? (i := 3) rfl))) rfl
theorem ni_gS1 (a : Int32) : ni_G [a] 9 85 28 ni_ls0 [] (ni_P0, 0) (.inl (some (.int 1)), (ni_P0, 0)) := by
  refine ni_xLd (ni_ro [a] (28, ni_sLd 0 5 30) (ni_me85_1 [a] _ (List.mem_of_getElem? (i := 0) rfl))) rfl rfl ?_
  refine ni_xLd (ni_ro [a] (30, ni_sLd 3 0 31) (ni_me85_1 [a] _ (List.mem_of_getElem? (i := 1) rfl))) rfl rfl ?_
  refine ni_xSln (ni_ro [a] (31, ni_sSln [a] 32) (ni_me85_1 [a] _ (List.mem_of_getElem? (i := 2) rfl))) rfl ?_
  refine ni_xP (g := ni_gPush (.int 6) 34) (ni_ro [a] (32, ni_sP (ni_gPush (.int 6) 34)) (ni_me85_1 [a] _ (List.mem_of_getElem? (i := 3) rfl))) rfl ?_
  refine ni_xP (g := ni_gI (fun x y => x - y) 35) (ni_ro [a] (34, ni_sP (ni_gI (fun x y => x - y) 35)) (ni_me85_1 [a] _ (List.mem_of_getElem? (i := 4) rfl))) rfl ?_
  refine ni_xIc true (ni_ro [a] (35, ni_sP (ni_gIc (fun x y => decide (y < x)) 3323 38)) (ni_me85_1 [a] _ (List.mem_of_getElem? (i := 5) rfl))) (show decide (Int32.ofNat 1 - 6 < 0) = true from by decide) ?_
  refine ni_xP (g := ni_gPush (.int 1) 3324) (ni_ro [a] (3323, ni_sP (ni_gPush (.int 1) 3324)) (ni_me85_52 [a] _ (List.mem_of_getElem? (i := 2) rfl))) rfl ?_
  exact ni_xR (ni_ro [a] (3324, ni_sR (some .boolean)) (ni_me85_52 [a] _ (List.mem_of_getElem? (i := 3) rfl))) rfl
theorem ni_gS2 (a b : Int32) : ni_G [a, b] 9 85 28 ni_ls0 [] (ni_P0, 0) (.inl (some (.int 1)), (ni_P0, 0)) := by
  refine ni_xLd (ni_ro [a, b] (28, ni_sLd 0 5 30) (ni_me85_1 [a, b] _ (List.mem_of_getElem? (i := 0) rfl))) rfl rfl ?_
  refine ni_xLd (ni_ro [a, b] (30, ni_sLd 3 0 31) (ni_me85_1 [a, b] _ (List.mem_of_getElem? (i := 1) rfl))) rfl rfl ?_
  refine ni_xSln (ni_ro [a, b] (31, ni_sSln [a, b] 32) (ni_me85_1 [a, b] _ (List.mem_of_getElem? (i := 2) rfl))) rfl ?_
  refine ni_xP (g := ni_gPush (.int 6) 34) (ni_ro [a, b] (32, ni_sP (ni_gPush (.int 6) 34)) (ni_me85_1 [a, b] _ (List.mem_of_getElem? (i := 3) rfl))) rfl ?_
  refine ni_xP (g := ni_gI (fun x y => x - y) 35) (ni_ro [a, b] (34, ni_sP (ni_gI (fun x y => x - y) 35)) (ni_me85_1 [a, b] _ (List.mem_of_getElem? (i := 4) rfl))) rfl ?_
  refine ni_xIc true (ni_ro [a, b] (35, ni_sP (ni_gIc (fun x y => decide (y < x)) 3323 38)) (ni_me85_1 [a, b] _ (List.mem_of_getElem? (i := 5) rfl))) (show decide (Int32.ofNat 2 - 6 < 0) = true from by decide) ?_
  refine ni_xP (g := ni_gPush (.int 1) 3324) (ni_ro [a, b] (3323, ni_sP (ni_gPush (.int 1) 3324)) (ni_me85_52 [a, b] _ (List.mem_of_getElem? (i := 2) rfl))) rfl ?_
  exact ni_xR (ni_ro [a, b] (3324, ni_sR (some .boolean)) (ni_me85_52 [a, b] _ (List.mem_of_getElem? (i := 3) rfl))) rfl
theorem ni_gS3 (a b c : Int32) : ni_G [a, b, c] 9 85 28 ni_ls0 [] (ni_P0, 0) (.inl (some (.int 1)), (ni_P0, 0)) := by
  refine ni_xLd (ni_ro [a, b, c] (28, ni_sLd 0 5 30) (ni_me85_1 [a, b, c] _ (List.mem_of_getElem? (i := 0) rfl))) rfl rfl ?_
  refine ni_xLd (ni_ro [a, b, c] (30, ni_sLd 3 0 31) (ni_me85_1 [a, b, c] _ (List.mem_of_getElem? (i := 1) rfl))) rfl rfl ?_
  refine ni_xSln (ni_ro [a, b, c] (31, ni_sSln [a, b, c] 32) (ni_me85_1 [a, b, c] _ (List.mem_of_getElem? (i := 2) rfl))) rfl ?_
  refine ni_xP (g := ni_gPush (.int 6) 34) (ni_ro [a, b, c] (32, ni_sP (ni_gPush (.int 6) 34)) (ni_me85_1 [a, b, c] _ (List.mem_of_getElem? (i := 3) rfl))) rfl ?_
  refine ni_xP (g := ni_gI (fun x y => x - y) 35) (ni_ro [a, b, c] (34, ni_sP (ni_gI (fun x y => x - y) 35)) (ni_me85_1 [a, b, c] _ (List.mem_of_getElem? (i := 4) rfl))) rfl ?_
  refine ni_xIc true (ni_ro [a, b, c] (35, ni_sP (ni_gIc (fun x y => decide (y < x)) 3323 38)) (ni_me85_1 [a, b, c] _ (List.mem_of_getElem? (i := 5) rfl))) (show decide (Int32.ofNat 3 - 6 < 0) = true from by decide) ?_
  refine ni_xP (g := ni_gPush (.int 1) 3324) (ni_ro [a, b, c] (3323, ni_sP (ni_gPush (.int 1) 3324)) (ni_me85_52 [a, b, c] _ (List.mem_of_getElem? (i := 2) rfl))) rfl ?_
  exact ni_xR (ni_ro [a, b, c] (3324, ni_sR (some .boolean)) (ni_me85_52 [a, b, c] _ (List.mem_of_getElem? (i := 3) rfl))) rfl
theorem ni_gS4 (a b c d : Int32) : ni_G [a, b, c, d] 9 85 28 ni_ls0 [] (ni_P0, 0) (.inl (some (.int 1)), (ni_P0, 0)) := by
  refine ni_xLd (ni_ro [a, b, c, d] (28, ni_sLd 0 5 30) (ni_me85_1 [a, b, c, d] _ (List.mem_of_getElem? (i := 0) rfl))) rfl rfl ?_
  refine ni_xLd (ni_ro [a, b, c, d] (30, ni_sLd 3 0 31) (ni_me85_1 [a, b, c, d] _ (List.mem_of_getElem? (i := 1) rfl))) rfl rfl ?_
  refine ni_xSln (ni_ro [a, b, c, d] (31, ni_sSln [a, b, c, d] 32) (ni_me85_1 [a, b, c, d] _ (List.mem_of_getElem? (i := 2) rfl))) rfl ?_
  refine ni_xP (g := ni_gPush (.int 6) 34) (ni_ro [a, b, c, d] (32, ni_sP (ni_gPush (.int 6) 34)) (ni_me85_1 [a, b, c, d] _ (List.mem_of_getElem? (i := 3) rfl))) rfl ?_
  refine ni_xP (g := ni_gI (fun x y => x - y) 35) (ni_ro [a, b, c, d] (34, ni_sP (ni_gI (fun x y => x - y) 35)) (ni_me85_1 [a, b, c, d] _ (List.mem_of_getElem? (i := 4) rfl))) rfl ?_
  refine ni_xIc true (ni_ro [a, b, c, d] (35, ni_sP (ni_gIc (fun x y => decide (y < x)) 3323 38)) (ni_me85_1 [a, b, c, d] _ (List.mem_of_getElem? (i := 5) rfl))) (show decide (Int32.ofNat 4 - 6 < 0) = true from by decide) ?_
  refine ni_xP (g := ni_gPush (.int 1) 3324) (ni_ro [a, b, c, d] (3323, ni_sP (ni_gPush (.int 1) 3324)) (ni_me85_52 [a, b, c, d] _ (List.mem_of_getElem? (i := 2) rfl))) rfl ?_
  exact ni_xR (ni_ro [a, b, c, d] (3324, ni_sR (some .boolean)) (ni_me85_52 [a, b, c, d] _ (List.mem_of_getElem? (i := 3) rfl))) rfl
theorem ni_gS5 (a b c d e : Int32) : ni_G [a, b, c, d, e] 9 85 28 ni_ls0 [] (ni_P0, 0) (.inl (some (.int 1)), (ni_P0, 0)) := by
  refine ni_xLd (ni_ro [a, b, c, d, e] (28, ni_sLd 0 5 30) (ni_me85_1 [a, b, c, d, e] _ (List.mem_of_getElem? (i := 0) rfl))) rfl rfl ?_
  refine ni_xLd (ni_ro [a, b, c, d, e] (30, ni_sLd 3 0 31) (ni_me85_1 [a, b, c, d, e] _ (List.mem_of_getElem? (i := 1) rfl))) rfl rfl ?_
  refine ni_xSln (ni_ro [a, b, c, d, e] (31, ni_sSln [a, b, c, d, e] 32) (ni_me85_1 [a, b, c, d, e] _ (List.mem_of_getElem? (i := 2) rfl))) rfl ?_
  refine ni_xP (g := ni_gPush (.int 6) 34) (ni_ro [a, b, c, d, e] (32, ni_sP (ni_gPush (.int 6) 34)) (ni_me85_1 [a, b, c, d, e] _ (List.mem_of_getElem? (i := 3) rfl))) rfl ?_
  refine ni_xP (g := ni_gI (fun x y => x - y) 35) (ni_ro [a, b, c, d, e] (34, ni_sP (ni_gI (fun x y => x - y) 35)) (ni_me85_1 [a, b, c, d, e] _ (List.mem_of_getElem? (i := 4) rfl))) rfl ?_
  refine ni_xIc true (ni_ro [a, b, c, d, e] (35, ni_sP (ni_gIc (fun x y => decide (y < x)) 3323 38)) (ni_me85_1 [a, b, c, d, e] _ (List.mem_of_getElem? (i := 5) rfl))) (show decide (Int32.ofNat 5 - 6 < 0) = true from by decide) ?_
  refine ni_xP (g := ni_gPush (.int 1) 3324) (ni_ro [a, b, c, d, e] (3323, ni_sP (ni_gPush (.int 1) 3324)) (ni_me85_52 [a, b, c, d, e] _ (List.mem_of_getElem? (i := 2) rfl))) rfl ?_
  exact ni_xR (ni_ro [a, b, c, d, e] (3324, ni_sR (some .boolean)) (ni_me85_52 [a, b, c, d, e] _ (List.mem_of_getElem? (i := 3) rfl))) rfl
end NSU
