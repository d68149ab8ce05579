/-! COPIES: LISTS, TABLES, ROUTERS -/
section NCY2
variable {xs : List Int32} {St : Nat → Option ni_C} {sd sr : Nat → Nat} {X : Nat → Nat → Int}
theorem mt_cpL {q : Nat} (hs : ni_us q = true) (hk : ni_kd q = 6) (hq : q + 4 ≤ 48 ∨ 286 ≤ q) (hn : 0 ≤ X q 3 ∧ X q 3 ≤ 24) (hX : nk_src St sd sr X) (B : Nat → Nat → Int) (L : Nat → Nat) : nk_D xs St 1 128 [ni_aP (q), ni_aL (sd (q))] B L (nq_cpy B X (q) (q + 4)) (nq_cpL L X (q) (q + 4)) := by
  have h374 := (ni_usT hs).1
  refine nk_in (ls := [ni_aP (q), ni_aL (sd (q))]) (fun _ => Nat.le_of_ble_eq_true rfl) (fun _ _ => rfl) ?_
  refine K_Ld (q := 1) rfl rfl (fun _ _ => rfl) ?_
  refine K_Ld (q := 2) rfl rfl (fun _ _ => rfl) ?_
  refine K_GetX (q := 5) (w := ni_z (X (q) 3)) hX rfl hs hk rfl rfl rfl ?_
  refine K_Put (q := 8) rfl hs hk rfl rfl (fun _ _ _ => rfl) rfl (fun z _ => absurd z (by decide)) ?_
  refine K_Ld (q := 9) rfl rfl (fun _ _ => rfl) ?_
  refine K_GetX (q := 12) (w := .ref (sd (q + 1))) hX rfl hs hk rfl rfl rfl ?_
  refine K_push (q := 13) (c := 0) (z := 0) rfl rfl ?_
  refine K_Ld (q := 14) rfl rfl (fun _ _ => rfl) ?_
  refine K_Get (q := 17) (v := ni_aP (q + 1)) rfl hs hk rfl rfl (fun _ _ => rfl) ?_
  refine K_push (q := 18) (c := 0) (z := 0) rfl rfl ?_
  refine K_Ld (q := 19) rfl rfl (fun _ _ => rfl) ?_
  refine K_GetI (q := 22) (e := X (q) 3) rfl hs hk rfl rfl (fun _ _ => congrArg ni_z (ni_u2e)) ?_
  refine K_CopyX (q := 25) (k := (X q 3).toNat) hX rfl (ni_o6_1 hs hk).1 (ni_o6_1 hs hk).2.1 (ni_o6_1 hs hk).2.2.1 (by decide) (by omega) (by omega) (ni_o6_1 hs hk).1 (ni_o6_1 hs hk).2.1 ⟨by rw [(ni_o6_1 hs hk).2.2.1]; omega, by rw [ni_liveC (ni_o6_1 hs hk).2.2.2 (by omega)]; exact Nat.le_refl _, nk_lrF (ni_o6_1 hs hk).2.2.1 (by omega)⟩ (Nat.le_of_ble_eq_true rfl) ?_
  refine K_Ld (q := 26) rfl rfl (fun _ _ => rfl) ?_
  refine K_GetX (q := 29) (w := .ref (sd (q + 2))) hX rfl hs hk rfl rfl rfl ?_
  refine K_push (q := 30) (c := 0) (z := 0) rfl rfl ?_
  refine K_Ld (q := 31) rfl rfl (fun _ _ => rfl) ?_
  refine K_Get (q := 34) (v := ni_aP (q + 2)) rfl hs hk rfl rfl (fun _ _ => rfl) ?_
  refine K_push (q := 35) (c := 0) (z := 0) rfl rfl ?_
  refine K_Ld (q := 36) rfl rfl (fun _ _ => rfl) ?_
  refine K_GetI (q := 39) (e := X (q) 3) rfl hs hk rfl rfl (fun _ _ => congrArg ni_z ((nk_cpn (by omega)).trans (ni_u2e))) ?_
  refine K_CopyX (q := 42) (k := (X q 3).toNat) hX rfl (ni_o6_2 hs hk).1 (ni_o6_2 hs hk).2.1 (ni_o6_2 hs hk).2.2.1 (by decide) (by omega) (by omega) (ni_o6_2 hs hk).1 (ni_o6_2 hs hk).2.1 ⟨by rw [(ni_o6_2 hs hk).2.2.1]; omega, by rw [ni_liveC (ni_o6_2 hs hk).2.2.2 (by omega)]; exact Nat.le_refl _, nk_lrF (ni_o6_2 hs hk).2.2.1 (by omega)⟩ (Nat.le_of_ble_eq_true rfl) ?_
  refine K_Ld (q := 43) rfl rfl (fun _ _ => rfl) ?_
  refine K_GetX (q := 46) (w := .ref (sd (q + 3))) hX rfl hs hk rfl rfl rfl ?_
  refine K_push (q := 47) (c := 0) (z := 0) rfl rfl ?_
  refine K_Ld (q := 48) rfl rfl (fun _ _ => rfl) ?_
  refine K_Get (q := 51) (v := ni_aP (q + 3)) rfl hs hk rfl rfl (fun _ _ => rfl) ?_
  refine K_push (q := 52) (c := 0) (z := 0) rfl rfl ?_
  refine K_Ld (q := 53) rfl rfl (fun _ _ => rfl) ?_
  refine K_GetI (q := 56) (e := X (q) 3) rfl hs hk rfl rfl (fun _ _ => congrArg ni_z ((nk_cpn (by omega)).trans ((nk_cpn (by omega)).trans (ni_u2e)))) ?_
  refine K_CopyX (q := 59) (k := (X q 3).toNat) hX rfl (ni_o6_3 hs hk).1 (ni_o6_3 hs hk).2.1 (ni_o6_3 hs hk).2.2.1 (by decide) (by omega) (by omega) (ni_o6_3 hs hk).1 (ni_o6_3 hs hk).2.1 ⟨by rw [(ni_o6_3 hs hk).2.2.1]; omega, by rw [ni_liveC (ni_o6_3 hs hk).2.2.2 (by omega)]; exact Nat.le_refl _, nk_lrF (ni_o6_3 hs hk).2.2.1 (by omega)⟩ (Nat.le_of_ble_eq_true rfl) ?_
  refine K_Rv rfl rfl ?_
  intro M ad rw cp hR
  refine nk_cg hR (fun s h0 j hj hjL => ?_) (fun p hp => ?_) (fun s h0 h9 => ?_)
  · unfold nq_cpL at hjL
    unfold nq_cpy
    by_cases hr : q ≤ s ∧ s < q + 4
    · rw [if_pos hr] at hjL ⊢
      rcases (show s = q ∨ s = q + 1 ∨ s = q + 2 ∨ s = q + 3 by omega) with r | r | r | r
      · subst r
        have hjn : j < 4 := by
          have := hR.2.2.1.1 _ h0 (ni_objS h0 hk rfl).2.1
          rw [(ni_objS h0 hk rfl).1] at this
          have e : ni_lk 6 = 4 := rfl
          omega
        refine ⟨?_, fun hn => ?_⟩
        · have := hR.2.2.2.2.2.2.2 _ h0 (ni_objS h0 hk rfl).2.2
          omega
        · rw [hk] at hn
          rcases (show j = 0 ∨ j = 1 ∨ j = 2 ∨ j = 3 by omega) with r | r | r | r <;> subst r <;> first | (cases hn; done) | (simp only [ni_u2, nk_cp, nq_cpy, and_self, true_and, and_true, reduceIte, false_and, and_false]; repeat (first | rw [if_pos (by omega)] | rw [if_neg (by omega)]))
      · subst r
        rw [ni_liveC (ni_o6_1 hs hk).2.2.2 (by omega)] at hjL
        refine ⟨?_, fun _ => by (simp only [ni_u2, nk_cp, nq_cpy, and_self, true_and, and_true, reduceIte, false_and, and_false]; repeat (first | rw [if_pos (by omega)] | rw [if_neg (by omega)]))⟩
        simp only [nk_u1, nq_cpL, reduceIte]
        repeat (first | rw [if_pos (by omega)] | rw [if_neg (by omega)])
        omega
      · subst r
        rw [ni_liveC (ni_o6_2 hs hk).2.2.2 (by omega)] at hjL
        refine ⟨?_, fun _ => by (simp only [ni_u2, nk_cp, nq_cpy, and_self, true_and, and_true, reduceIte, false_and, and_false]; repeat (first | rw [if_pos (by omega)] | rw [if_neg (by omega)]))⟩
        simp only [nk_u1, nq_cpL, reduceIte]
        repeat (first | rw [if_pos (by omega)] | rw [if_neg (by omega)])
        omega
      · subst r
        rw [ni_liveC (ni_o6_3 hs hk).2.2.2 (by omega)] at hjL
        refine ⟨?_, fun _ => by (simp only [ni_u2, nk_cp, nq_cpy, and_self, true_and, and_true, reduceIte, false_and, and_false]; repeat (first | rw [if_pos (by omega)] | rw [if_neg (by omega)]))⟩
        simp only [nk_u1, nq_cpL, reduceIte]
        repeat (first | rw [if_pos (by omega)] | rw [if_neg (by omega)])
        omega
    · rw [if_neg hr] at hjL ⊢
      refine ⟨?_, fun _ => by (simp only [ni_u2, nk_cp, nq_cpy, and_self, true_and, and_true, reduceIte, false_and, and_false]; repeat (first | rw [if_pos (by omega)] | rw [if_neg (by omega)]))⟩
      simp only [nk_u1, nq_cpL]
      repeat rw [if_neg (by omega)]
      exact hjL
  · have hp2 := ni_lnP hp
    have := hR.2.2.2.1 p hp
    unfold nq_cpy
    rw [if_neg (by omega)]
    simp only [ni_u2, nk_cp, nq_cpy] at this
    repeat rw [if_neg (by omega)] at this
    exact this
  · unfold nq_cpL
    have := hR.2.2.2.2.2.2.2 s h0 h9
    by_cases hr : q ≤ s ∧ s < q + 4
    · rw [if_pos hr, ni_live9 h9]
      exact Nat.le_refl _
    · rw [if_neg hr]
      simp only [nk_u1, nq_cpL] at this
      repeat rw [if_neg (by omega)] at this
      exact this
theorem mt_cpT {q : Nat} (hs : ni_us q = true) (hk : ni_kd q = 8) (hq : q + 4 ≤ 48 ∨ 286 ≤ q) (hn : 0 ≤ X q 3 ∧ X q 3 ≤ 216) (hX : nk_src St sd sr X) (B : Nat → Nat → Int) (L : Nat → Nat) : nk_D xs St 1 143 [ni_aP (q), ni_aL (sd (q))] B L (nq_cpy B X (q) (q + 4)) (nq_cpL L X (q) (q + 4)) := by
  have h374 := (ni_usT hs).1
  refine nk_in (ls := [ni_aP (q), ni_aL (sd (q))]) (fun _ => Nat.le_of_ble_eq_true rfl) (fun _ _ => rfl) ?_
  refine K_Ld (q := 1) rfl rfl (fun _ _ => rfl) ?_
  refine K_Ld (q := 2) rfl rfl (fun _ _ => rfl) ?_
  refine K_GetX (q := 5) (w := ni_z (X (q) 3)) hX rfl hs hk rfl rfl rfl ?_
  refine K_Put (q := 8) rfl hs hk rfl rfl (fun _ _ _ => rfl) rfl (fun z _ => absurd z (by decide)) ?_
  refine K_Ld (q := 9) rfl rfl (fun _ _ => rfl) ?_
  refine K_GetX (q := 12) (w := .ref (sd (q + 1))) hX rfl hs hk rfl rfl rfl ?_
  refine K_push (q := 13) (c := 0) (z := 0) rfl rfl ?_
  refine K_Ld (q := 14) rfl rfl (fun _ _ => rfl) ?_
  refine K_Get (q := 17) (v := ni_aP (q + 1)) rfl hs hk rfl rfl (fun _ _ => rfl) ?_
  refine K_push (q := 18) (c := 0) (z := 0) rfl rfl ?_
  refine K_Ld (q := 19) rfl rfl (fun _ _ => rfl) ?_
  refine K_GetI (q := 22) (e := X (q) 3) rfl hs hk rfl rfl (fun _ _ => congrArg ni_z (ni_u2e)) ?_
  refine K_CopyX (q := 25) (k := (X q 3).toNat) hX rfl (ni_o8_1 hs hk).1 (ni_o8_1 hs hk).2.1 (ni_o8_1 hs hk).2.2.1 (by decide) (by omega) (by omega) (ni_o8_1 hs hk).1 (ni_o8_1 hs hk).2.1 ⟨by rw [(ni_o8_1 hs hk).2.2.1]; omega, by rw [ni_liveC (ni_o8_1 hs hk).2.2.2 (by omega)]; exact Nat.le_refl _, nk_lrF (ni_o8_1 hs hk).2.2.1 (by omega)⟩ (Nat.le_of_ble_eq_true rfl) ?_
  refine K_Ld (q := 26) rfl rfl (fun _ _ => rfl) ?_
  refine K_GetX (q := 29) (w := .ref (sd (q + 2))) hX rfl hs hk rfl rfl rfl ?_
  refine K_push (q := 30) (c := 0) (z := 0) rfl rfl ?_
  refine K_Ld (q := 31) rfl rfl (fun _ _ => rfl) ?_
  refine K_Get (q := 34) (v := ni_aP (q + 2)) rfl hs hk rfl rfl (fun _ _ => rfl) ?_
  refine K_push (q := 35) (c := 0) (z := 0) rfl rfl ?_
  refine K_Ld (q := 36) rfl rfl (fun _ _ => rfl) ?_
  refine K_GetI (q := 39) (e := X (q) 3) rfl hs hk rfl rfl (fun _ _ => congrArg ni_z ((nk_cpn (by omega)).trans (ni_u2e))) ?_
  refine K_CopyX (q := 42) (k := (X q 3).toNat) hX rfl (ni_o8_2 hs hk).1 (ni_o8_2 hs hk).2.1 (ni_o8_2 hs hk).2.2.1 (by decide) (by omega) (by omega) (ni_o8_2 hs hk).1 (ni_o8_2 hs hk).2.1 ⟨by rw [(ni_o8_2 hs hk).2.2.1]; omega, by rw [ni_liveC (ni_o8_2 hs hk).2.2.2 (by omega)]; exact Nat.le_refl _, nk_lrF (ni_o8_2 hs hk).2.2.1 (by omega)⟩ (Nat.le_of_ble_eq_true rfl) ?_
  refine K_Ld (q := 43) rfl rfl (fun _ _ => rfl) ?_
  refine K_GetX (q := 46) (w := .ref (sd (q + 3))) hX rfl hs hk rfl rfl rfl ?_
  refine K_push (q := 47) (c := 0) (z := 0) rfl rfl ?_
  refine K_Ld (q := 48) rfl rfl (fun _ _ => rfl) ?_
  refine K_Get (q := 51) (v := ni_aP (q + 3)) rfl hs hk rfl rfl (fun _ _ => rfl) ?_
  refine K_push (q := 52) (c := 0) (z := 0) rfl rfl ?_
  refine K_Ld (q := 53) rfl rfl (fun _ _ => rfl) ?_
  refine K_GetI (q := 56) (e := X (q) 3) rfl hs hk rfl rfl (fun _ _ => congrArg ni_z ((nk_cpn (by omega)).trans ((nk_cpn (by omega)).trans (ni_u2e)))) ?_
  refine K_CopyX (q := 59) (k := (X q 3).toNat) hX rfl (ni_o8_3 hs hk).1 (ni_o8_3 hs hk).2.1 (ni_o8_3 hs hk).2.2.1 (by decide) (by omega) (by omega) (ni_o8_3 hs hk).1 (ni_o8_3 hs hk).2.1 ⟨by rw [(ni_o8_3 hs hk).2.2.1]; omega, by rw [ni_liveC (ni_o8_3 hs hk).2.2.2 (by omega)]; exact Nat.le_refl _, nk_lrF (ni_o8_3 hs hk).2.2.1 (by omega)⟩ (Nat.le_of_ble_eq_true rfl) ?_
  refine K_Rv rfl rfl ?_
  intro M ad rw cp hR
  refine nk_cg hR (fun s h0 j hj hjL => ?_) (fun p hp => ?_) (fun s h0 h9 => ?_)
  · unfold nq_cpL at hjL
    unfold nq_cpy
    by_cases hr : q ≤ s ∧ s < q + 4
    · rw [if_pos hr] at hjL ⊢
      rcases (show s = q ∨ s = q + 1 ∨ s = q + 2 ∨ s = q + 3 by omega) with r | r | r | r
      · subst r
        have hjn : j < 4 := by
          have := hR.2.2.1.1 _ h0 (ni_objS h0 hk rfl).2.1
          rw [(ni_objS h0 hk rfl).1] at this
          have e : ni_lk 8 = 4 := rfl
          omega
        refine ⟨?_, fun hn => ?_⟩
        · have := hR.2.2.2.2.2.2.2 _ h0 (ni_objS h0 hk rfl).2.2
          omega
        · rw [hk] at hn
          rcases (show j = 0 ∨ j = 1 ∨ j = 2 ∨ j = 3 by omega) with r | r | r | r <;> subst r <;> first | (cases hn; done) | (simp only [ni_u2, nk_cp, nq_cpy, and_self, true_and, and_true, reduceIte, false_and, and_false]; repeat (first | rw [if_pos (by omega)] | rw [if_neg (by omega)]))
      · subst r
        rw [ni_liveC (ni_o8_1 hs hk).2.2.2 (by omega)] at hjL
        refine ⟨?_, fun _ => by (simp only [ni_u2, nk_cp, nq_cpy, and_self, true_and, and_true, reduceIte, false_and, and_false]; repeat (first | rw [if_pos (by omega)] | rw [if_neg (by omega)]))⟩
        simp only [nk_u1, nq_cpL, reduceIte]
        repeat (first | rw [if_pos (by omega)] | rw [if_neg (by omega)])
        omega
      · subst r
        rw [ni_liveC (ni_o8_2 hs hk).2.2.2 (by omega)] at hjL
        refine ⟨?_, fun _ => by (simp only [ni_u2, nk_cp, nq_cpy, and_self, true_and, and_true, reduceIte, false_and, and_false]; repeat (first | rw [if_pos (by omega)] | rw [if_neg (by omega)]))⟩
        simp only [nk_u1, nq_cpL, reduceIte]
        repeat (first | rw [if_pos (by omega)] | rw [if_neg (by omega)])
        omega
      · subst r
        rw [ni_liveC (ni_o8_3 hs hk).2.2.2 (by omega)] at hjL
        refine ⟨?_, fun _ => by (simp only [ni_u2, nk_cp, nq_cpy, and_self, true_and, and_true, reduceIte, false_and, and_false]; repeat (first | rw [if_pos (by omega)] | rw [if_neg (by omega)]))⟩
        simp only [nk_u1, nq_cpL, reduceIte]
        repeat (first | rw [if_pos (by omega)] | rw [if_neg (by omega)])
        omega
    · rw [if_neg hr] at hjL ⊢
      refine ⟨?_, fun _ => by (simp only [ni_u2, nk_cp, nq_cpy, and_self, true_and, and_true, reduceIte, false_and, and_false]; repeat (first | rw [if_pos (by omega)] | rw [if_neg (by omega)]))⟩
      simp only [nk_u1, nq_cpL]
      repeat rw [if_neg (by omega)]
      exact hjL
  · have hp2 := ni_lnP hp
    have := hR.2.2.2.1 p hp
    unfold nq_cpy
    rw [if_neg (by omega)]
    simp only [ni_u2, nk_cp, nq_cpy] at this
    repeat rw [if_neg (by omega)] at this
    exact this
  · unfold nq_cpL
    have := hR.2.2.2.2.2.2.2 s h0 h9
    by_cases hr : q ≤ s ∧ s < q + 4
    · rw [if_pos hr, ni_live9 h9]
      exact Nat.le_refl _
    · rw [if_neg hr]
      simp only [nk_u1, nq_cpL] at this
      repeat rw [if_neg (by omega)] at this
      exact this
end NCY2
