/-! COPIES: PORTS, LINKS, ROUTERS -/
section NCY4
variable {xs : List Int32} {St : Nat → Option ni_C} {sd sr : Nat → Nat} {X : Nat → Nat → Int}
theorem mt_cpPort {q : Nat} (hs : ni_us q = true) (hk : ni_kd q = 5) (hb : 0 ≤ X q 3 ∧ X q 3 ≤ 1 ∧ 0 ≤ X q 8 ∧ X q 8 ≤ 1) (h10 : 0 ≤ X q 10 ∧ X q 10 ≤ 250) (hn : 0 ≤ X (q + 1) 2 ∧ X (q + 1) 2 ≤ 2048) (hL : ∀ i : Nat, (i : Int) < X (q + 1) 2 → 0 ≤ X (q + 1 + 1) i ∧ ∃ c, St (X (q + 1 + 1) i).toNat = some c ∧ c.1 = 1) (hX : nk_src St sd sr X) (B : Nat → Nat → Int) (L : Nat → Nat) : nk_D xs St 4 109 [ni_aP (q), ni_aL (sd (q))] B L (nq_cpy B X (q) (q + 8)) (nq_cpL L X (q) (q + 8)) := by
  have h374 := (ni_usT hs).1
  have hq1 := ni_lnP (ni_lnsC (ni_o5_1 hs hk).1 (ni_o5_1 hs hk).2.1)
  refine nk_in (ls := [ni_aP (q), ni_aL (sd (q))]) (fun _ => Nat.le_of_ble_eq_true rfl) (fun _ _ => rfl) ?_
  refine K_Ld (q := 1) rfl rfl (fun _ _ => rfl) ?_
  refine K_Get (q := 4) (v := ni_aP (q + 1)) rfl hs hk rfl rfl (fun _ _ => rfl) ?_
  refine K_Ld (q := 5) rfl rfl (fun _ _ => rfl) ?_
  refine K_GetX (q := 8) (w := .ref (sd (q + 1))) hX rfl hs hk rfl rfl rfl ?_
  refine K_V (q := 11) rfl rfl rfl (ni_o5_1 hs hk).1 (ni_o5_1 hs hk).2.1 rfl (Nat.le_of_ble_eq_true rfl) (fun _ _ _ => rfl) (nk_Dup (mt_cpLine (ni_o5_1 hs hk).1 (ni_o5_1 hs hk).2.1 hX hn hL _ _) (by decide)) (fun _ _ => rfl) ?_
  refine K_Ld (q := 12) rfl rfl (fun _ _ => rfl) ?_
  refine K_Ld (q := 13) rfl rfl (fun _ _ => rfl) ?_
  refine K_GetX (q := 16) (w := ni_z (X (q) 1)) hX rfl hs hk rfl rfl rfl ?_
  refine K_Put (q := 19) rfl hs hk rfl rfl (fun _ _ _ => rfl) rfl (fun z _ => absurd z (by decide)) ?_
  refine K_Ld (q := 20) rfl rfl (fun _ _ => rfl) ?_
  refine K_Ld (q := 21) rfl rfl (fun _ _ => rfl) ?_
  refine K_GetX (q := 24) (w := ni_z (X (q) 2)) hX rfl hs hk rfl rfl rfl ?_
  refine K_Put (q := 27) rfl hs hk rfl rfl (fun _ _ _ => rfl) rfl (fun z _ => absurd z (by decide)) ?_
  refine K_Ld (q := 28) rfl rfl (fun _ _ => rfl) ?_
  refine K_Ld (q := 29) rfl rfl (fun _ _ => rfl) ?_
  refine K_GetX (q := 32) (w := ni_z (X (q) 3)) hX rfl hs hk rfl rfl rfl ?_
  refine K_Put (q := 35) rfl hs hk rfl rfl (fun _ _ _ => rfl) (ni_fitB (by omega)) (fun z _ => absurd z (by decide)) ?_
  refine K_Ld (q := 36) rfl rfl (fun _ _ => rfl) ?_
  refine K_Ld (q := 37) rfl rfl (fun _ _ => rfl) ?_
  refine K_GetX (q := 40) (w := ni_z (X (q) 4)) hX rfl hs hk rfl rfl rfl ?_
  refine K_Put (q := 43) rfl hs hk rfl rfl (fun _ _ _ => rfl) rfl (fun z _ => absurd z (by decide)) ?_
  refine K_Ld (q := 44) rfl rfl (fun _ _ => rfl) ?_
  refine K_GetX (q := 47) (w := .ref (sd (q + 5))) hX rfl hs hk rfl rfl rfl ?_
  refine K_push (q := 48) (c := 0) (z := 0) rfl rfl ?_
  refine K_Ld (q := 49) rfl rfl (fun _ _ => rfl) ?_
  refine K_Get (q := 52) (v := ni_aP (q + 5)) rfl hs hk rfl rfl (fun _ _ => rfl) ?_
  refine K_push (q := 53) (c := 0) (z := 0) rfl rfl ?_
  refine K_push (q := 54) (c := 4) (z := 4) rfl rfl ?_
  refine K_CopyX (q := 57) (k := 4) hX rfl (ni_o5_5 hs hk).1 (ni_o5_5 hs hk).2.1 (ni_o5_5 hs hk).2.2.1 (by decide) rfl (by omega) (ni_o5_5 hs hk).1 (ni_o5_5 hs hk).2.1 ⟨Nat.le_of_eq (ni_o5_5 hs hk).2.2.1.symm, by rw [ni_live9 (ni_o5_5 hs hk).2.2.2]; omega, nk_lrF (ni_o5_5 hs hk).2.2.1 (by omega)⟩ (Nat.le_of_ble_eq_true rfl) ?_
  refine K_Ld (q := 58) rfl rfl (fun _ _ => rfl) ?_
  refine K_GetX (q := 61) (w := .ref (sd (q + 6))) hX rfl hs hk rfl rfl rfl ?_
  refine K_push (q := 62) (c := 0) (z := 0) rfl rfl ?_
  refine K_Ld (q := 63) rfl rfl (fun _ _ => rfl) ?_
  refine K_Get (q := 66) (v := ni_aP (q + 6)) rfl hs hk rfl rfl (fun _ _ => rfl) ?_
  refine K_push (q := 67) (c := 0) (z := 0) rfl rfl ?_
  refine K_push (q := 68) (c := 4) (z := 4) rfl rfl ?_
  refine K_CopyX (q := 71) (k := 4) hX rfl (ni_o5_6 hs hk).1 (ni_o5_6 hs hk).2.1 (ni_o5_6 hs hk).2.2.1 (by decide) rfl (by omega) (ni_o5_6 hs hk).1 (ni_o5_6 hs hk).2.1 ⟨Nat.le_of_eq (ni_o5_6 hs hk).2.2.1.symm, by rw [ni_live9 (ni_o5_6 hs hk).2.2.2]; omega, nk_lrF (ni_o5_6 hs hk).2.2.1 (by omega)⟩ (Nat.le_of_ble_eq_true rfl) ?_
  refine K_Ld (q := 72) rfl rfl (fun _ _ => rfl) ?_
  refine K_Ld (q := 73) rfl rfl (fun _ _ => rfl) ?_
  refine K_GetX (q := 76) (w := ni_z (X (q) 7)) hX rfl hs hk rfl rfl rfl ?_
  refine K_Put (q := 79) rfl hs hk rfl rfl (fun _ _ _ => rfl) rfl (fun z _ => absurd z (by decide)) ?_
  refine K_Ld (q := 80) rfl rfl (fun _ _ => rfl) ?_
  refine K_Ld (q := 81) rfl rfl (fun _ _ => rfl) ?_
  refine K_GetX (q := 84) (w := ni_z (X (q) 8)) hX rfl hs hk rfl rfl rfl ?_
  refine K_Put (q := 87) rfl hs hk rfl rfl (fun _ _ _ => rfl) (ni_fitB (by omega)) (fun z _ => absurd z (by decide)) ?_
  refine K_Ld (q := 88) rfl rfl (fun _ _ => rfl) ?_
  refine K_Ld (q := 89) rfl rfl (fun _ _ => rfl) ?_
  refine K_GetX (q := 92) (w := ni_z (X (q) 10)) hX rfl hs hk rfl rfl rfl ?_
  refine K_Put (q := 95) rfl hs hk rfl rfl (fun _ _ _ => rfl) rfl (fun z _ => absurd z (by decide)) ?_
  refine K_Ld (q := 96) rfl rfl (fun _ _ => rfl) ?_
  refine K_GetX (q := 99) (w := .ref (sd (q + 7))) hX rfl hs hk rfl rfl rfl ?_
  refine K_push (q := 100) (c := 0) (z := 0) rfl rfl ?_
  refine K_Ld (q := 101) rfl rfl (fun _ _ => rfl) ?_
  refine K_Get (q := 104) (v := ni_aP (q + 7)) rfl hs hk rfl rfl (fun _ _ => rfl) ?_
  refine K_push (q := 105) (c := 0) (z := 0) rfl rfl ?_
  refine K_Ld (q := 106) rfl rfl (fun _ _ => rfl) ?_
  refine K_GetI (q := 109) (e := X (q) 10) rfl hs hk rfl rfl (fun _ _ => congrArg ni_z (ni_u2e)) ?_
  refine K_CopyX (q := 112) (k := (X q 10).toNat) hX rfl (ni_o5_7 hs hk).1 (ni_o5_7 hs hk).2.1 (ni_o5_7 hs hk).2.2.1 (by decide) (by omega) (by omega) (ni_o5_7 hs hk).1 (ni_o5_7 hs hk).2.1 ⟨by rw [(ni_o5_7 hs hk).2.2.1]; omega, by rw [ni_liveC (ni_o5_7 hs hk).2.2.2 (by omega)]; exact Nat.le_refl _, nk_lrF (ni_o5_7 hs hk).2.2.1 (by omega)⟩ (Nat.le_of_ble_eq_true rfl) ?_
  refine K_Ld (q := 113) rfl rfl (fun _ _ => rfl) ?_
  refine K_Ld (q := 114) rfl rfl (fun _ _ => rfl) ?_
  refine K_GetX (q := 117) (w := ni_z (X (q) 11)) hX rfl hs hk rfl rfl rfl ?_
  refine K_Put (q := 120) rfl hs hk rfl rfl (fun _ _ _ => rfl) rfl (fun z _ => absurd z (by decide)) ?_
  refine K_Ld (q := 121) rfl rfl (fun _ _ => rfl) ?_
  refine K_Ld (q := 122) rfl rfl (fun _ _ => rfl) ?_
  refine K_GetX (q := 125) (w := ni_z (X (q) 12)) hX rfl hs hk rfl rfl rfl ?_
  refine K_Put (q := 128) rfl hs hk rfl rfl (fun _ _ _ => rfl) rfl (fun z _ => absurd z (by decide)) ?_
  refine K_Ld (q := 129) rfl rfl (fun _ _ => rfl) ?_
  refine K_Ld (q := 130) rfl rfl (fun _ _ => rfl) ?_
  refine K_GetX (q := 133) (w := ni_z (X (q) 13)) hX rfl hs hk rfl rfl rfl ?_
  refine K_Put (q := 136) rfl hs hk rfl rfl (fun _ _ _ => rfl) rfl (fun z _ => absurd z (by decide)) ?_
  refine K_Rv rfl rfl ?_
  intro M ad rw cp hR
  refine nk_cg hR (fun s h0 j hj hjL => ?_) (fun p hp => ?_) (fun s h0 h9 => ?_)
  · unfold nq_cpL at hjL
    unfold nq_cpy
    by_cases hr : q ≤ s ∧ s < q + 8
    · rw [if_pos hr] at hjL ⊢
      rcases (show s = q ∨ (q + 1 ≤ s ∧ s < q + 5) ∨ s = q + 5 ∨ s = q + 6 ∨ s = q + 7 by omega) with r | r | r | r | r
      · subst r
        have hjn : j < 14 := by
          have := hR.2.2.1.1 _ h0 (ni_objS h0 hk rfl).2.1
          rw [(ni_objS h0 hk rfl).1] at this
          have e : ni_lk 5 = 14 := rfl
          omega
        refine ⟨?_, fun hn => ?_⟩
        · have := hR.2.2.2.2.2.2.2 _ h0 (ni_objS h0 hk rfl).2.2
          omega
        · rw [hk] at hn
          rcases (show j = 0 ∨ j = 1 ∨ j = 2 ∨ j = 3 ∨ j = 4 ∨ j = 5 ∨ j = 6 ∨ j = 7 ∨ j = 8 ∨ j = 9 ∨ j = 10 ∨ j = 11 ∨ j = 12 ∨ j = 13 by omega) with r | r | r | r | r | r | r | r | r | r | r | r | r | r <;> subst r <;> first | (cases hn; done) | (simp only [ni_u2, nk_cp, nq_cpy, and_self, true_and, and_true, reduceIte, false_and, and_false]; repeat (first | rw [if_pos (by omega)] | rw [if_neg (by omega)]))
      · refine ⟨?_, fun _ => by (simp only [ni_u2, nk_cp, nq_cpy, and_self, true_and, and_true, reduceIte, false_and, and_false]; repeat (first | rw [if_pos (by omega)] | rw [if_neg (by omega)]))⟩
        simp only [nk_u1, nq_cpL]
        repeat (first | rw [if_pos (by omega)] | rw [if_neg (by omega)])
        exact hjL
      · subst r
        have := ni_cpL hR.2.2.1 h0 (ni_o5_5 hs hk).2.2.1 (by omega)
        refine ⟨?_, fun _ => by (simp only [ni_u2, nk_cp, nq_cpy, and_self, true_and, and_true, reduceIte, false_and, and_false]; repeat (first | rw [if_pos (by omega)] | rw [if_neg (by omega)]))⟩
        have := hR.2.2.2.2.2.2.2 _ h0 (ni_o5_5 hs hk).2.2.2
        omega
      · subst r
        have := ni_cpL hR.2.2.1 h0 (ni_o5_6 hs hk).2.2.1 (by omega)
        refine ⟨?_, fun _ => by (simp only [ni_u2, nk_cp, nq_cpy, and_self, true_and, and_true, reduceIte, false_and, and_false]; repeat (first | rw [if_pos (by omega)] | rw [if_neg (by omega)]))⟩
        have := hR.2.2.2.2.2.2.2 _ h0 (ni_o5_6 hs hk).2.2.2
        omega
      · subst r
        rw [ni_liveC (ni_o5_7 hs hk).2.2.2 (by omega)] at hjL
        refine ⟨?_, fun _ => by (simp only [ni_u2, nk_cp, nq_cpy, and_self, true_and, and_true, reduceIte, false_and, and_false]; repeat (first | rw [if_pos (by omega)] | rw [if_neg (by omega)]))⟩
        simp only [nk_u1, nq_cpL, reduceIte]
        repeat (first | rw [if_pos (by omega)] | rw [if_neg (by omega)])
        omega
    · rw [if_neg hr] at hjL ⊢
      refine ⟨?_, fun _ => by (simp only [ni_u2, nk_cp, nq_cpy, and_self, true_and, and_true, reduceIte, false_and, and_false]; repeat (first | rw [if_pos (by omega)] | rw [if_neg (by omega)]))⟩
      simp only [nk_u1, nq_cpL]
      repeat rw [if_neg (by omega)]
      exact hjL
  · have hp2 := ni_lnP hp
    refine Int.le_trans (Int.le_of_eq ?_) (hR.2.2.2.1 p hp)
    unfold nq_cpy
    by_cases hrp : q ≤ p ∧ p < q + 8
    · have hqp : p = q + 1 := by omega
      subst hqp
      rw [if_pos (by omega)]
      simp only [ni_u2, nk_cp, nq_cpy, and_self, true_and, and_true, reduceIte, false_and, and_false]
      repeat (first | rw [if_pos (by omega)] | rw [if_neg (by omega)])
    · rw [if_neg hrp]
      simp only [ni_u2, nk_cp, nq_cpy, and_self, true_and, and_true, reduceIte, false_and, and_false]
      repeat rw [if_neg (by omega)]
  · unfold nq_cpL
    have := hR.2.2.2.2.2.2.2 s h0 h9
    by_cases hr : q ≤ s ∧ s < q + 8
    · rw [if_pos hr, ni_live9 h9]
      exact Nat.le_refl _
    · rw [if_neg hr]
      simp only [nk_u1, nq_cpL] at this
      repeat rw [if_neg (by omega)] at this
      exact this
end NCY4
