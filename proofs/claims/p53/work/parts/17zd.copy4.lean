/-! COPIES: PORTS, LINKS, ROUTERS -/
section NCY4
variable {xs : List Int32} {St : Nat → Option ni_C} {sd sr : Nat → Nat} {X : Nat → Nat → Int}
theorem mt_cpPort {q : Nat} (hs : ni_us q = true) (hk : ni_kd q = 5) (hb : 0 ≤ X q 3 ∧ X q 3 ≤ 1 ∧ 0 ≤ X q 8 ∧ X q 8 ≤ 1) (h10 : 0 ≤ X q 10 ∧ X q 10 ≤ 250) (hn : 0 ≤ X (q + 1) 2 ∧ X (q + 1) 2 ≤ 2048) (hL : ∀ i : Nat, (i : Int) < X (q + 1) 2 → 0 ≤ X (q + 1 + 1) i ∧ ∃ c, St (X (q + 1 + 1) i).toNat = some c ∧ c.1 = 1) (hX : nk_src St sd sr X) (B : Nat → Nat → Int) (L : Nat → Nat) : nk_D xs St 4 109 [ni_aP (q), ni_aL (sd (q))] B L (nq_cpy B X (q) (q + 8)) (nq_cpL L X (q) (q + 8)) := by
  have h374 := (ni_usT hs).1
  have hq1 := ni_lnP (ni_lnsC (ni_o5_1 hs hk).1 (ni_o5_1 hs hk).2.1)
  refine nk_in (ls := [ni_aP (q), ni_aL (sd (q))]) (fun _ => Nat.le_of_ble_eq_true rfl) (fun _ _ => rfl) ?_
  refine K_Ld (q := 1) rfl rfl (fun _ _ => rfl) ?_
  refine K_Get (q := 4) (v := ni_aP (q + 1)) rfl hs hk rfl rfl (fun _ _ => rfl) ?_
  refine K_Ld (q := 5) rfl rfl (fun _ _ => rfl) ?_
  refine K_GetX (q := 8) (w := .ref (sd (q + 1))) hX rfl hs hk rfl rfl rfl ?_
  refine K_V (q := 11) rfl rfl rfl (ni_o5_1 hs hk).1 (ni_o5_1 hs hk).2.1 rfl (Nat.le_of_ble_eq_true rfl) (fun _ _ _ => rfl) (nk_Dup (mt_cpLine (ni_o5_1 hs hk).1 (ni_o5_1 hs hk).2.1 hX hn hL _ _) (by decide)) (fun _ _ => rfl) ?_
  refine K_Ld (q := 12) rfl rfl (fun _ _ => rfl) ?_
  refine K_Ld (q := 13) rfl rfl (fun _ _ => rfl) ?_
  refine K_GetX (q := 16) (w := ni_z (X (q) 1)) hX rfl hs hk rfl rfl rfl ?_
  refine K_Put (q := 19) rfl hs hk rfl rfl (fun _ _ _ => rfl) rfl (fun z _ => absurd z (by decide)) ?_
  refine K_Ld (q := 20) rfl rfl (fun _ _ => rfl) ?_
  refine K_Ld (q := 21) rfl rfl (fun _ _ => rfl) ?_
  refine K_GetX (q := 24) (w := ni_z (X (q) 2)) hX rfl hs hk rfl rfl rfl ?_
  refine K_Put (q := 27) rfl hs hk rfl rfl (fun _ _ _ => rfl) rfl (fun z _ => absurd z (by decide)) ?_
  refine K_Ld (q := 28) rfl rfl (fun _ _ => rfl) ?_
  refine K_Ld (q := 29) rfl rfl (fun _ _ => rfl) ?_
  refine K_GetX (q := 32) (w := ni_z (X (q) 3)) hX rfl hs hk rfl rfl rfl ?_
  refine K_Put (q := 35) rfl hs hk rfl rfl (fun _ _ _ => rfl) (ni_fitB (by omega)) (fun z _ => absurd z (by decide)) ?_
  refine K_Ld (q := 36) rfl rfl (fun _ _ => rfl) ?_
  refine K_Ld (q := 37) rfl rfl (fun _ _ => rfl) ?_
  refine K_GetX (q := 40) (w := ni_z (X (q) 4)) hX rfl hs hk rfl rfl rfl ?_
  refine K_Put (q := 43) rfl hs hk rfl rfl (fun _ _ _ => rfl) rfl (fun z _ => absurd z (by decide)) ?_
  refine K_Ld (q := 44) rfl rfl (fun _ _ => rfl) ?_
  refine K_GetX (q := 47) (w := .ref (sd (q + 5))) hX rfl hs hk rfl rfl rfl ?_
  refine K_push (q := 48) (c := 0) (z := 0) rfl rfl ?_
  refine K_Ld (q := 49) rfl rfl (fun _ _ => rfl) ?_
  refine K_Get (q := 52) (v := ni_aP (q + 5)) rfl hs hk rfl rfl (fun _ _ => rfl) ?_
  refine K_push (q := 53) (c := 0) (z := 0) rfl rfl ?_
  refine K_push (q := 54) (c := 4) (z := 4) rfl rfl ?_
  refine K_CopyX (q := 57) (k := 4) hX rfl (ni_o5_5 hs hk).1 (ni_o5_5 hs hk).2.1 (ni_o5_5 hs hk).2.2.1 (by decide) rfl (by omega) (ni_o5_5 hs hk).1 (ni_o5_5 hs hk).2.1 ⟨Nat.le_of_eq (ni_o5_5 hs hk).2.2.1.symm, by rw [ni_live9 (ni_o5_5 hs hk).2.2.2]; omega, nk_lrF (ni_o5_5 hs hk).2.2.1 (by omega)⟩ (Nat.le_of_ble_eq_true rfl) ?_
  refine K_Ld (q := 58) rfl rfl (fun _ _ => rfl) ?_
  refine K_GetX (q := 61) (w := .ref (sd (q + 6))) hX rfl hs hk rfl rfl rfl ?_
  refine K_push (q := 62) (c := 0) (z := 0) rfl rfl ?_
  refine K_Ld (q := 63) rfl rfl (fun _ _ => rfl) ?_
  refine K_Get (q := 66) (v := ni_aP (q + 6)) rfl hs hk rfl rfl (fun _ _ => rfl) ?_
  refine K_push (q := 67) (c := 0) (z := 0) rfl rfl ?_
  refine K_push (q := 68) (c := 4) (z := 4) rfl rfl ?_
  refine K_CopyX (q := 71) (k := 4) hX rfl (ni_o5_6 hs hk).1 (ni_o5_6 hs hk).2.1 (ni_o5_6 hs hk).2.2.1 (by decide) rfl (by omega) (ni_o5_6 hs hk).1 (ni_o5_6 hs hk).2.1 ⟨Nat.le_of_eq (ni_o5_6 hs hk).2.2.1.symm, by rw [ni_live9 (ni_o5_6 hs hk).2.2.2]; omega, nk_lrF (ni_o5_6 hs hk).2.2.1 (by omega)⟩ (Nat.le_of_ble_eq_true rfl) ?_
  refine K_Ld (q := 72) rfl rfl (fun _ _ => rfl) ?_
  refine K_Ld (q := 73) rfl rfl (fun _ _ => rfl) ?_
  refine K_GetX (q := 76) (w := ni_z (X (q) 7)) hX rfl hs hk rfl rfl rfl ?_
  refine K_Put (q := 79) rfl hs hk rfl rfl (fun _ _ _ => rfl) rfl (fun z _ => absurd z (by decide)) ?_
  refine K_Ld (q := 80) rfl rfl (fun _ _ => rfl) ?_
  refine K_Ld (q := 81) rfl rfl (fun _ _ => rfl) ?_
  refine K_GetX (q := 84) (w := ni_z (X (q) 8)) hX rfl hs hk rfl rfl rfl ?_
  refine K_Put (q := 87) rfl hs hk rfl rfl (fun _ _ _ => rfl) (ni_fitB (by omega)) (fun z _ => absurd z (by decide)) ?_
  refine K_Ld (q := 88) rfl rfl (fun _ _ => rfl) ?_
  refine K_Ld (q := 89) rfl rfl (fun _ _ => rfl) ?_
  refine K_GetX (q := 92) (w := ni_z (X (q) 10)) hX rfl hs hk rfl rfl rfl ?_
  refine K_Put (q := 95) rfl hs hk rfl rfl (fun _ _ _ => rfl) rfl (fun z _ => absurd z (by decide)) ?_
  refine K_Ld (q := 96) rfl rfl (fun _ _ => rfl) ?_
  refine K_GetX (q := 99) (w := .ref (sd (q + 7))) hX rfl hs hk rfl rfl rfl ?_
  refine K_push (q := 100) (c := 0) (z := 0) rfl rfl ?_
  refine K_Ld (q := 101) rfl rfl (fun _ _ => rfl) ?_
  refine K_Get (q := 104) (v := ni_aP (q + 7)) rfl hs hk rfl rfl (fun _ _ => rfl) ?_
  refine K_push (q := 105) (c := 0) (z := 0) rfl rfl ?_
  refine K_Ld (q := 106) rfl rfl (fun _ _ => rfl) ?_
  refine K_GetI (q := 109) (e := X (q) 10) rfl hs hk rfl rfl (fun _ _ => congrArg ni_z (ni_u2e)) ?_
  refine K_CopyX (q := 112) (k := (X q 10).toNat) hX rfl (ni_o5_7 hs hk).1 (ni_o5_7 hs hk).2.1 (ni_o5_7 hs hk).2.2.1 (by decide) (by omega) (by omega) (ni_o5_7 hs hk).1 (ni_o5_7 hs hk).2.1 ⟨by rw [(ni_o5_7 hs hk).2.2.1]; omega, by rw [ni_liveC (ni_o5_7 hs hk).2.2.2 (by omega)]; exact Nat.le_refl _, nk_lrF (ni_o5_7 hs hk).2.2.1 (by omega)⟩ (Nat.le_of_ble_eq_true rfl) ?_
  refine K_Ld (q := 113) rfl rfl (fun _ _ => rfl) ?_
  refine K_Ld (q := 114) rfl rfl (fun _ _ => rfl) ?_
  refine K_GetX (q := 117) (w := ni_z (X (q) 11)) hX rfl hs hk rfl rfl rfl ?_
  refine K_Put (q := 120) rfl hs hk rfl rfl (fun _ _ _ => rfl) rfl (fun z _ => absurd z (by decide)) ?_
  refine K_Ld (q := 121) rfl rfl (fun _ _ => rfl) ?_
  refine K_Ld (q := 122) rfl rfl (fun _ _ => rfl) ?_
  refine K_GetX (q := 125) (w := ni_z (X (q) 12)) hX rfl hs hk rfl rfl rfl ?_
  refine K_Put (q := 128) rfl hs hk rfl rfl (fun _ _ _ => rfl) rfl (fun z _ => absurd z (by decide)) ?_
  refine K_Ld (q := 129) rfl rfl (fun _ _ => rfl) ?_
  refine K_Ld (q := 130) rfl rfl (fun _ _ => rfl) ?_
  refine K_GetX (q := 133) (w := ni_z (X (q) 13)) hX rfl hs hk rfl rfl rfl ?_
  refine K_Put (q := 136) rfl hs hk rfl rfl (fun _ _ _ => rfl) rfl (fun z _ => absurd z (by decide)) ?_
  refine K_Rv rfl rfl ?_
  intro M ad rw cp hR
  refine nk_cg hR (fun s h0 j hj hjL => ?_) (fun p hp => ?_) (fun s h0 h9 => ?_)
  · unfold nq_cpL at hjL
    unfold nq_cpy
    by_cases hr : q ≤ s ∧ s < q + 8
    · rw [if_pos hr] at hjL ⊢
      rcases (show s = q ∨ (q + 1 ≤ s ∧ s < q + 5) ∨ s = q + 5 ∨ s = q + 6 ∨ s = q + 7 by omega) with r | r | r | r | r
      · subst r
        have hjn : j < 14 := by
          have := hR.2.2.1.1 _ h0 (ni_objS h0 hk rfl).2.1
          rw [(ni_objS h0 hk rfl).1] at this
          have e : ni_lk 5 = 14 := rfl
          omega
        refine ⟨?_, fun hn => ?_⟩
        · have := hR.2.2.2.2.2.2.2 _ h0 (ni_objS h0 hk rfl).2.2
          omega
        · rw [hk] at hn
          rcases (show j = 0 ∨ j = 1 ∨ j = 2 ∨ j = 3 ∨ j = 4 ∨ j = 5 ∨ j = 6 ∨ j = 7 ∨ j = 8 ∨ j = 9 ∨ j = 10 ∨ j = 11 ∨ j = 12 ∨ j = 13 by omega) with r | r | r | r | r | r | r | r | r | r | r | r | r | r <;> subst r <;> first | (cases hn; done) | (simp only [ni_u2, nk_cp, nq_cpy, and_self, true_and, and_true, reduceIte, false_and, and_false]; repeat (first | rw [if_pos (by omega)] | rw [if_neg (by omega)]))
      · refine ⟨?_, fun _ => by (simp only [ni_u2, nk_cp, nq_cpy, and_self, true_and, and_true, reduceIte, false_and, and_false]; repeat (first | rw [if_pos (by omega)] | rw [if_neg (by omega)]))⟩
        simp only [nk_u1, nq_cpL]
        repeat (first | rw [if_pos (by omega)] | rw [if_neg (by omega)])
        exact hjL
      · subst r
        have := ni_cpL hR.2.2.1 h0 (ni_o5_5 hs hk).2.2.1 (by omega)
        refine ⟨?_, fun _ => by (simp only [ni_u2, nk_cp, nq_cpy, and_self, true_and, and_true, reduceIte, false_and, and_false]; repeat (first | rw [if_pos (by omega)] | rw [if_neg (by omega)]))⟩
        have := hR.2.2.2.2.2.2.2 _ h0 (ni_o5_5 hs hk).2.2.2
        omega
      · subst r
        have := ni_cpL hR.2.2.1 h0 (ni_o5_6 hs hk).2.2.1 (by omega)
        refine ⟨?_, fun _ => by (simp only [ni_u2, nk_cp, nq_cpy, and_self, true_and, and_true, reduceIte, false_and, and_false]; repeat (first | rw [if_pos (by omega)] | rw [if_neg (by omega)]))⟩
        have := hR.2.2.2.2.2.2.2 _ h0 (ni_o5_6 hs hk).2.2.2
        omega
      · subst r
        rw [ni_liveC (ni_o5_7 hs hk).2.2.2 (by omega)] at hjL
        refine ⟨?_, fun _ => by (simp only [ni_u2, nk_cp, nq_cpy, and_self, true_and, and_true, reduceIte, false_and, and_false]; repeat (first | rw [if_pos (by omega)] | rw [if_neg (by omega)]))⟩
        simp only [nk_u1, nq_cpL, reduceIte]
        repeat (first | rw [if_pos (by omega)] | rw [if_neg (by omega)])
        omega
    · rw [if_neg hr] at hjL ⊢
      refine ⟨?_, fun _ => by (simp only [ni_u2, nk_cp, nq_cpy, and_self, true_and, and_true, reduceIte, false_and, and_false]; repeat (first | rw [if_pos (by omega)] | rw [if_neg (by omega)]))⟩
      simp only [nk_u1, nq_cpL]
      repeat rw [if_neg (by omega)]
      exact hjL
  · have hp2 := ni_lnP hp
    refine Int.le_trans (Int.le_of_eq ?_) (hR.2.2.2.1 p hp)
    unfold nq_cpy
    by_cases hrp : q ≤ p ∧ p < q + 8
    · have hqp : p = q + 1 := by omega
      subst hqp
      rw [if_pos (by omega)]
      simp only [ni_u2, nk_cp, nq_cpy, and_self, true_and, and_true, reduceIte, false_and, and_false]
      repeat (first | rw [if_pos (by omega)] | rw [if_neg (by omega)])
    · rw [if_neg hrp]
      simp only [ni_u2, nk_cp, nq_cpy, and_self, true_and, and_true, reduceIte, false_and, and_false]
      repeat rw [if_neg (by omega)]
  · unfold nq_cpL
    have := hR.2.2.2.2.2.2.2 s h0 h9
    by_cases hr : q ≤ s ∧ s < q + 8
    · rw [if_pos hr, ni_live9 h9]
      exact Nat.le_refl _
    · rw [if_neg hr]
      simp only [nk_u1, nq_cpL] at this
      repeat rw [if_neg (by omega)] at this
      exact this
/-- a port as it may be copied -/
def nk_po (St : Nat → Option ni_C) (X : Nat → Nat → Int) (q : Nat) : Prop := (0 ≤ X q 3 ∧ X q 3 ≤ 1 ∧ 0 ≤ X q 8 ∧ X q 8 ≤ 1) ∧ (0 ≤ X q 10 ∧ X q 10 ≤ 250) ∧ (0 ≤ X (q + 1) 2 ∧ X (q + 1) 2 ≤ 2048) ∧ ∀ i : Nat, (i : Int) < X (q + 1) 2 → 0 ≤ X (q + 1 + 1) i ∧ ∃ c, St (X (q + 1 + 1) i).toNat = some c ∧ c.1 = 1
theorem mt_cpLink {q : Nat} (hs : ni_us q = true) (hk : ni_kd q = 3) (hb : 0 ≤ X q 5 ∧ X q 5 ≤ 1) (hp1 : nk_po St X (q + 1)) (hp9 : nk_po St X (q + 9)) (hX : nk_src St sd sr X) (B : Nat → Nat → Int) (L : Nat → Nat) : nk_D xs St 5 70 [ni_aP (q), ni_aL (sd (q))] B L (nq_cpy B X (q) (q + 17)) (nq_cpL L X (q) (q + 17)) := by
  have h374 := (ni_usT hs).1
  have hq1 := ni_lnP (ni_lnsC (ni_o5_1 (ni_o3_1 hs hk).1 (ni_o3_1 hs hk).2.1).1 (ni_o5_1 (ni_o3_1 hs hk).1 (ni_o3_1 hs hk).2.1).2.1)
  have hq9 := ni_lnP (ni_lnsC (ni_o5_1 (ni_o3_9 hs hk).1 (ni_o3_9 hs hk).2.1).1 (ni_o5_1 (ni_o3_9 hs hk).1 (ni_o3_9 hs hk).2.1).2.1)
  refine nk_in (ls := [ni_aP (q), ni_aL (sd (q))]) (fun _ => Nat.le_of_ble_eq_true rfl) (fun _ _ => rfl) ?_
  refine K_Ld (q := 1) rfl rfl (fun _ _ => rfl) ?_
  refine K_Ld (q := 2) rfl rfl (fun _ _ => rfl) ?_
  refine K_GetX (q := 5) (w := ni_z (X (q) 0)) hX rfl hs hk rfl rfl rfl ?_
  refine K_Put (q := 8) rfl hs hk rfl rfl (fun _ _ _ => rfl) rfl (fun z _ => absurd z (by decide)) ?_
  refine K_Ld (q := 9) rfl rfl (fun _ _ => rfl) ?_
  refine K_Ld (q := 10) rfl rfl (fun _ _ => rfl) ?_
  refine K_GetX (q := 13) (w := ni_z (X (q) 1)) hX rfl hs hk rfl rfl rfl ?_
  refine K_Put (q := 16) rfl hs hk rfl rfl (fun _ _ _ => rfl) rfl (fun z _ => absurd z (by decide)) ?_
  refine K_Ld (q := 17) rfl rfl (fun _ _ => rfl) ?_
  refine K_Ld (q := 18) rfl rfl (fun _ _ => rfl) ?_
  refine K_GetX (q := 21) (w := ni_z (X (q) 2)) hX rfl hs hk rfl rfl rfl ?_
  refine K_Put (q := 24) rfl hs hk rfl rfl (fun _ _ _ => rfl) rfl (fun z _ => absurd z (by decide)) ?_
  refine K_Ld (q := 25) rfl rfl (fun _ _ => rfl) ?_
  refine K_Ld (q := 26) rfl rfl (fun _ _ => rfl) ?_
  refine K_GetX (q := 29) (w := ni_z (X (q) 3)) hX rfl hs hk rfl rfl rfl ?_
  refine K_Put (q := 32) rfl hs hk rfl rfl (fun _ _ _ => rfl) rfl (fun z _ => absurd z (by decide)) ?_
  refine K_Ld (q := 33) rfl rfl (fun _ _ => rfl) ?_
  refine K_Ld (q := 34) rfl rfl (fun _ _ => rfl) ?_
  refine K_GetX (q := 37) (w := ni_z (X (q) 4)) hX rfl hs hk rfl rfl rfl ?_
  refine K_Put (q := 40) rfl hs hk rfl rfl (fun _ _ _ => rfl) rfl (fun z _ => absurd z (by decide)) ?_
  refine K_Ld (q := 41) rfl rfl (fun _ _ => rfl) ?_
  refine K_Ld (q := 42) rfl rfl (fun _ _ => rfl) ?_
  refine K_GetX (q := 45) (w := ni_z (X (q) 5)) hX rfl hs hk rfl rfl rfl ?_
  refine K_Put (q := 48) rfl hs hk rfl rfl (fun _ _ _ => rfl) (ni_fitB (by omega)) (fun z _ => absurd z (by decide)) ?_
  refine K_Ld (q := 49) rfl rfl (fun _ _ => rfl) ?_
  refine K_Get (q := 52) (v := ni_aP (q + 1)) rfl hs hk rfl rfl (fun _ _ => rfl) ?_
  refine K_Ld (q := 53) rfl rfl (fun _ _ => rfl) ?_
  refine K_GetX (q := 56) (w := .ref (sd (q + 1))) hX rfl hs hk rfl rfl rfl ?_
  refine K_V (q := 59) rfl rfl rfl (ni_o3_1 hs hk).1 (ni_o3_1 hs hk).2.1 rfl (Nat.le_of_ble_eq_true rfl) (fun _ _ _ => rfl) (nk_Dup (mt_cpPort (ni_o3_1 hs hk).1 (ni_o3_1 hs hk).2.1 hp1.1 hp1.2.1 hp1.2.2.1 hp1.2.2.2 hX _ _) (by decide)) (fun _ _ => rfl) ?_
  refine K_Ld (q := 60) rfl rfl (fun _ _ => rfl) ?_
  refine K_Get (q := 63) (v := ni_aP (q + 9)) rfl hs hk rfl rfl (fun _ _ => rfl) ?_
  refine K_Ld (q := 64) rfl rfl (fun _ _ => rfl) ?_
  refine K_GetX (q := 67) (w := .ref (sd (q + 9))) hX rfl hs hk rfl rfl rfl ?_
  refine K_V (q := 70) rfl rfl rfl (ni_o3_9 hs hk).1 (ni_o3_9 hs hk).2.1 rfl (Nat.le_of_ble_eq_true rfl) (fun _ _ _ => rfl) (nk_Dup (mt_cpPort (ni_o3_9 hs hk).1 (ni_o3_9 hs hk).2.1 hp9.1 hp9.2.1 hp9.2.2.1 hp9.2.2.2 hX _ _) (by decide)) (fun _ _ => rfl) ?_
  refine K_Rv rfl rfl ?_
  intro M ad rw cp hR
  refine nk_cg hR (fun s h0 j hj hjL => ?_) (fun p hp => ?_) (fun s h0 h9 => ?_)
  · unfold nq_cpL at hjL
    unfold nq_cpy
    by_cases hr : q ≤ s ∧ s < q + 17
    · rw [if_pos hr] at hjL ⊢
      rcases (show s = q ∨ (q + 1 ≤ s ∧ s < q + 9) ∨ (q + 9 ≤ s ∧ s < q + 17) by omega) with r | r | r
      · subst r
        have hjn : j < 8 := by
          have := hR.2.2.1.1 _ h0 (ni_objS h0 hk rfl).2.1
          rw [(ni_objS h0 hk rfl).1] at this
          have e : ni_lk 3 = 8 := rfl
          omega
        refine ⟨?_, fun hn => ?_⟩
        · have := hR.2.2.2.2.2.2.2 _ h0 (ni_objS h0 hk rfl).2.2
          omega
        · rw [hk] at hn
          rcases (show j = 0 ∨ j = 1 ∨ j = 2 ∨ j = 3 ∨ j = 4 ∨ j = 5 ∨ j = 6 ∨ j = 7 by omega) with r | r | r | r | r | r | r | r <;> subst r <;> first | (cases hn; done) | (simp only [ni_u2, nk_cp, nq_cpy, and_self, true_and, and_true, reduceIte, false_and, and_false]; repeat (first | rw [if_pos (by omega)] | rw [if_neg (by omega)]))
      · refine ⟨?_, fun _ => by (simp only [ni_u2, nk_cp, nq_cpy, and_self, true_and, and_true, reduceIte, false_and, and_false]; repeat (first | rw [if_pos (by omega)] | rw [if_neg (by omega)]))⟩
        simp only [nk_u1, nq_cpL]
        repeat (first | rw [if_pos (by omega)] | rw [if_neg (by omega)])
        exact hjL
      · refine ⟨?_, fun _ => by (simp only [ni_u2, nk_cp, nq_cpy, and_self, true_and, and_true, reduceIte, false_and, and_false]; repeat (first | rw [if_pos (by omega)] | rw [if_neg (by omega)]))⟩
        simp only [nk_u1, nq_cpL]
        repeat (first | rw [if_pos (by omega)] | rw [if_neg (by omega)])
        exact hjL
    · rw [if_neg hr] at hjL ⊢
      refine ⟨?_, fun _ => by (simp only [ni_u2, nk_cp, nq_cpy, and_self, true_and, and_true, reduceIte, false_and, and_false]; repeat (first | rw [if_pos (by omega)] | rw [if_neg (by omega)]))⟩
      simp only [nk_u1, nq_cpL]
      repeat rw [if_neg (by omega)]
      exact hjL
  · have hp2 := ni_lnP hp
    refine Int.le_trans (Int.le_of_eq ?_) (hR.2.2.2.1 p hp)
    unfold nq_cpy
    by_cases hrp : q ≤ p ∧ p < q + 17
    · rcases (show p = q + 2 ∨ p = q + 10 by omega) with r | r <;> subst r
      all_goals
        rw [if_pos (by omega)]
        simp only [ni_u2, nk_cp, nq_cpy, and_self, true_and, and_true, reduceIte, false_and, and_false]
        repeat (first | rw [if_pos (by omega)] | rw [if_neg (by omega)])
    · rw [if_neg hrp]
      simp only [ni_u2, nk_cp, nq_cpy, and_self, true_and, and_true, reduceIte, false_and, and_false]
      repeat rw [if_neg (by omega)]
  · unfold nq_cpL
    have := hR.2.2.2.2.2.2.2 s h0 h9
    by_cases hr : q ≤ s ∧ s < q + 17
    · rw [if_pos hr, ni_live9 h9]
      exact Nat.le_refl _
    · rw [if_neg hr]
      simp only [nk_u1, nq_cpL] at this
      repeat rw [if_neg (by omega)] at this
      exact this
theorem nk_u1u {L : Nat → Nat} {s i k : Nat} : ni_u1 (ni_u1 L s i) s k = ni_u1 L s k := by
  funext t
  unfold ni_u1
  by_cases e : t = s
  · rw [if_pos e, if_pos e]
  · rw [if_neg e, if_neg e, if_neg e]
theorem K_wk {d y pc : Nat} {ls st : List ni_a} {A : Nat → Nat → Int} {L L2 : Nat → Nat} {P : (Nat → Nat → Int) → (Nat → Nat) → Prop} (h : ∀ M ad rw cp, ni_Rep St M ad rw cp A L → ni_Rep St M ad rw cp A L2) (k : nk_E xs St d y pc ls st A L2 P) : nk_E xs St d y pc ls st A L P :=
  K_pre (fun _ _ _ _ M rw cp _ hx k => k M rw cp ⟨h _ _ _ _ hx.1, hx.2⟩) k
theorem mt_cpRl {q d : Nat} {P : (Nat → Nat → Int) → (Nat → Nat) → Prop} (hs : ni_us q = true) (hk : ni_kd q = 7) (hX : nk_src St sd sr X) (hlv : 8 ≤ ni_live X (q + 4)) (hL : ∀ i : Nat, i < 8 → 0 ≤ X (q + 4) i ∧ ∃ c, St (X (q + 4) i).toNat = some c ∧ c.1 = 1) (B : Nat → Nat → Int) (L : Nat → Nat) (hE : nk_E xs St d 132 26 [ni_aP q, ni_aL (sd q), ni_aI ((8 : Nat) : Int)] [] (nk_cp B (q + 4) 8 (X (q + 4))) (ni_u1 L (q + 4) 8) P) : ∀ k i : Nat, i + k = 8 → nk_E xs St d 132 2 [ni_aP q, ni_aL (sd q), ni_aI (i : Int)] [] (nk_cp B (q + 4) i (X (q + 4))) (ni_u1 L (q + 4) i) P := by
  have b4 := ni_o7_4 hs hk
  intro k
  induction k with
  | zero =>
    intro i hi
    have hi8 : i = 8 := by omega
    subst hi8
    refine K_Ld (q := 3) rfl rfl (fun _ _ => rfl) ?_
    refine K_push (q := 5) (c := 8) (z := 8) rfl rfl ?_
    refine K_Ic true rfl (zc_ge_t ⟨by omega, by omega⟩ ⟨by omega, by omega⟩ (by omega)) ?_
    exact hE
  | succ k ih =>
    intro i hi
    obtain ⟨hc0, c, hc1, hc2⟩ := hL i (by omega)
    refine K_Ld (q := 3) rfl rfl (fun _ _ => rfl) ?_
    refine K_push (q := 5) (c := 8) (z := 8) rfl rfl ?_
    refine K_Ic false rfl (zc_ge_f ⟨by omega, by omega⟩ ⟨by omega, by omega⟩ (by omega)) ?_
    refine K_Ld (q := 9) rfl rfl (fun _ _ => rfl) ?_
    refine K_Get (q := 12) (v := ni_aP (q + 4)) rfl hs hk rfl rfl (fun _ _ => rfl) ?_
    refine K_Ld (q := 13) rfl rfl (fun _ _ => rfl) ?_
    refine K_Ld (q := 14) rfl rfl (fun _ _ => rfl) ?_
    refine K_GetX (q := 17) (w := .ref (sd (q + 4))) hX rfl hs hk rfl rfl rfl ?_
    refine K_Ld (q := 18) rfl rfl (fun _ _ => rfl) ?_
    refine K_QldX (q := 19) (s := q + 4) (j := i) (a := (X (q + 4) i).toNat) hX rfl b4.1 b4.2.1 rfl rfl (by omega) ⟨by rw [b4.2.2.1]; omega, by omega⟩ rfl ?_
    refine K_Qst (q := 20) (s := q + 4) (j := i) (n := 8) (L' := ni_u1 (ni_u1 L (q + 4) i) (q + 4) (i + 1)) rfl b4.1 b4.2.1 b4.2.2.1 (by decide) rfl (by omega) (by decide) hc1 hc2 (Or.inr ⟨rfl, ni_u1e.symm⟩) ?_
    refine K_Inc (q := 23) (z := 1) (ls' := [ni_aP q, ni_aL (sd q), ni_aI ((i : Int) + 1)]) rfl rfl rfl (fun _ _ => rfl) ?_
    refine K_Go (q := 2) rfl ?_
    rw [nk_cpS (F := X (q + 4)) (Int.toNat_of_nonneg hc0), nk_u1u]
    exact ih (i + 1) (by omega)
theorem nk_ne3 {q s : Nat} (hN : ni_us (q + 1) = false ∧ ni_us (q + 2) = false ∧ ni_us (q + 3) = false) (h0 : ni_us s = true) : s ≠ q + 1 ∧ s ≠ q + 2 ∧ s ≠ q + 3 :=
  ⟨fun z => (by rw [z, hN.1] at h0; exact Bool.noConfusion h0), fun z => (by rw [z, hN.2.1] at h0; exact Bool.noConfusion h0), fun z => (by rw [z, hN.2.2] at h0; exact Bool.noConfusion h0)⟩
theorem mt_cpRe {d : Nat} {q : Nat} (hs : ni_us q = true) (hk : ni_kd q = 7) (hq : 286 ≤ q) (hN : ni_us (q + 1) = false ∧ ni_us (q + 2) = false ∧ ni_us (q + 3) = false) (hb : 0 ≤ X q 5 ∧ X q 5 ≤ 1) (hn : 0 ≤ X (q + 7) 3 ∧ X (q + 7) 3 ≤ 216) (hX : nk_src St sd sr X) (hlv : 8 ≤ ni_live X (q + 4)) (hL : ∀ i : Nat, i < 8 → 0 ≤ X (q + 4) i ∧ ∃ c, St (X (q + 4) i).toNat = some c ∧ c.1 = 1) (B : Nat → Nat → Int) (hid : B q 0 = X q 0) (L : Nat → Nat) : nk_E xs St (d + 1) 132 26 [ni_aP q, ni_aL (sd q), ni_aI ((8 : Nat) : Int)] [] (nk_cp B (q + 4) 8 (X (q + 4))) (ni_u1 L (q + 4) 8) (fun B2 K2 => ∀ M ad rw cp, ni_Rep St M ad rw cp B2 K2 → ni_Rep St M ad rw cp (nq_cpy B X q (q + 11)) (nq_cpL L X q (q + 11))) := by
  have h374 := (ni_usT hs).1
  refine K_Ld (q := 27) rfl rfl (fun _ _ => rfl) ?_
  refine K_GetX (q := 30) (w := .ref (sd (q + 5))) hX rfl hs hk rfl rfl rfl ?_
  refine K_push (q := 31) (c := 0) (z := 0) rfl rfl ?_
  refine K_Ld (q := 32) rfl rfl (fun _ _ => rfl) ?_
  refine K_Get (q := 35) (v := ni_aP (q + 5)) rfl hs hk rfl rfl (fun _ _ => rfl) ?_
  refine K_push (q := 36) (c := 0) (z := 0) rfl rfl ?_
  refine K_push (q := 38) (c := 8) (z := 8) rfl rfl ?_
  refine K_CopyX (q := 41) (k := 8) hX rfl (ni_o7_5 hs hk).1 (ni_o7_5 hs hk).2.1 (ni_o7_5 hs hk).2.2.1 (by decide) rfl (by omega) (ni_o7_5 hs hk).1 (ni_o7_5 hs hk).2.1 ⟨Nat.le_of_eq (ni_o7_5 hs hk).2.2.1.symm, by rw [ni_live9 (ni_o7_5 hs hk).2.2.2]; omega, nk_lrF (ni_o7_5 hs hk).2.2.1 (by omega)⟩ (Nat.le_of_ble_eq_true rfl) ?_
  refine K_Ld (q := 42) rfl rfl (fun _ _ => rfl) ?_
  refine K_GetX (q := 45) (w := .ref (sd (q + 6))) hX rfl hs hk rfl rfl rfl ?_
  refine K_push (q := 46) (c := 0) (z := 0) rfl rfl ?_
  refine K_Ld (q := 47) rfl rfl (fun _ _ => rfl) ?_
  refine K_Get (q := 50) (v := ni_aP (q + 6)) rfl hs hk rfl rfl (fun _ _ => rfl) ?_
  refine K_push (q := 51) (c := 0) (z := 0) rfl rfl ?_
  refine K_push (q := 53) (c := 8) (z := 8) rfl rfl ?_
  refine K_CopyX (q := 56) (k := 8) hX rfl (ni_o7_6 hs hk).1 (ni_o7_6 hs hk).2.1 (ni_o7_6 hs hk).2.2.1 (by decide) rfl (by omega) (ni_o7_6 hs hk).1 (ni_o7_6 hs hk).2.1 ⟨Nat.le_of_eq (ni_o7_6 hs hk).2.2.1.symm, by rw [ni_live9 (ni_o7_6 hs hk).2.2.2]; omega, nk_lrF (ni_o7_6 hs hk).2.2.1 (by omega)⟩ (Nat.le_of_ble_eq_true rfl) ?_
  refine K_Ld (q := 57) rfl rfl (fun _ _ => rfl) ?_
  refine K_Get (q := 60) (v := ni_aP (q + 7)) rfl hs hk rfl rfl (fun _ _ => rfl) ?_
  refine K_Ld (q := 61) rfl rfl (fun _ _ => rfl) ?_
  refine K_GetX (q := 64) (w := .ref (sd (q + 7))) hX rfl hs hk rfl rfl rfl ?_
  refine K_V (q := 67) rfl rfl rfl (ni_o7_7 hs hk).1 (ni_o7_7 hs hk).2.1 rfl (Nat.le_of_ble_eq_true rfl) (fun _ _ _ => rfl) (nk_Dup (mt_cpT (ni_o7_7 hs hk).1 (ni_o7_7 hs hk).2.1 (Or.inr (by omega)) hn hX _ _) (by omega)) (fun _ _ => rfl) ?_
  refine K_Ld (q := 68) rfl rfl (fun _ _ => rfl) ?_
  refine K_Ld (q := 69) rfl rfl (fun _ _ => rfl) ?_
  refine K_GetX (q := 72) (w := ni_z (X (q) 5)) hX rfl hs hk rfl rfl rfl ?_
  refine K_Put (q := 75) rfl hs hk rfl rfl (fun _ _ _ => rfl) (ni_fitB (by omega)) (fun z _ => absurd z (by decide)) ?_
  refine K_Rv rfl rfl ?_
  intro M ad rw cp hR
  refine nk_cg hR (fun s h0 j hj hjL => ?_) (fun p hp => ?_) (fun s h0 h9 => ?_)
  · unfold nq_cpL at hjL
    unfold nq_cpy
    by_cases hr : q ≤ s ∧ s < q + 11
    · rw [if_pos hr] at hjL ⊢
      rcases (show s = q ∨ s = q + 4 ∨ s = q + 5 ∨ s = q + 6 ∨ (q + 7 ≤ s ∧ s < q + 11) by have := nk_ne3 hN h0; omega) with r | r | r | r | r
      · subst r
        have hjn : j < 6 := by
          have := hR.2.2.1.1 _ h0 (ni_objS h0 hk rfl).2.1
          rw [(ni_objS h0 hk rfl).1] at this
          have e : ni_lk 7 = 6 := rfl
          omega
        refine ⟨?_, fun hn => ?_⟩
        · have := hR.2.2.2.2.2.2.2 _ h0 (ni_objS h0 hk rfl).2.2
          omega
        · rw [hk] at hn
          rcases (show j = 0 ∨ j = 1 ∨ j = 2 ∨ j = 3 ∨ j = 4 ∨ j = 5 by omega) with r | r | r | r | r | r <;> subst r <;> first | (cases hn; done) | ((simp only [ni_u2, nk_cp, nq_cpy, and_self, true_and, and_true, reduceIte, false_and, and_false]; repeat (first | rw [if_pos (by omega)] | rw [if_neg (by omega)])); done) | ((simp only [ni_u2, nk_cp, nq_cpy, and_self, true_and, and_true, reduceIte, false_and, and_false]; repeat (first | rw [if_pos (by omega)] | rw [if_neg (by omega)])); exact hid.symm)
      · subst r
        have := ni_cpL hR.2.2.1 h0 (ni_o7_4 hs hk).2.2.1 (by omega)
        refine ⟨?_, fun _ => by (simp only [ni_u2, nk_cp, nq_cpy, and_self, true_and, and_true, reduceIte, false_and, and_false]; repeat (first | rw [if_pos (by omega)] | rw [if_neg (by omega)]))⟩
        simp only [nk_u1, nq_cpL, reduceIte]
        repeat (first | rw [if_pos (by omega)] | rw [if_neg (by omega)])
        omega
      · subst r
        have := ni_cpL hR.2.2.1 h0 (ni_o7_5 hs hk).2.2.1 (by omega)
        refine ⟨?_, fun _ => by (simp only [ni_u2, nk_cp, nq_cpy, and_self, true_and, and_true, reduceIte, false_and, and_false]; repeat (first | rw [if_pos (by omega)] | rw [if_neg (by omega)]))⟩
        have := hR.2.2.2.2.2.2.2 _ h0 (ni_o7_5 hs hk).2.2.2
        omega
      · subst r
        have := ni_cpL hR.2.2.1 h0 (ni_o7_6 hs hk).2.2.1 (by omega)
        refine ⟨?_, fun _ => by (simp only [ni_u2, nk_cp, nq_cpy, and_self, true_and, and_true, reduceIte, false_and, and_false]; repeat (first | rw [if_pos (by omega)] | rw [if_neg (by omega)]))⟩
        have := hR.2.2.2.2.2.2.2 _ h0 (ni_o7_6 hs hk).2.2.2
        omega
      · refine ⟨?_, fun _ => by (simp only [ni_u2, nk_cp, nq_cpy, and_self, true_and, and_true, reduceIte, false_and, and_false]; repeat (first | rw [if_pos (by omega)] | rw [if_neg (by omega)]))⟩
        simp only [nk_u1, nq_cpL]
        repeat (first | rw [if_pos (by omega)] | rw [if_neg (by omega)])
        exact hjL
    · rw [if_neg hr] at hjL ⊢
      refine ⟨?_, fun _ => by (simp only [ni_u2, nk_cp, nq_cpy, and_self, true_and, and_true, reduceIte, false_and, and_false]; repeat (first | rw [if_pos (by omega)] | rw [if_neg (by omega)]))⟩
      simp only [nk_u1, nq_cpL]
      repeat rw [if_neg (by omega)]
      exact hjL
  · have hp2 := ni_lnP hp
    refine Int.le_trans (Int.le_of_eq ?_) (hR.2.2.2.1 p hp)
    unfold nq_cpy
    by_cases hrp : q ≤ p ∧ p < q + 11
    · omega
    · rw [if_neg hrp]
      simp only [ni_u2, nk_cp, nq_cpy, and_self, true_and, and_true, reduceIte, false_and, and_false]
      repeat rw [if_neg (by omega)]
  · unfold nq_cpL
    have := hR.2.2.2.2.2.2.2 s h0 h9
    by_cases hr : q ≤ s ∧ s < q + 11
    · rw [if_pos hr, ni_live9 h9]
      exact Nat.le_refl _
    · rw [if_neg hr]
      simp only [nk_u1, nq_cpL] at this
      repeat rw [if_neg (by omega)] at this
      exact this
theorem mt_cpR {q : Nat} (hs : ni_us q = true) (hk : ni_kd q = 7) (hq : 286 ≤ q) (hN : ni_us (q + 1) = false ∧ ni_us (q + 2) = false ∧ ni_us (q + 3) = false) (hb : 0 ≤ X q 5 ∧ X q 5 ≤ 1) (hn : 0 ≤ X (q + 7) 3 ∧ X (q + 7) 3 ≤ 216) (hX : nk_src St sd sr X) (hlv : 8 ≤ ni_live X (q + 4)) (hL : ∀ i : Nat, i < 8 → 0 ≤ X (q + 4) i ∧ ∃ c, St (X (q + 4) i).toNat = some c ∧ c.1 = 1) (B : Nat → Nat → Int) (hid : B q 0 = X q 0) (L : Nat → Nat) : nk_D xs St 2 132 [ni_aP q, ni_aL (sd q)] B L (nq_cpy B X q (q + 11)) (nq_cpL L X q (q + 11)) := by
  refine nk_in (ls := [ni_aP q, ni_aL (sd q), .inl ni_J]) (fun _ => Nat.le_of_ble_eq_true rfl) (fun _ _ => rfl) ?_
  refine K_push (q := 1) (c := 0) (z := 0) rfl rfl ?_
  refine K_St (q := 2) (ls' := [ni_aP q, ni_aL (sd q), ni_aI ((0 : Nat) : Int)]) rfl (fun _ _ => rfl) (fun _ _ => rfl) ?_
  have b4 := ni_o7_4 hs hk
  refine K_wk (L2 := ni_u1 L (q + 4) 0) (fun M ad rw cp hR => nk_cg hR (fun s h0 j hj hjL => ⟨?_, fun _ => rfl⟩) hR.2.2.2.1 (fun s h0 h9 => ?_)) ?_
  · unfold ni_u1 at hjL
    split at hjL
    · omega
    · exact hjL
  · rw [ni_u1n (fun z => by rw [z, b4.2.2.2] at h9; cases h9)]
    exact hR.2.2.2.2.2.2.2 s h0 h9
  have e0 : nk_cp B (q + 4) 0 (X (q + 4)) = B := by
    funext s j
    exact nk_cpn (by omega)
  have g := mt_cpRl (xs := xs) hs hk hX hlv hL B L (mt_cpRe (d := 0) hs hk hq hN hb hn hX hlv hL B hid L) 8 0 (by omega)
  rw [e0] at g
  exact g
end NCY4
