/-! COPIES: THE NET, AT LAST -/
section NCY6
variable {xs : List Int32} {St : Nat → Option ni_C} {sd sr : Nat → Nat} {X : Nat → Nat → Int}
theorem nk_ctTA : ((List.range 374).all fun s => decide (s < 12) || decide ((ni_ct s).1 = 999) || decide ((ni_ct s).1 = 998 ∧ 286 ≤ s ∧ (ni_ct s).2 = (s - 286) / 11) || decide ((ni_ct s).1 < 998 ∧ 286 ≤ s ∧ 286 ≤ (ni_ct s).1 ∧ (ni_ct s).1 < 374 ∧ ((ni_ct s).1 - 286) / 11 = (s - 286) / 11) || (decide ((ni_ct s).1 < 998 ∧ 48 ≤ s ∧ s < 286 ∧ 48 ≤ (ni_ct s).1 ∧ (ni_ct s).1 < 286 ∧ ((ni_ct s).1 - 48) / 17 = (s - 48) / 17) && decide (((ni_ct s).1 - 48) % 17 ≠ 3 ∧ ((ni_ct s).1 - 48) % 17 ≠ 4 ∧ ((ni_ct s).1 - 48) % 17 ≠ 11 ∧ ((ni_ct s).1 - 48) % 17 ≠ 12))) = true := by decide +kernel
theorem nk_ctT {s : Nat} (hs : s < 374) (h12 : 12 ≤ s) : (ni_ct s).1 = 999 ∨ ((ni_ct s).1 = 998 ∧ 286 ≤ s ∧ (ni_ct s).2 = (s - 286) / 11) ∨ ((ni_ct s).1 < 998 ∧ ((286 ≤ s ∧ 286 ≤ (ni_ct s).1 ∧ (ni_ct s).1 < 374 ∧ ((ni_ct s).1 - 286) / 11 = (s - 286) / 11) ∨ (48 ≤ s ∧ s < 286 ∧ 48 ≤ (ni_ct s).1 ∧ (ni_ct s).1 < 286 ∧ ((ni_ct s).1 - 48) / 17 = (s - 48) / 17 ∧ ((ni_ct s).1 - 48) % 17 ≠ 3 ∧ ((ni_ct s).1 - 48) % 17 ≠ 4 ∧ ((ni_ct s).1 - 48) % 17 ≠ 11 ∧ ((ni_ct s).1 - 48) % 17 ≠ 12))) := by
  have e := List.all_eq_true.mp nk_ctTA s (List.mem_range.mpr hs)
  simp only [Bool.or_eq_true, Bool.and_eq_true, decide_eq_true_eq] at e
  rcases e with (((e | e) | e) | e) | e
  · omega
  · exact Or.inl e
  · exact Or.inr (Or.inl e)
  · exact Or.inr (Or.inr ⟨e.1, Or.inl e.2⟩)
  · exact Or.inr (Or.inr ⟨e.1.1, Or.inr ⟨e.1.2.1, e.1.2.2.1, e.1.2.2.2.1, e.1.2.2.2.2.1, e.1.2.2.2.2.2, e.2⟩⟩)
theorem nk_ctR : ∀ s : Nat, s < 286 → 50 ≤ s → ((s - 50) % 17 = 1 ∨ (s - 50) % 17 = 9 → ni_ct s = (s - 1, 2)) ∧ ((s - 50) % 17 = 2 ∨ (s - 50) % 17 = 10 → ni_ct s = (s - 2, 2)) := by decide +kernel
theorem nk_ct4 : ∀ s : Nat, s < 4 → (ni_ct s).1 = 999 := by decide +kernel
theorem nk_fin {B B1 : Nat → Nat → Int} {R N F : Nat} (eR : X 0 1 = (R : Int)) (eN : X 0 2 = (N : Int)) (eF : X 0 3 = (F : Int)) (hR8 : R ≤ 8) (hN14 : N ≤ 14) (hF12 : F ≤ 12) (hz : ∀ l : Nat, l < 14 → X 0 2 ≤ l → X (50 + 17 * l) 2 = 0 ∧ X (58 + 17 * l) 2 = 0) (hb : ∀ s j, s ≠ 0 ∨ 4 ≤ j → B1 s j = B s j) (h0 : ∀ j : Nat, j < 4 → B1 0 j = X 0 j) (hdead : ∀ s j, nq_dead X s → B s j = X s j) {M : ni_H} {ad rw cp : Nat → Nat} (hR : ni_Rep St M ad rw cp (nq_cpy (nq_cpy (nq_cpy (nq_cpy (nq_cpy B1 X 286 (286 + 11 * R)) X 48 (48 + 17 * N)) X 12 (12 + 3 * F)) X 4 (4 + 4)) X 8 (8 + 4)) (nq_cpL (nq_cpL (nq_cpL (nq_cpL (nq_cpL (ni_live B) X 286 (286 + 11 * R)) X 48 (48 + 17 * N)) X 12 (12 + 3 * F)) X 4 (4 + 4)) X 8 (8 + 4))) : ni_Rep St M ad rw cp X (ni_live X) := by
  refine nk_cg hR (fun s hs j hj hjL => ?_) (fun p hp => ?_) (fun s hs h9 => ?_)
  · have h374 := (ni_usT hs).1
    by_cases c : (4 ≤ s ∧ s < 8) ∨ (8 ≤ s ∧ s < 12) ∨ (12 ≤ s ∧ s < 12 + 3 * F) ∨ (48 ≤ s ∧ s < 48 + 17 * N) ∨ (286 ≤ s ∧ s < 286 + 11 * R)
    · rcases c with c | c | c | c | c
      all_goals
        refine ⟨?_, fun _ => ?_⟩
        · simp only [nq_cpL]
          repeat (first | rw [if_pos (by omega)] | rw [if_neg (by omega)])
          exact hjL
        · simp only [nq_cpy]
          repeat (first | rw [if_pos (by omega)] | rw [if_neg (by omega)])
    · have eS : (nq_cpy (nq_cpy (nq_cpy (nq_cpy (nq_cpy B1 X 286 (286 + 11 * R)) X 48 (48 + 17 * N)) X 12 (12 + 3 * F)) X 4 (4 + 4)) X 8 (8 + 4)) s j = B1 s j := by
        simp only [nq_cpy]
        repeat rw [if_neg (by omega)]
      have eL : (nq_cpL (nq_cpL (nq_cpL (nq_cpL (nq_cpL (ni_live B) X 286 (286 + 11 * R)) X 48 (48 + 17 * N)) X 12 (12 + 3 * F)) X 4 (4 + 4)) X 8 (8 + 4)) s = ni_live B s := by
        simp only [nq_cpL]
        repeat rw [if_neg (by omega)]
      rw [eS, eL]
      by_cases c3 : s < 4
      · refine ⟨by rw [ni_live9 (nk_ct4 s c3)]; rw [ni_live9 (nk_ct4 s c3)] at hjL; exact hjL, fun hn => ?_⟩
        rcases (show s = 0 ∨ s = 1 ∨ s = 2 ∨ s = 3 by omega) with r | r | r | r <;> subst r
        · by_cases j4 : j < 4
          · exact (h0 j j4).symm
          · have h9 := hR.2.2.1.1 0 hs (ni_objS hs (show ni_kd 0 = 4 by decide +kernel) rfl).2.1
            rw [(ni_objS hs (show ni_kd 0 = 4 by decide +kernel) rfl).1] at h9
            have e : ni_lk 4 = 9 := rfl
            rw [(show ni_kd 0 = 4 by decide +kernel)] at hn
            rcases (show j = 4 ∨ j = 5 ∨ j = 6 ∨ j = 7 ∨ j = 8 by omega) with r | r | r | r | r <;> subst r <;> cases hn
        · rw [show ni_kd 1 = 101 by decide +kernel] at hn
          exact absurd hn (Option.some_ne_none (Sum.inl (286 + 11 * j)))
        · rw [show ni_kd 2 = 102 by decide +kernel] at hn
          exact absurd hn (Option.some_ne_none (Sum.inl (48 + 17 * j)))
        · rw [show ni_kd 3 = 103 by decide +kernel] at hn
          exact absurd hn (Option.some_ne_none (Sum.inl (12 + 3 * j)))
      · by_cases c4 : 50 ≤ s ∧ s < 286 ∧ ((s - 50) % 17 = 1 ∨ (s - 50) % 17 = 2 ∨ (s - 50) % 17 = 9 ∨ (s - 50) % 17 = 10)
        · exfalso
          obtain ⟨d1, d2⟩ := nk_ctR s c4.2.1 c4.1
          obtain ⟨z1, z2⟩ := hz ((s - 50) / 17) (by omega) (by omega)
          by_cases w : (s - 50) % 17 = 1 ∨ (s - 50) % 17 = 9
          · rw [ni_liveC (d1 w) (by omega)] at hjL
            rcases w with w | w
            · rw [show s - 1 = 50 + 17 * ((s - 50) / 17) by omega, z1] at hjL
              exact absurd hjL (by simp)
            · rw [show s - 1 = 58 + 17 * ((s - 50) / 17) by omega, z2] at hjL
              exact absurd hjL (by simp)
          · have w' : (s - 50) % 17 = 2 ∨ (s - 50) % 17 = 10 := by omega
            rw [ni_liveC (d2 w') (by omega)] at hjL
            rcases w' with w | w
            · rw [show s - 2 = 50 + 17 * ((s - 50) / 17) by omega, z1] at hjL
              exact absurd hjL (by simp)
            · rw [show s - 2 = 58 + 17 * ((s - 50) / 17) by omega, z2] at hjL
              exact absurd hjL (by simp)
        · have hd : nq_dead X s := ⟨by omega, c4⟩
          have hsx : B1 s j = X s j := (hb s j (by omega)).trans (hdead s j hd)
          refine ⟨?_, fun _ => hsx.symm⟩
          rcases nk_ctT h374 (by omega) with t | ⟨t, t1, t2⟩ | ⟨t, t1⟩
          · rw [ni_live9 t]
            rw [ni_live9 t] at hjL
            exact hjL
          · exfalso
            unfold ni_live at hjL
            rw [t] at hjL
            rw [show (cond (Nat.beq 998 999) 1000 (cond (Nat.beq 998 998) (if ((ni_ct s).2 : Int) < X 0 1 then 8 else 0) (X 998 (ni_ct s).2).toNat)) = (if ((ni_ct s).2 : Int) < X 0 1 then 8 else 0) from rfl, if_neg (by omega)] at hjL
            omega
          · have hdu : nq_dead X (ni_ct s).1 := by
              rcases t1 with t1 | t1
              · exact ⟨by omega, by omega⟩
              · exact ⟨by omega, by omega⟩
            rw [ni_liveC (u := (ni_ct s).1) (k := (ni_ct s).2) rfl t] at hjL ⊢
            rw [hdead _ _ hdu]
            exact hjL
  · have hp2 := ni_lnP hp
    refine Int.le_trans (Int.le_of_eq ?_) (hR.2.2.2.1 p hp)
    by_cases c : p < 48 + 17 * N
    · simp only [nq_cpy]
      repeat (first | rw [if_pos (by omega)] | rw [if_neg (by omega)])
    · have hd : nq_dead X p := ⟨by omega, by omega⟩
      rw [← hdead p 2 hd, ← hb p 2 (by omega)]
      simp only [nq_cpy]
      repeat rw [if_neg (by omega)]
  · rw [ni_live9 h9]
    exact Nat.le_refl _
theorem mt_cpNet {B : Nat → Nat → Int} (hX : nk_src St sd sr X) (hok : nk_ok St X) (hid : ∀ r : Nat, r < 8 → B (286 + 11 * r) 0 = r) (hdead : ∀ s j, nq_dead X s → B s j = X s j) : nk_D xs St 6 77 [ni_aP 0, ni_aL (sd 0)] B (ni_live B) X (ni_live X) := by
  obtain ⟨hR, hLn, hF, hn4, hn8, hr, hl, hz⟩ := hok
  obtain ⟨R, eR⟩ := Int.eq_ofNat_of_zero_le hR.1
  obtain ⟨N, eN⟩ := Int.eq_ofNat_of_zero_le hLn.1
  obtain ⟨F, eF⟩ := Int.eq_ofNat_of_zero_le hF.1
  obtain ⟨B1, hB1⟩ : ∃ B1 : Nat → Nat → Int, B1 = ni_u2 (ni_u2 (ni_u2 (ni_u2 B 0 0 (X 0 0)) 0 1 (X 0 1)) 0 2 (X 0 2)) 0 3 (X 0 3) := ⟨_, rfl⟩
  have hb : ∀ s j, s ≠ 0 ∨ 4 ≤ j → B1 s j = B s j := fun s j h => by rw [hB1, ni_u2n (by omega), ni_u2n (by omega), ni_u2n (by omega), ni_u2n (by omega)]
  have h3 : B1 0 3 = X 0 3 := by rw [hB1, ni_u2e]
  have h2 : B1 0 2 = X 0 2 := by rw [hB1, ni_u2n (by omega), ni_u2e]
  have h1 : B1 0 1 = X 0 1 := by rw [hB1, ni_u2n (by omega), ni_u2n (by omega), ni_u2e]
  have h00 : B1 0 0 = X 0 0 := by rw [hB1, ni_u2n (by omega), ni_u2n (by omega), ni_u2n (by omega), ni_u2e]
  have h0 : ∀ j : Nat, j < 4 → B1 0 j = X 0 j := fun j hj => by
    rcases (show j = 0 ∨ j = 1 ∨ j = 2 ∨ j = 3 by omega) with r | r | r | r <;> subst r
    · exact h00
    · exact h1
    · exact h2
    · exact h3
  have q1 : B1 0 1 = (R : Int) := h1.trans eR
  have hE3 : nk_E xs St 5 77 125 [ni_aP 0, ni_aL (sd 0), ni_aI ((F : Nat) : Int)] [] (nq_cpy (nq_cpy (nq_cpy B1 X 286 (286 + 11 * R)) X 48 (48 + 17 * N)) X 12 (12 + 3 * F)) (nq_cpL (nq_cpL (nq_cpL (ni_live B) X 286 (286 + 11 * R)) X 48 (48 + 17 * N)) X 12 (12 + 3 * F)) (fun B2 K2 => ∀ M ad rw cp, ni_Rep St M ad rw cp B2 K2 → ni_Rep St M ad rw cp X (ni_live X)) := by
    refine K_Ld (q := 126) rfl rfl (fun _ _ => rfl) ?_
    refine K_Get (q := 129) (v := ni_aP 4) rfl (show ni_us 0 = true by decide +kernel) (show ni_kd 0 = 4 by decide +kernel) rfl rfl (fun _ _ => rfl) ?_
    refine K_Ld (q := 130) rfl rfl (fun _ _ => rfl) ?_
    refine K_GetX (q := 133) (w := .ref (sd (4))) hX rfl (show ni_us 0 = true by decide +kernel) (show ni_kd 0 = 4 by decide +kernel) rfl rfl rfl ?_
    refine K_V (q := 136) rfl rfl rfl (show ni_us 4 = true by decide +kernel) (show ni_kd 4 = 6 by decide +kernel) rfl (Nat.le_of_ble_eq_true rfl) (fun _ _ _ => rfl) (nk_Dup (mt_cpL (show ni_us 4 = true by decide +kernel) (show ni_kd 4 = 6 by decide +kernel) (Or.inl (by decide)) hn4 hX _ _) (by decide)) (fun _ _ => rfl) ?_
    refine K_Ld (q := 137) rfl rfl (fun _ _ => rfl) ?_
    refine K_Get (q := 140) (v := ni_aP 8) rfl (show ni_us 0 = true by decide +kernel) (show ni_kd 0 = 4 by decide +kernel) rfl rfl (fun _ _ => rfl) ?_
    refine K_Ld (q := 141) rfl rfl (fun _ _ => rfl) ?_
    refine K_GetX (q := 144) (w := .ref (sd (8))) hX rfl (show ni_us 0 = true by decide +kernel) (show ni_kd 0 = 4 by decide +kernel) rfl rfl rfl ?_
    refine K_V (q := 147) rfl rfl rfl (show ni_us 8 = true by decide +kernel) (show ni_kd 8 = 6 by decide +kernel) rfl (Nat.le_of_ble_eq_true rfl) (fun _ _ _ => rfl) (nk_Dup (mt_cpL (show ni_us 8 = true by decide +kernel) (show ni_kd 8 = 6 by decide +kernel) (Or.inl (by decide)) hn8 hX _ _) (by decide)) (fun _ _ => rfl) ?_
    refine K_Rv rfl rfl ?_
    exact fun M ad rw cp hR => nk_fin eR eN eF (by omega) (by omega) (by omega) hz hb h0 hdead hR
  have hE2 : nk_E xs St 5 77 94 [ni_aP 0, ni_aL (sd 0), ni_aI ((N : Nat) : Int)] [] (nq_cpy (nq_cpy B1 X 286 (286 + 11 * R)) X 48 (48 + 17 * N)) (nq_cpL (nq_cpL (ni_live B) X 286 (286 + 11 * R)) X 48 (48 + 17 * N)) (fun B2 K2 => ∀ M ad rw cp, ni_Rep St M ad rw cp B2 K2 → ni_Rep St M ad rw cp X (ni_live X)) := by
    refine K_push (q := 95) (c := 0) (z := 0) rfl rfl ?_
    refine K_St (q := 96) (ls' := [ni_aP (0), ni_aL (sd (0)), ni_aI (0)]) rfl (fun _ _ => rfl) (fun _ _ => rfl) ?_
    have g := mt_cpNf (xs := xs) hX (nq_cpy (nq_cpy B1 X 286 (286 + 11 * R)) X 48 (48 + 17 * N)) (nq_cpL (nq_cpL (ni_live B) X 286 (286 + 11 * R)) X 48 (48 + 17 * N)) (((nk_cpO (by omega)).trans ((nk_cpO (by omega)).trans h3)).trans eF) (by omega) eF trivial hE3 F 0 (by omega)
    rw [show 12 + 3 * 0 = 12 from rfl, nk_cp0, nk_cl0] at g
    exact g
  have hE1 : nk_E xs St 5 77 63 [ni_aP 0, ni_aL (sd 0), ni_aI ((R : Nat) : Int)] [] (nq_cpy B1 X 286 (286 + 11 * R)) (nq_cpL (ni_live B) X 286 (286 + 11 * R)) (fun B2 K2 => ∀ M ad rw cp, ni_Rep St M ad rw cp B2 K2 → ni_Rep St M ad rw cp X (ni_live X)) := by
    refine K_push (q := 64) (c := 0) (z := 0) rfl rfl ?_
    refine K_St (q := 65) (ls' := [ni_aP (0), ni_aL (sd (0)), ni_aI (0)]) rfl (fun _ _ => rfl) (fun _ _ => rfl) ?_
    have g := mt_cpNl (xs := xs) hX (nq_cpy B1 X 286 (286 + 11 * R)) (nq_cpL (ni_live B) X 286 (286 + 11 * R)) ((nk_cpO (by omega)).trans (h2.trans eN)) (by omega) eN hl hE2 N 0 (by omega)
    rw [show 48 + 17 * 0 = 48 from rfl, nk_cp0, nk_cl0] at g
    exact g
  refine nk_in (ls := [ni_aP 0, ni_aL (sd 0), .inl ni_J]) (fun _ => Nat.le_of_ble_eq_true rfl) (fun _ _ => rfl) ?_
  refine K_Ld (q := 1) rfl rfl (fun _ _ => rfl) ?_
  refine K_Ld (q := 2) rfl rfl (fun _ _ => rfl) ?_
  refine K_GetX (q := 5) (w := ni_z (X (0) 0)) hX rfl (show ni_us 0 = true by decide +kernel) (show ni_kd 0 = 4 by decide +kernel) rfl rfl rfl ?_
  refine K_Put (q := 8) rfl (show ni_us 0 = true by decide +kernel) (show ni_kd 0 = 4 by decide +kernel) rfl rfl (fun _ _ _ => rfl) rfl (fun z _ => absurd z (by decide)) ?_
  refine K_Ld (q := 9) rfl rfl (fun _ _ => rfl) ?_
  refine K_Ld (q := 10) rfl rfl (fun _ _ => rfl) ?_
  refine K_GetX (q := 13) (w := ni_z (X (0) 1)) hX rfl (show ni_us 0 = true by decide +kernel) (show ni_kd 0 = 4 by decide +kernel) rfl rfl rfl ?_
  refine K_Put (q := 16) rfl (show ni_us 0 = true by decide +kernel) (show ni_kd 0 = 4 by decide +kernel) rfl rfl (fun _ _ _ => rfl) rfl (fun z _ => absurd z (by decide)) ?_
  refine K_Ld (q := 17) rfl rfl (fun _ _ => rfl) ?_
  refine K_Ld (q := 18) rfl rfl (fun _ _ => rfl) ?_
  refine K_GetX (q := 21) (w := ni_z (X (0) 2)) hX rfl (show ni_us 0 = true by decide +kernel) (show ni_kd 0 = 4 by decide +kernel) rfl rfl rfl ?_
  refine K_Put (q := 24) rfl (show ni_us 0 = true by decide +kernel) (show ni_kd 0 = 4 by decide +kernel) rfl rfl (fun _ _ _ => rfl) rfl (fun z _ => absurd z (by decide)) ?_
  refine K_Ld (q := 25) rfl rfl (fun _ _ => rfl) ?_
  refine K_Ld (q := 26) rfl rfl (fun _ _ => rfl) ?_
  refine K_GetX (q := 29) (w := ni_z (X (0) 3)) hX rfl (show ni_us 0 = true by decide +kernel) (show ni_kd 0 = 4 by decide +kernel) rfl rfl rfl ?_
  refine K_Put (q := 32) rfl (show ni_us 0 = true by decide +kernel) (show ni_kd 0 = 4 by decide +kernel) rfl rfl (fun _ _ _ => rfl) rfl (fun z _ => absurd z (by decide)) ?_
  refine K_push (q := 33) (c := 0) (z := 0) rfl rfl ?_
  refine K_St (q := 34) (ls' := [ni_aP (0), ni_aL (sd (0)), ni_aI (0)]) rfl (fun _ _ => rfl) (fun _ _ => rfl) ?_
  rw [← hB1]
  have g := mt_cpNr (xs := xs) hX B1 (ni_live B) q1 (by omega) eR hr (fun r hr8 => (hb _ _ (by omega)).trans (hid r hr8)) hE1 R 0 (by omega)
  rw [show 286 + 11 * 0 = 286 from rfl, nk_cp0, nk_cl0] at g
  exact g
end NCY6
