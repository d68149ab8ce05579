/-! LETTERS THAT ARE DUE -/
section MDU
variable {xs : List Int32} {St : Nat → Option ni_C} {A : Nat → Nat → Int}
theorem ni_lrO {s : Nat} (h : ni_ln s = 0) : ni_lr s = true := by
  unfold ni_lr
  rw [h]
  rfl
theorem ni_cpJ {M0 : ni_H} {ad rw0 cp0 : Nat → Nat} {M : ni_H} {rw cp : Nat → Nat} {L : Nat → Nat} {l j : Nat} (h : ni_Sx St M0 ad rw0 cp0 M rw cp A L) (hs : ni_us l = true) (hk : ni_kd l = 2) (hj : (j : Int) < A l 2) : j < cp (l + 1) ∧ j < cp (l + 2) ∧ j < 1000000 := by
  have hl := ni_lnsC hs hk
  have h1 := h.1.2.2.2.1 l hl
  have h2 := ni_cpB h.1.2.2.1 hl
  omega
theorem mt_dueL {l n : Nat} {t : Int} (ht : 0 ≤ t ∧ t ≤ 1000000) (hs : ni_us l = true) (hk : ni_kd l = 2) (hn : A l 2 = n) (hn1 : n ≤ 2048) (hq : ∀ i : Nat, (i : Int) < A l 2 → 0 ≤ A (l + 2) i ∧ A (l + 2) i ≤ 1000000) : ∀ k i : Nat, i + k = n → ∃ v : Int, ni_Dr xs St 0 63 2 (fun ad => [.ref (ad l), ni_z t, ni_z (i : Int)]) A (fun _ => some (ni_z v)) A ∧ (i ≤ v ∧ v ≤ n) ∧ ∀ j : Nat, i ≤ j → (j : Int) < v → A (l + 2) j ≤ t := by
  have h374 := (ni_usT hs).1
  intro k
  induction k with
  | zero =>
    intro i hi
    have hin : i = n := by omega
    subst hin
    refine ⟨i, ?_, by omega, fun j h1 h2 => by omega⟩
    · intro M0 ad rw cp hR
      have h0 : ni_Sx St M0 ad rw cp M0 rw cp A (ni_live A) := ⟨hR, ni_KpR⟩
      have c0 := ni_clR A
      refine wp_Ld rfl rfl rfl ?_
      refine wp_Ld rfl rfl rfl ?_
      refine ws_Get (v := ni_z (A (l) 2)) rfl h0 hs hk rfl rfl rfl ?_
      refine wp_Ic true rfl (zc_ge_t ⟨by omega, by omega⟩ ⟨by omega, by omega⟩ (by omega)) ?_
      refine wp_Ld rfl rfl rfl ?_
      exact ws_R (v := fun _ => some (ni_z (i : Int))) rfl rfl h0 c0 rfl
  | succ k ih =>
    intro i hi
    have hqi := hq i (by omega)
    by_cases h : A (l + 2) i ≤ t
    · obtain ⟨v, g, h1, h2⟩ := ih (i + 1) (by omega)
      refine ⟨v, ?_, by omega, fun j h3 h4 => ?_⟩
      · intro M0 ad rw cp hR
        have h0 : ni_Sx St M0 ad rw cp M0 rw cp A (ni_live A) := ⟨hR, ni_KpR⟩
        have c0 := ni_clR A
        refine wp_Ld rfl rfl rfl ?_
        refine wp_Ld rfl rfl rfl ?_
        refine ws_Get (v := ni_z (A (l) 2)) rfl h0 hs hk rfl rfl rfl ?_
        refine wp_Ic false rfl (zc_ge_f ⟨by omega, by omega⟩ ⟨by omega, by omega⟩ (by omega)) ?_
        refine wp_Ld rfl rfl rfl ?_
        refine ws_Get (v := .ref (rw (l + 2))) rfl h0 hs hk rfl rfl rfl ?_
        refine wp_Ld rfl rfl rfl ?_
        refine ws_AldR (j := i) (v := ni_z (A (l + 2) (i))) rfl h0 (ni_o2_2 hs hk).1 (ni_o2_2 hs hk).2.1 (ni_lrO (ni_o2_2 hs hk).2.2.1) ⟨by decide, rfl⟩ rfl (ni_cpJ h0 hs hk (by omega)).2.1 (ni_cpJ h0 hs hk (by omega)).2.2 (ni_LQ (ni_o2_2 hs hk).2.2.2 (by omega) (by omega)) rfl rfl ?_
        refine wp_Ld rfl rfl rfl ?_
        refine wp_Ic false rfl (zc_gt_f ⟨by omega, by omega⟩ ⟨by omega, by omega⟩ (by omega)) ?_
        refine wp_Inc (ls' := [.ref (ad (l)), ni_z (t), ni_z ((i : Int) + 1)]) (x' := (i : Int) + 1) rfl rfl (zi_inc (z := 1) rfl) rfl ?_
        refine wp_P (g := ni_gGo 2) rfl rfl ?_
        exact ws_Dg h0 c0 g rfl
      · by_cases e : j = i
        · rw [e]
          exact h
        · exact h2 j (by omega) h4
    · refine ⟨i, ?_, by omega, fun j h1 h2 => by omega⟩
      · intro M0 ad rw cp hR
        have h0 : ni_Sx St M0 ad rw cp M0 rw cp A (ni_live A) := ⟨hR, ni_KpR⟩
        have c0 := ni_clR A
        refine wp_Ld rfl rfl rfl ?_
        refine wp_Ld rfl rfl rfl ?_
        refine ws_Get (v := ni_z (A (l) 2)) rfl h0 hs hk rfl rfl rfl ?_
        refine wp_Ic false rfl (zc_ge_f ⟨by omega, by omega⟩ ⟨by omega, by omega⟩ (by omega)) ?_
        refine wp_Ld rfl rfl rfl ?_
        refine ws_Get (v := .ref (rw (l + 2))) rfl h0 hs hk rfl rfl rfl ?_
        refine wp_Ld rfl rfl rfl ?_
        refine ws_AldR (j := i) (v := ni_z (A (l + 2) (i))) rfl h0 (ni_o2_2 hs hk).1 (ni_o2_2 hs hk).2.1 (ni_lrO (ni_o2_2 hs hk).2.2.1) ⟨by decide, rfl⟩ rfl (ni_cpJ h0 hs hk (by omega)).2.1 (ni_cpJ h0 hs hk (by omega)).2.2 (ni_LQ (ni_o2_2 hs hk).2.2.2 (by omega) (by omega)) rfl rfl ?_
        refine wp_Ld rfl rfl rfl ?_
        refine wp_Ic true rfl (zc_gt_t ⟨by omega, by omega⟩ ⟨by omega, by omega⟩ (by omega)) ?_
        refine wp_Ld rfl rfl rfl ?_
        exact ws_R (v := fun _ => some (ni_z (i : Int))) rfl rfl h0 c0 rfl
theorem mt_due {l : Nat} {t : Int} (ht : 0 ≤ t ∧ t ≤ 1000000) (hs : ni_us l = true) (hk : ni_kd l = 2) (hn : 0 ≤ A l 2 ∧ A l 2 ≤ 2048) (hq : ∀ i : Nat, (i : Int) < A l 2 → 0 ≤ A (l + 2) i ∧ A (l + 2) i ≤ 1000000) : ∃ v : Int, ni_Dc xs St 1 63 (fun ad => [.ref (ad l), ni_z t]) A (fun _ => some (ni_z v)) A ∧ (0 ≤ v ∧ v ≤ A l 2) ∧ ∀ j : Nat, (j : Int) < v → A (l + 2) j ≤ t := by
  obtain ⟨v, g, h1, h2⟩ := mt_dueL (xs := xs) (St := St) ht hs hk (n := (A l 2).toNat) (by omega) (by omega) hq (A l 2).toNat 0 (by omega)
  refine ⟨v, ?_, by omega, fun j h3 => h2 j (by omega) h3⟩
  · refine ni_Dw (fun _ => Nat.le_of_ble_eq_true rfl) (fun _ => rfl) ?_
    intro M0 ad rw cp hR
    have h0 : ni_Sx St M0 ad rw cp M0 rw cp A (ni_live A) := ⟨hR, ni_KpR⟩
    have c0 := ni_clR A
    refine wp_P (g := ni_gPush (.int (0)) 1) rfl (wp_push (z := 0) rfl) ?_
    refine wp_St (ls' := [.ref (ad (l)), ni_z (t), ni_z (0)]) rfl rfl rfl ?_
    exact ws_Dg h0 c0 g rfl
/-- a letter is stored in a row -/
theorem ws_Qst {M0 : ni_H} {ad rw0 cp0 : Nat → Nat} {d y pc q : Nat} {ls st : List Value} {M : ni_H} {rw cp : Nat → Nat} {L L' : Nat → Nat} {Q : Option Value → ni_H → Prop} {s j b a : Nat} {i : Int} {c : ni_C} (hp : ni_prog xs y pc = ni_sQst q) (h : ni_Sx St M0 ad rw0 cp0 M rw cp A L) (hs : ni_us s = true) (hk : ni_kd s = 104) (ha : ni_pl ad rw s = a) (hi : i = j) (hj : j < cp s) (hn : j < 1000000) (hb : St b = some c) (hc : c.1 = 1) (hL : L' = L ∨ (L' = ni_u1 L s (j + 1) ∧ j = L s)) (k : ∀ M', ni_Sx St M0 ad rw0 cp0 M' rw cp (ni_u2 A s j (b : Int)) L' → wp_G xs d y q ls st M' Q) : wp_G xs d y pc ls (.ref b :: ni_z i :: .ref a :: st) M Q := by
  subst hi
  obtain ⟨vs, g1, g2, g3⟩ := h.1.2.1 s hs
  have hz := ni_clZ (x := (j : Int)) (by omega)
  have hMb := (h.1.2.2.2.2.1 b c hb).1
  have g1' := g1
  rw [ha, hk] at g1
  have hw := wp_wrS (c := (104, vs.set j (.ref b))) g1
  obtain ⟨u, M', ⟨f, h1⟩, h2⟩ := k (M.1.set a (104, vs.set j (.ref b)), M.2) ⟨by
    refine ni_repW (vs := vs) (w := .ref b) h.1 hs g1' hj ?_ (by rw [ha, hk]; exact hw) hL (fun z => absurd z (by rw [hk]; decide))
    rw [hk]
    show Value.ref b = Value.ref (ni_u2 A s j (b : Int) s j).toNat
    rw [ni_u2e]
    rfl, by
    refine ni_kpW (c0 := (ni_kd s, vs)) h.2 hs g1' (by rw [ha]; exact hw) ?_
    exact List.length_set⟩
  refine ⟨u, M', ⟨f + 1, ?_⟩, h2⟩
  rw [ni_exS, hp]
  unfold ni_sQst
  simp only [g1]
  rw [if_pos ⟨by decide, hz.1, by rw [hz.2, Int.toNat_natCast]; omega⟩]
  rw [hz.2, Int.toNat_natCast]
  rw [show ni_aks[104 - 100]? = some (FieldType.object "Switchyard$Letter") from rfl]
  simp only [hMb]
  rw [hc, if_pos ⟨by decide, by decide +kernel⟩]
  exact h1
end MDU
