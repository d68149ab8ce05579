/-! COPIES: FLOWS, LISTS, TABLES -/
section NCY1
variable {xs : List Int32} {St : Nat → Option ni_C} {sd sr : Nat → Nat} {X : Nat → Nat → Int}
theorem nk_cpn {A : Nat → Nat → Int} {s k s' j : Nat} {F : Nat → Int} (h : s' ≠ s ∨ k ≤ j) : nk_cp A s k F s' j = A s' j := by
  unfold nk_cp
  rw [if_neg (by omega)]
/-- what is copied lies in cells of St -/
def nk_src (St : Nat → Option ni_C) (sd sr : Nat → Nat) (X : Nat → Nat → Int) : Prop := ∀ s, ni_us s = true → ∃ vs, St (ni_pl sd sr s) = some (ni_kd s, vs) ∧ (ni_lr s = false → vs.length = ni_ln s) ∧ (ni_lr s = true → ni_live X s ≤ vs.length ∧ ∃ k, k ≤ 8 ∧ vs.length = 8 * 2 ^ k) ∧ ∀ j, j < vs.length → j < ni_live X s → vs[j]? = some (ni_vk (ni_kd s) sd sr X s j)
theorem nk_l9 {s n j : Nat} (hl : ni_ln s = n) (h9 : (ni_ct s).1 = 999) (hj : j < n) (hn : n ≤ 1000) : j < ni_ln s ∧ j < ni_live X s := by
  rw [ni_live9 h9, hl]
  omega
def nk_ob (t : Nat) : Bool := Nat.ble 100 t && (match ni_aks[t - 100]? with
  | some (.object _) => true
  | _ => false)
theorem nk_lrF {s n : Nat} (hl : ni_ln s = n) (hn : 0 < n) : ni_lr s = false := by
  unfold ni_lr
  rw [hl]
  cases n with
  | zero => omega
  | succ n => rfl
section X
variable {d y pc q : Nat} {ls st ls' : List ni_a} {A : Nat → Nat → Int} {L : Nat → Nat} {P : (Nat → Nat → Int) → (Nat → Nat) → Prop}
theorem K_GetX {ci j s : Nat} {w : Value} (hX : nk_src St sd sr X) (hp : ni_prog xs y pc = ni_sGet ci j q) (hs : ni_us s = true) (hk : ni_kd s = ci) (ho : ni_ob ci = true) (hj : Nat.blt j (ni_lk ci) = true) (hv : ni_vk ci sd sr X s j = w) (k : nk_E xs St d y q ls (.inl w :: st) A L P) : nk_E xs St d y pc ls (ni_aL (sd s) :: st) A L P := by
  obtain ⟨o1, o2, o3⟩ := ni_objS hs hk ho
  obtain ⟨vs, g1, g2, _, g3⟩ := hX s hs
  have hpl : ni_pl sd sr s = sd s := by
    unfold ni_pl
    rw [o2, cond_false]
  rw [hpl, hk] at g1
  have h1 : j < ni_lk ci := by simpa [Nat.blt_eq] using hj
  have h2 : ni_lk ci ≤ 19 := by
    unfold ni_lk
    split <;> omega
  have g4 := g3 j (by rw [g2 o2, o1]; exact h1) (by rw [ni_live9 o3]; omega)
  rw [hk, hv] at g4
  exact K_GetS (v := .inl w) hp g1 (fun _ _ => g4) k
theorem K_QldX {s t j a : Nat} {i : Int} (hX : nk_src St sd sr X) (hp : ni_prog xs y pc = ni_sQld q) (hs : ni_us s = true) (hk : ni_kd s = t) (ht : nk_ob t = true) (hi : i = j) (hn : j < 1000000) (hl : j < ni_ln s ∧ j < ni_live X s) (hv : ni_vk t sd sr X s j = .ref a) (k : nk_E xs St d y q ls (ni_aL a :: st) A L P) : nk_E xs St d y pc ls (ni_aI i :: ni_aL (sd s) :: st) A L P := by
  have hlr : ni_lr s = false := nk_lrF rfl (by omega)
  obtain ⟨vs, g1, g2, _, g3⟩ := hX s hs
  have hpl : ni_pl sd sr s = sd s := by
    unfold ni_pl
    rw [hlr, cond_false]
  rw [hpl, hk] at g1
  have g4 := g3 j (by rw [g2 hlr]; exact hl.1) hl.2
  rw [hk, hv] at g4
  unfold nk_ob at ht
  rw [Bool.and_eq_true] at ht
  cases hC : ni_aks[t - 100]? with
  | none => rw [hC] at ht; exact absurd ht.2 (by decide)
  | some ty =>
    cases ty with
    | object C => exact K_QldS hp g1 ⟨Nat.le_of_ble_eq_true ht.1, hC⟩ hi hn g4 k
    | _ => rw [hC] at ht; exact absurd ht.2 (by simp)
theorem K_CopyX {s n k s1 : Nat} {c : Int} (hX : nk_src St sd sr X) (hp : ni_prog xs y pc = ni_sCopy q) (hs : ni_us s = true) (hk : ni_kd s = 100) (hl : ni_ln s = n) (hn : 0 < n ∧ n ≤ 1000) (hc : c = k) (hkn : k ≤ n) (hs1 : ni_us s1 = true) (hk1 : ni_kd s1 = 100) (hkl : k ≤ ni_ln s1 ∧ k ≤ ni_live X s1 ∧ ni_lr s1 = false) (hst : st.length ≤ 4) (kk : nk_E xs St d y q ls st (nk_cp A s k (X s1)) (ni_u1 L s (max (L s) k)) P) : nk_E xs St d y pc ls (ni_aI c :: ni_aI 0 :: ni_aP s :: ni_aI 0 :: ni_aL (sd s1) :: st) A L P := by
  obtain ⟨vs, g1, g2, _, g3⟩ := hX s1 hs1
  have hpl : ni_pl sd sr s1 = sd s1 := by
    unfold ni_pl
    rw [hkl.2.2, cond_false]
  rw [hpl, hk1] at g1
  refine K_Copy hp hs hk hl hn hc hkn g1 ⟨by rw [g2 hkl.2.2]; exact hkl.1, fun j hj => ?_⟩ hst kk
  have := g3 j (by rw [g2 hkl.2.2]; omega) (by omega)
  rw [hk1] at this
  exact this
end X
/-- places are copied -/
def nq_cpy (B X : Nat → Nat → Int) (lo hi : Nat) : Nat → Nat → Int := fun s j => if lo ≤ s ∧ s < hi then X s j else B s j
def nq_cpL (L : Nat → Nat) (X : Nat → Nat → Int) (lo hi : Nat) : Nat → Nat := fun s => if lo ≤ s ∧ s < hi then ni_live X s else L s
theorem nk_cg {M : ni_H} {ad rw cp : Nat → Nat} {B A' : Nat → Nat → Int} {K L' : Nat → Nat} (h : ni_Rep St M ad rw cp B K) (hv : ∀ s, ni_us s = true → ∀ j, j < cp s → j < L' s → j < K s ∧ (ni_rk (ni_kd s) s j = none → A' s j = B s j)) (hl : ∀ p ∈ ni_lns, A' p 2 ≤ cp (p + 1)) (h9 : ∀ s, ni_us s = true → (ni_ct s).1 = 999 → 1000 ≤ L' s) : ni_Rep St M ad rw cp A' L' := by
  obtain ⟨r1, r2, r3, r4, r5, r6, r7, r8⟩ := h
  refine ⟨r1, fun s hs => ?_, r3, hl, r5, r6, r7, h9⟩
  obtain ⟨vs, g1, g2, g3⟩ := r2 s hs
  refine ⟨vs, g1, g2, fun j hj hjL => ?_⟩
  obtain ⟨k1, k2⟩ := hv s hs j hj hjL
  rw [g3 j hj k1]
  unfold ni_vk
  cases hr : ni_rk (ni_kd s) s j with
  | none => dsimp only; rw [k2 hr]
  | some z => cases z <;> rfl
/-- a row's told part behind a copy -/
theorem nk_u1 {L : Nat → Nat} {s n s' : Nat} : ni_u1 L s n s' = if s' = s then n else L s' := rfl
theorem ni_lnP {p : Nat} (h : p ∈ ni_lns) : 50 ≤ p ∧ p < 286 ∧ ((p - 50) % 17 = 0 ∨ (p - 50) % 17 = 8) := by
  have g := List.all_eq_true.mp (show (ni_lns.all fun p => Nat.ble 50 p && Nat.blt p 286 && (Nat.beq ((p - 50) % 17) 0 || Nat.beq ((p - 50) % 17) 8)) = true by decide +kernel) p h
  simp only [Bool.and_eq_true, Bool.or_eq_true, Nat.beq_eq, Nat.ble_eq, Nat.blt_eq] at g
  exact ⟨g.1.1, g.1.2, g.2⟩
theorem mt_cpF {f : Nat} (hf : f < 12) (hX : nk_src St sd sr X) (B : Nat → Nat → Int) (L : Nat → Nat) : nk_D xs St 1 52 [ni_aP (12 + 3 * f), ni_aL (sd (12 + 3 * f))] B L (nq_cpy B X (12 + 3 * f) (12 + 3 * f + 3)) (nq_cpL L X (12 + 3 * f) (12 + 3 * f + 3)) := by
  refine nk_in (ls := [ni_aP (12 + 3 * f), ni_aL (sd (12 + 3 * f))]) (fun _ => Nat.le_of_ble_eq_true rfl) (fun _ _ => rfl) ?_
  refine K_Ld (q := 1) rfl rfl (fun _ _ => rfl) ?_
  refine K_Ld (q := 2) rfl rfl (fun _ _ => rfl) ?_
  refine K_GetX (q := 5) (w := ni_z (X (12 + 3 * f) 0)) hX rfl (ni_flS f hf).1 (ni_flS f hf).2 rfl rfl rfl ?_
  refine K_Put (q := 8) rfl (ni_flS f hf).1 (ni_flS f hf).2 rfl rfl (fun _ _ _ => rfl) rfl (fun z _ => absurd z (by decide)) ?_
  refine K_Ld (q := 9) rfl rfl (fun _ _ => rfl) ?_
  refine K_Ld (q := 10) rfl rfl (fun _ _ => rfl) ?_
  refine K_GetX (q := 13) (w := ni_z (X (12 + 3 * f) 1)) hX rfl (ni_flS f hf).1 (ni_flS f hf).2 rfl rfl rfl ?_
  refine K_Put (q := 16) rfl (ni_flS f hf).1 (ni_flS f hf).2 rfl rfl (fun _ _ _ => rfl) rfl (fun z _ => absurd z (by decide)) ?_
  refine K_Ld (q := 17) rfl rfl (fun _ _ => rfl) ?_
  refine K_Ld (q := 18) rfl rfl (fun _ _ => rfl) ?_
  refine K_GetX (q := 21) (w := ni_z (X (12 + 3 * f) 2)) hX rfl (ni_flS f hf).1 (ni_flS f hf).2 rfl rfl rfl ?_
  refine K_Put (q := 24) rfl (ni_flS f hf).1 (ni_flS f hf).2 rfl rfl (fun _ _ _ => rfl) rfl (fun z _ => absurd z (by decide)) ?_
  refine K_Ld (q := 25) rfl rfl (fun _ _ => rfl) ?_
  refine K_Ld (q := 26) rfl rfl (fun _ _ => rfl) ?_
  refine K_GetX (q := 29) (w := ni_z (X (12 + 3 * f) 3)) hX rfl (ni_flS f hf).1 (ni_flS f hf).2 rfl rfl rfl ?_
  refine K_Put (q := 32) rfl (ni_flS f hf).1 (ni_flS f hf).2 rfl rfl (fun _ _ _ => rfl) rfl (fun z _ => absurd z (by decide)) ?_
  refine K_Ld (q := 33) rfl rfl (fun _ _ => rfl) ?_
  refine K_Ld (q := 34) rfl rfl (fun _ _ => rfl) ?_
  refine K_GetX (q := 37) (w := ni_z (X (12 + 3 * f) 4)) hX rfl (ni_flS f hf).1 (ni_flS f hf).2 rfl rfl rfl ?_
  refine K_Put (q := 40) rfl (ni_flS f hf).1 (ni_flS f hf).2 rfl rfl (fun _ _ _ => rfl) rfl (fun z _ => absurd z (by decide)) ?_
  refine K_Ld (q := 41) rfl rfl (fun _ _ => rfl) ?_
  refine K_Ld (q := 42) rfl rfl (fun _ _ => rfl) ?_
  refine K_GetX (q := 45) (w := ni_z (X (12 + 3 * f) 5)) hX rfl (ni_flS f hf).1 (ni_flS f hf).2 rfl rfl rfl ?_
  refine K_Put (q := 48) rfl (ni_flS f hf).1 (ni_flS f hf).2 rfl rfl (fun _ _ _ => rfl) rfl (fun z _ => absurd z (by decide)) ?_
  refine K_Ld (q := 49) rfl rfl (fun _ _ => rfl) ?_
  refine K_Ld (q := 50) rfl rfl (fun _ _ => rfl) ?_
  refine K_GetX (q := 53) (w := ni_z (X (12 + 3 * f) 6)) hX rfl (ni_flS f hf).1 (ni_flS f hf).2 rfl rfl rfl ?_
  refine K_Put (q := 56) rfl (ni_flS f hf).1 (ni_flS f hf).2 rfl rfl (fun _ _ _ => rfl) rfl (fun z _ => absurd z (by decide)) ?_
  refine K_Ld (q := 57) rfl rfl (fun _ _ => rfl) ?_
  refine K_Ld (q := 58) rfl rfl (fun _ _ => rfl) ?_
  refine K_GetX (q := 61) (w := ni_z (X (12 + 3 * f) 7)) hX rfl (ni_flS f hf).1 (ni_flS f hf).2 rfl rfl rfl ?_
  refine K_Put (q := 64) rfl (ni_flS f hf).1 (ni_flS f hf).2 rfl rfl (fun _ _ _ => rfl) rfl (fun z _ => absurd z (by decide)) ?_
  refine K_Ld (q := 65) rfl rfl (fun _ _ => rfl) ?_
  refine K_Ld (q := 66) rfl rfl (fun _ _ => rfl) ?_
  refine K_GetX (q := 69) (w := ni_z (X (12 + 3 * f) 8)) hX rfl (ni_flS f hf).1 (ni_flS f hf).2 rfl rfl rfl ?_
  refine K_Put (q := 72) rfl (ni_flS f hf).1 (ni_flS f hf).2 rfl rfl (fun _ _ _ => rfl) rfl (fun z _ => absurd z (by decide)) ?_
  refine K_Ld (q := 73) rfl rfl (fun _ _ => rfl) ?_
  refine K_Ld (q := 74) rfl rfl (fun _ _ => rfl) ?_
  refine K_GetX (q := 77) (w := ni_z (X (12 + 3 * f) 9)) hX rfl (ni_flS f hf).1 (ni_flS f hf).2 rfl rfl rfl ?_
  refine K_Put (q := 80) rfl (ni_flS f hf).1 (ni_flS f hf).2 rfl rfl (fun _ _ _ => rfl) rfl (fun z _ => absurd z (by decide)) ?_
  refine K_Ld (q := 81) rfl rfl (fun _ _ => rfl) ?_
  refine K_GetX (q := 84) (w := .ref (sd (12 + 3 * f + 1))) hX rfl (ni_flS f hf).1 (ni_flS f hf).2 rfl rfl rfl ?_
  refine K_push (q := 85) (c := 0) (z := 0) rfl rfl ?_
  refine K_Ld (q := 86) rfl rfl (fun _ _ => rfl) ?_
  refine K_Get (q := 89) (v := ni_aP (12 + 3 * f + 1)) rfl (ni_flS f hf).1 (ni_flS f hf).2 rfl rfl (fun _ _ => rfl) ?_
  refine K_push (q := 90) (c := 0) (z := 0) rfl rfl ?_
  refine K_push (q := 92) (c := 10) (z := 10) rfl rfl ?_
  refine K_CopyX (q := 95) (k := 10) hX rfl (ni_o0_1 (ni_flS f hf).1 (ni_flS f hf).2).1 (ni_o0_1 (ni_flS f hf).1 (ni_flS f hf).2).2.1 (ni_o0_1 (ni_flS f hf).1 (ni_flS f hf).2).2.2.1 (by decide) rfl (by omega) (ni_o0_1 (ni_flS f hf).1 (ni_flS f hf).2).1 (ni_o0_1 (ni_flS f hf).1 (ni_flS f hf).2).2.1 ⟨Nat.le_of_eq (ni_o0_1 (ni_flS f hf).1 (ni_flS f hf).2).2.2.1.symm, by rw [ni_live9 (ni_o0_1 (ni_flS f hf).1 (ni_flS f hf).2).2.2.2]; omega, nk_lrF (ni_o0_1 (ni_flS f hf).1 (ni_flS f hf).2).2.2.1 (by omega)⟩ (Nat.le_of_ble_eq_true rfl) ?_
  refine K_Ld (q := 96) rfl rfl (fun _ _ => rfl) ?_
  refine K_Ld (q := 97) rfl rfl (fun _ _ => rfl) ?_
  refine K_GetX (q := 100) (w := ni_z (X (12 + 3 * f) 11)) hX rfl (ni_flS f hf).1 (ni_flS f hf).2 rfl rfl rfl ?_
  refine K_Put (q := 103) rfl (ni_flS f hf).1 (ni_flS f hf).2 rfl rfl (fun _ _ _ => rfl) rfl (fun z _ => absurd z (by decide)) ?_
  refine K_Ld (q := 104) rfl rfl (fun _ _ => rfl) ?_
  refine K_Ld (q := 105) rfl rfl (fun _ _ => rfl) ?_
  refine K_GetX (q := 108) (w := ni_z (X (12 + 3 * f) 12)) hX rfl (ni_flS f hf).1 (ni_flS f hf).2 rfl rfl rfl ?_
  refine K_Put (q := 111) rfl (ni_flS f hf).1 (ni_flS f hf).2 rfl rfl (fun _ _ _ => rfl) rfl (fun z _ => absurd z (by decide)) ?_
  refine K_Ld (q := 112) rfl rfl (fun _ _ => rfl) ?_
  refine K_Ld (q := 113) rfl rfl (fun _ _ => rfl) ?_
  refine K_GetX (q := 116) (w := ni_z (X (12 + 3 * f) 13)) hX rfl (ni_flS f hf).1 (ni_flS f hf).2 rfl rfl rfl ?_
  refine K_Put (q := 119) rfl (ni_flS f hf).1 (ni_flS f hf).2 rfl rfl (fun _ _ _ => rfl) rfl (fun z _ => absurd z (by decide)) ?_
  refine K_Ld (q := 120) rfl rfl (fun _ _ => rfl) ?_
  refine K_GetX (q := 123) (w := .ref (sd (12 + 3 * f + 2))) hX rfl (ni_flS f hf).1 (ni_flS f hf).2 rfl rfl rfl ?_
  refine K_push (q := 124) (c := 0) (z := 0) rfl rfl ?_
  refine K_Ld (q := 125) rfl rfl (fun _ _ => rfl) ?_
  refine K_Get (q := 128) (v := ni_aP (12 + 3 * f + 2)) rfl (ni_flS f hf).1 (ni_flS f hf).2 rfl rfl (fun _ _ => rfl) ?_
  refine K_push (q := 129) (c := 0) (z := 0) rfl rfl ?_
  refine K_push (q := 131) (c := 7) (z := 7) rfl rfl ?_
  refine K_CopyX (q := 134) (k := 7) hX rfl (ni_o0_2 (ni_flS f hf).1 (ni_flS f hf).2).1 (ni_o0_2 (ni_flS f hf).1 (ni_flS f hf).2).2.1 (ni_o0_2 (ni_flS f hf).1 (ni_flS f hf).2).2.2.1 (by decide) rfl (by omega) (ni_o0_2 (ni_flS f hf).1 (ni_flS f hf).2).1 (ni_o0_2 (ni_flS f hf).1 (ni_flS f hf).2).2.1 ⟨Nat.le_of_eq (ni_o0_2 (ni_flS f hf).1 (ni_flS f hf).2).2.2.1.symm, by rw [ni_live9 (ni_o0_2 (ni_flS f hf).1 (ni_flS f hf).2).2.2.2]; omega, nk_lrF (ni_o0_2 (ni_flS f hf).1 (ni_flS f hf).2).2.2.1 (by omega)⟩ (Nat.le_of_ble_eq_true rfl) ?_
  refine K_Ld (q := 135) rfl rfl (fun _ _ => rfl) ?_
  refine K_Ld (q := 136) rfl rfl (fun _ _ => rfl) ?_
  refine K_GetX (q := 139) (w := ni_z (X (12 + 3 * f) 15)) hX rfl (ni_flS f hf).1 (ni_flS f hf).2 rfl rfl rfl ?_
  refine K_Put (q := 142) rfl (ni_flS f hf).1 (ni_flS f hf).2 rfl rfl (fun _ _ _ => rfl) rfl (fun z _ => absurd z (by decide)) ?_
  refine K_Ld (q := 143) rfl rfl (fun _ _ => rfl) ?_
  refine K_Ld (q := 144) rfl rfl (fun _ _ => rfl) ?_
  refine K_GetX (q := 147) (w := ni_z (X (12 + 3 * f) 16)) hX rfl (ni_flS f hf).1 (ni_flS f hf).2 rfl rfl rfl ?_
  refine K_Put (q := 150) rfl (ni_flS f hf).1 (ni_flS f hf).2 rfl rfl (fun _ _ _ => rfl) rfl (fun z _ => absurd z (by decide)) ?_
  refine K_Ld (q := 151) rfl rfl (fun _ _ => rfl) ?_
  refine K_Ld (q := 152) rfl rfl (fun _ _ => rfl) ?_
  refine K_GetX (q := 155) (w := ni_z (X (12 + 3 * f) 17)) hX rfl (ni_flS f hf).1 (ni_flS f hf).2 rfl rfl rfl ?_
  refine K_Put (q := 158) rfl (ni_flS f hf).1 (ni_flS f hf).2 rfl rfl (fun _ _ _ => rfl) rfl (fun z _ => absurd z (by decide)) ?_
  refine K_Ld (q := 159) rfl rfl (fun _ _ => rfl) ?_
  refine K_Ld (q := 160) rfl rfl (fun _ _ => rfl) ?_
  refine K_GetX (q := 163) (w := ni_z (X (12 + 3 * f) 18)) hX rfl (ni_flS f hf).1 (ni_flS f hf).2 rfl rfl rfl ?_
  refine K_Put (q := 166) rfl (ni_flS f hf).1 (ni_flS f hf).2 rfl rfl (fun _ _ _ => rfl) rfl (fun z _ => absurd z (by decide)) ?_
  refine K_Rv rfl rfl ?_
  intro M ad rw cp hR
  refine nk_cg hR (fun s hs j hj hjL => ?_) (fun p hp => ?_) (fun s hs h9 => ?_)
  · unfold nq_cpL at hjL
    unfold nq_cpy
    by_cases hr : 12 + 3 * f ≤ s ∧ s < 12 + 3 * f + 3
    · rw [if_pos hr] at hjL ⊢
      rcases (show s = 12 + 3 * f ∨ s = 12 + 3 * f + 1 ∨ s = 12 + 3 * f + 2 by omega) with r | r | r
      · subst r
        have hj19 : j < 19 := by
          have := hR.2.2.1.1 _ hs (ni_objS hs (ni_flS f hf).2 rfl).2.1
          rw [(ni_objS hs (ni_flS f hf).2 rfl).1] at this
          have e : ni_lk 0 = 19 := rfl
          omega
        refine ⟨?_, fun hn => ?_⟩
        · have := hR.2.2.2.2.2.2.2 _ hs (ni_objS hs (ni_flS f hf).2 rfl).2.2
          omega
        · rw [(ni_flS f hf).2] at hn
          rcases (show j = 0 ∨ j = 1 ∨ j = 2 ∨ j = 3 ∨ j = 4 ∨ j = 5 ∨ j = 6 ∨ j = 7 ∨ j = 8 ∨ j = 9 ∨ j = 10 ∨ j = 11 ∨ j = 12 ∨ j = 13 ∨ j = 14 ∨ j = 15 ∨ j = 16 ∨ j = 17 ∨ j = 18 by omega) with r | r | r | r | r | r | r | r | r | r | r | r | r | r | r | r | r | r | r <;> subst r <;> first | (cases hn; done) | simp [ni_u2, nk_cp]
      · subst r
        have := ni_cpL hR.2.2.1 hs (ni_o0_1 (ni_flS f hf).1 (ni_flS f hf).2).2.2.1 (by omega)
        refine ⟨?_, fun _ => by simp [ni_u2, nk_cp]; omega⟩
        have := hR.2.2.2.2.2.2.2 _ hs (ni_o0_1 (ni_flS f hf).1 (ni_flS f hf).2).2.2.2
        omega
      · subst r
        have := ni_cpL hR.2.2.1 hs (ni_o0_2 (ni_flS f hf).1 (ni_flS f hf).2).2.2.1 (by omega)
        refine ⟨?_, fun _ => by simp [ni_u2, nk_cp]; omega⟩
        have := hR.2.2.2.2.2.2.2 _ hs (ni_o0_2 (ni_flS f hf).1 (ni_flS f hf).2).2.2.2
        omega
    · rw [if_neg hr] at hjL ⊢
      refine ⟨?_, fun _ => ?_⟩
      · rw [ni_u1n (by omega), ni_u1n (by omega)]
        exact hjL
      · simp only [ni_u2, nk_cp]
        repeat rw [if_neg (by omega)]
  · have hp2 := ni_lnP hp
    have := hR.2.2.2.1 p hp
    unfold nq_cpy
    rw [if_neg (by omega)]
    simp only [ni_u2, nk_cp] at this
    repeat rw [if_neg (by omega)] at this
    exact this
  · unfold nq_cpL
    have := hR.2.2.2.2.2.2.2 s hs h9
    by_cases hr : 12 + 3 * f ≤ s ∧ s < 12 + 3 * f + 3
    · rw [if_pos hr, ni_live9 h9]
      exact Nat.le_refl _
    · rw [if_neg hr]
      rw [ni_u1n (by omega), ni_u1n (by omega)] at this
      exact this
end NCY1
