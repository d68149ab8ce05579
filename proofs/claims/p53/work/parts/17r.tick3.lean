/-! A TICK: THE WHOLE -/
section NTW
variable {Z : (Nat → Nat) → Prop} {xs : List Int32} {St : Nat → Option ni_C} {A : Nat → Nat → Int}
/-- routers, as they reckoned -/
def nq_RT (A : Nat → Nat → Int) (n : Int) : Prop := ∀ r : Nat, r < 8 → (r : Int) < n → A (286 + 11 * r) 0 = r ∧ (A (286 + 11 * r) 5 = 0 ∨ A (286 + 11 * r) 5 = 1) ∧ ni_RD A (286 + 11 * r) r 10000 ∧ ni_TS A (286 + 11 * r + 7)
def nq_fr4 (A1 A : Nat → Nat → Int) (n : Int) : Prop := ∀ s j, (∀ r : Nat, r < 8 → (r : Int) < n → ¬ (s = 286 + 11 * r ∧ j = 5) ∧ (s < 286 + 11 * r + 5 ∨ 286 + 11 * r + 10 < s)) → A s j = A1 s j
theorem nq_RDc {A A' : Nat → Nat → Int} {s r : Nat} {D : Int} (h : ni_RD A s r D) (h0 : A' s 0 = A s 0) (h5 : ∀ o, A' (s + 5) o = A (s + 5) o) (h6 : ∀ o, A' (s + 6) o = A (s + 6) o) : ni_RD A' s r D := ⟨h0.trans h.1, fun o ho => by rw [h5, h6]; exact h.2 o ho⟩
theorem nq_TSc {A A' : Nat → Nat → Int} {t : Nat} (h : ni_TS A t) (h0 : A' t 3 = A t 3) (h1 : ∀ o, A' (t + 1) o = A (t + 1) o) (h2 : ∀ o, A' (t + 2) o = A (t + 2) o) (h3 : ∀ o, A' (t + 3) o = A (t + 3) o) : ni_TS A' t := by
  unfold ni_TS ni_TI at h ⊢
  simp only [h0, h1, h2, h3]
  exact h
theorem nq_RTs {A A2 : Nat → Nat → Int} {i : Nat} {n : Int} (h : nq_RT A n) (hi : i < 8) (hf : ni_frK A A2 (286 + 11 * i)) (h1 : ni_RD A2 (286 + 11 * i) i 10000) (h2 : ni_TS A2 (286 + 11 * i + 7)) (h3 : A2 (286 + 11 * i) 5 = 0) : nq_RT A2 n := fun r hr hrn => by
  obtain ⟨a1, a2, a3, a4⟩ := h r hr hrn
  by_cases e : r = i
  · subst e
    exact ⟨by rw [hf _ _ (by omega) (by omega)]; exact a1, Or.inl h3, h1, h2⟩
  · exact ⟨by rw [hf _ _ (by omega) (by omega)]; exact a1, by rw [hf _ _ (by omega) (by omega)]; exact a2, nq_RDc a3 (hf _ _ (by omega) (by omega)) (fun o => hf _ _ (by omega) (by omega)) (fun o => hf _ _ (by omega) (by omega)), nq_TSc a4 (hf _ _ (by omega) (by omega)) (fun o => hf _ _ (by omega) (by omega)) (fun o => hf _ _ (by omega) (by omega)) (fun o => hf _ _ (by omega) (by omega))⟩
theorem mt_tk4 {n : Int} {P : Option ni_a → (Nat → Nat → Int) → Prop} (hn8 : n ≤ 8) : ∀ k i : Nat, ∀ (A : Nat → Nat → Int), ((i : Int) + k = n) → A 0 1 = n → ni_LB A → (∀ r : Nat, r < 8 → (r : Int) < n → ni_LK St A (286 + 11 * r)) → ni_PL A 4 → ni_PL A 8 → (∀ i : Nat, (i : Int) < A 8 3 → 0 ≤ A (8 + 3) i) → nq_RT A n → (∀ A2 : Nat → Nat → Int, nq_fr4 A A2 n → nq_RT A2 n → ni_E xs St Z 6 96 206 [ni_aP (0), ni_aI (n)] [] A2 (ni_live A2) P) → ni_E xs St Z 6 96 171 [ni_aP (0), ni_aI ((i : Int))] [] A (ni_live A) P := by
  intro k
  induction k with
  | zero =>
    intro i A hi hn hLB hLK hPN hPS hSS hRT hK
    refine E_Ld (q := 172) rfl rfl (fun _ _ => rfl) ?_
    refine E_Ld (q := 173) rfl rfl (fun _ _ => rfl) ?_
    refine E_GetI (q := 176) (e := A (0) 1) rfl (show ni_us 0 = true by decide +kernel) (show ni_kd 0 = 4 by decide +kernel) rfl rfl (fun _ _ => rfl) ?_
    refine E_Ic true rfl (zc_ge_t ⟨by omega, by omega⟩ ⟨by omega, by omega⟩ (by omega)) ?_
    rw [show (i : Int) = n by omega]
    exact hK A (fun _ _ _ => rfl) hRT
  | succ k ih =>
    intro i A hi hn hLB hLK hPN hPS hSS hRT hK
    have hi8 : i < 8 := by omega
    refine E_Ld (q := 172) rfl rfl (fun _ _ => rfl) ?_
    refine E_Ld (q := 173) rfl rfl (fun _ _ => rfl) ?_
    refine E_GetI (q := 176) (e := A (0) 1) rfl (show ni_us 0 = true by decide +kernel) (show ni_kd 0 = 4 by decide +kernel) rfl rfl (fun _ _ => rfl) ?_
    refine E_Ic false rfl (zc_ge_f ⟨by omega, by omega⟩ ⟨by omega, by omega⟩ (by omega)) ?_
    refine E_Ld (q := 180) rfl rfl (fun _ _ => rfl) ?_
    refine E_Get (q := 183) (v := ni_aP 1) rfl (show ni_us 0 = true by decide +kernel) (show ni_kd 0 = 4 by decide +kernel) rfl rfl (fun _ _ => rfl) ?_
    refine E_Ld (q := 184) rfl rfl (fun _ _ => rfl) ?_
    refine E_Qld (q := 185) (j := i) (v := ni_aP (286 + 11 * i)) rfl (show ni_us 1 = true by decide +kernel) (show ni_kd 1 = 101 by decide +kernel) (show ni_ln 1 = 8 by decide +kernel) ⟨by decide, rfl⟩ rfl (by omega) (by decide) (ni_L9 (show ni_us 1 = true by decide +kernel) (by decide +kernel) (by omega)) (fun _ _ => rfl) (fun _ _ => rfl) ?_
    refine E_Ld (q := 186) rfl rfl (fun _ _ => rfl) ?_
    refine E_Get (q := 189) (v := ni_aP 2) rfl (show ni_us 0 = true by decide +kernel) (show ni_kd 0 = 4 by decide +kernel) rfl rfl (fun _ _ => rfl) ?_
    refine E_Ld (q := 190) rfl rfl (fun _ _ => rfl) ?_
    refine E_Get (q := 193) (v := ni_aP 4) rfl (show ni_us 0 = true by decide +kernel) (show ni_kd 0 = 4 by decide +kernel) rfl rfl (fun _ _ => rfl) ?_
    refine E_Ld (q := 194) rfl rfl (fun _ _ => rfl) ?_
    refine E_Get (q := 197) (v := ni_aP 8) rfl (show ni_us 0 = true by decide +kernel) (show ni_kd 0 = 4 by decide +kernel) rfl rfl (fun _ _ => rfl) ?_
    obtain ⟨a1, a2, a3, a4⟩ := hRT i hi8 (by omega)
    obtain ⟨v1, A2, ⟨hv1, hf2, hR2, hT2, h52⟩, hD1⟩ := mt_reckon (xs := xs) (St := St) (A := A) (s := 286 + 11 * i) (r := i) (ni_roS i hi8).1 (ni_roS i hi8).2 hi8 rfl a2 (by omega) a1 hLB (hLK i hi8 (by omega)) hPN hPS hSS (fun _ => a3) (fun _ => a4)
    subst hv1
    have hl : ∀ s j, s < 286 → A2 s j = A s j := fun s j hs => hf2 _ _ (by omega) (by omega)
    refine E_V (q := 200) (w := none) rfl rfl rfl (ni_roS i hi8).1 (ni_roS i hi8).2 rfl (Nat.le_of_ble_eq_true rfl) (fun _ _ _ => rfl) (ni_Dup hD1 (by decide)) (fun _ _ => rfl) (fun _ _ => rfl) ?_
    refine E_Inc (q := 203) (ls' := [ni_aP (0), ni_aI ((i : Int) + 1)]) (z := 1) rfl rfl rfl (fun _ _ => rfl) ?_
    refine E_Go (q := 171) rfl ?_
    refine ih (i + 1) A2 (by omega) (by rw [hl _ _ (by omega)]; exact hn) (ni_LBf hLB (fun l j hl' => hl _ _ (by omega))) (fun r hr hrn o ho => ?_) (ni_PLf hPN (fun j hj k => hl _ _ (by omega))) (ni_PLf hPS (fun j hj k => hl _ _ (by omega))) (fun k hk => ?_) (nq_RTs hRT hi8 hf2 hR2 hT2 h52) (fun A4 e1 e2 => hK A4 (fun s j g => ?_) e2)
    · rw [hf2 _ _ (by omega) (by omega)]
      exact hLK r hr hrn o ho
    · rw [hl _ _ (by omega)]
      rw [hl _ _ (by omega)] at hk
      exact hSS k hk
    · rw [e1 s j g]
      exact hf2 s j (g i hi8 (by omega)).1 (g i hi8 (by omega)).2
theorem nq_cs1 {A A' : Nat → Nat → Int} (h : ∀ s j, s < 286 → ¬ ni_isL s j → A' s j = A s j) : ni_cs0 A A' := ⟨h _ _ (by omega) (by unfold ni_isL; omega), h _ _ (by omega) (by unfold ni_isL; omega), h _ _ (by omega) (by unfold ni_isL; omega), h _ _ (by omega) (by unfold ni_isL; omega), fun f hf j hj => h _ _ (by omega) (by unfold ni_isL; omega), fun l hl j => h _ _ (by omega) (by unfold ni_isL; omega)⟩
/-- flows and ports, where letters and routers are others -/
theorem nq_NIt {A A' : Nat → Nat → Int} {e : Int} {lo dl : Nat → Int} (h : nq_NI A e lo dl) (hs : ∀ s j, s < 286 → ¬ ni_isL s j → A' s j = A s j) : nq_NI A' e lo dl := by
  have hc := nq_cs1 hs
  obtain ⟨h3, h0, he0, hF, hP, hB⟩ := h
  refine ⟨by rw [hc.2.2.2.1]; exact h3, by rw [hc.1]; exact h0, he0, fun f hf hfc => ?_, fun p hp => ?_, fun f hf hfc => ?_⟩
  · rw [hc.2.2.2.1] at hfc
    exact nq_FIc (hF f hf hfc) hc h3.2 (Int.le_refl _) (fun j => hs _ _ (by omega) (by unfold ni_isL; omega)) (fun j => hs _ _ (by omega) (by unfold ni_isL; omega)) (fun j => hs _ _ (by omega) (by unfold ni_isL; omega))
  · have hp' := hp
    unfold ni_po at hp'
    exact nq_PIc hp (hP p hp) hc h3.2 (Int.le_refl _) (fun j => hs _ _ (by omega) (by unfold ni_isL; omega)) (hs _ _ (by omega) (by unfold ni_isL; omega)) (fun j => hs _ _ (by omega) (by unfold ni_isL; omega)) (fun j => hs _ _ (by omega) (by unfold ni_isL; omega)) (fun j => hs _ _ (by omega) (by unfold ni_isL; omega)) (fun j => hs _ _ (by omega) (by unfold ni_isL; omega))
  · rw [hc.2.2.2.1] at hfc
    have h1 := hB f hf hfc
    have h4 : ni_In A' f 14 = ni_In A f 14 := ni_InC 14 (fun l hl => ⟨ni_WC (hs _ _ (by omega) (by unfold ni_isL; omega)) (fun j => hs _ _ (by omega) (by unfold ni_isL; omega)) (hs _ _ (by omega) (by unfold ni_isL; omega)) (fun j => hs _ _ (by omega) (by unfold ni_isL; omega)), ni_WC (hs _ _ (by omega) (by unfold ni_isL; omega)) (fun j => hs _ _ (by omega) (by unfold ni_isL; omega)) (hs _ _ (by omega) (by unfold ni_isL; omega)) (fun j => hs _ _ (by omega) (by unfold ni_isL; omega))⟩)
    have g : ∀ s j, s < 48 → A' s j = A s j := fun s j hs' => hs _ _ (by omega) (by unfold ni_isL; omega)
    unfold nq_dr at h1 ⊢
    rw [h4, g (12 + 3 * f) 12 (by omega), g (12 + 3 * f) 13 (by omega), g (12 + 3 * f) 11 (by omega), g (12 + 3 * f + 2) 0 (by omega), g (12 + 3 * f + 2) 1 (by omega), g (12 + 3 * f + 2) 2 (by omega), g (12 + 3 * f + 2) 3 (by omega), g (12 + 3 * f + 2) 4 (by omega), g (12 + 3 * f + 2) 5 (by omega), g (12 + 3 * f + 2) 6 (by omega)]
    exact h1
/-- the time goes on -/
theorem nq_NIp {A : Nat → Nat → Int} {e n : Int} {dl : Nat → Int} (h : nq_NI A e (fun q => if (q : Int) < 48 + 17 * n then 2 else 1) dl) (ht : A 0 0 ≤ 899999) (hd : ∀ l : Nat, l < 14 → n ≤ l → A (48 + 17 * l) 5 = 0) : nq_NI (ni_u2 A 0 0 (A 0 0 + 1)) e (fun _ => 0) dl := by
  obtain ⟨h3, h0, he0, hF, hP, hB⟩ := h
  have g : ∀ s j, s ≠ 0 → ni_u2 A 0 0 (A 0 0 + 1) s j = A s j := fun s j hs => ni_u2n (Or.inl hs)
  have g3 : ni_u2 A 0 0 (A 0 0 + 1) 0 3 = A 0 3 := ni_u2n (by omega)
  have gf : ∀ s, s ≠ 0 → ni_u2 A 0 0 (A 0 0 + 1) s = A s := fun s hs => funext fun j => g s j hs
  have hPK : ∀ x, ni_PK A x → ni_PK (ni_u2 A 0 0 (A 0 0 + 1)) x := fun x hx => by
    obtain ⟨x1, x2, x3, x4, x5, x6⟩ := hx
    refine ⟨x1, by rw [g3]; exact x2, x3, x4, ?_⟩
    rw [g _ _ (by omega), g _ _ (by omega), ni_u2e]
    exact ⟨x5, by omega⟩
  refine ⟨by rw [g3]; exact h3, by rw [ni_u2e]; omega, he0, fun f hf hfc => ?_, fun p hp => ?_, fun f hf hfc => ?_⟩
  · rw [g3] at hfc
    obtain ⟨a1, a2, a3, a4, a5, a6, a7⟩ := hF f hf hfc
    unfold nq_FI nq_FS
    rw [ni_u2e, gf _ (by omega), gf _ (by omega), gf _ (by omega)]
    refine ⟨a1, a2, fun j hj => ⟨hPK _ (a3 j hj).1, (a3 j hj).2⟩, a4, a5, a6, a7.imp id (fun z => ?_)⟩
    obtain ⟨z1, z2, z3, z4, z5, z6⟩ := z
    exact ⟨z1, z2, z3, z4, by omega, z6⟩
  · obtain ⟨a1, a2, a3, a4, a5, a6, a7, a8, a9, a10, a11, a12⟩ := hP p hp
    have hp' := hp
    unfold ni_po at hp'
    have hl0 : ni_li p ≠ 0 := by unfold ni_li; omega
    dsimp only at a10
    show nq_PI (ni_u2 A 0 0 (A 0 0 + 1)) p 0 e
    unfold nq_PI ni_PT
    rw [ni_u2e, gf p (by omega), gf (p + 1) (by omega), gf (p + 4) (by omega), gf (p + 5) (by omega), gf (p + 6) (by omega), gf (p + 7) (by omega), gf _ hl0]
    refine ⟨a1, a2, a3, a4, a5, a6, fun j hj => hPK _ (a7 j hj), a8, a9.imp id (fun z => ⟨hPK _ z.1, z.2⟩), fun j hj => ?_, a11, a12⟩
    by_cases hn : (p : Int) < 48 + 17 * n
    · rw [if_pos hn] at a10
      refine (a10 j hj).imp id (fun z => ⟨hPK _ z.1, ?_⟩)
      have := z.2
      omega
    · have hz := hd ((p - 48) / 17) (by omega) (by omega)
      exact Or.inl ((a12 hz).2.2 j hj)
  · rw [g3] at hfc
    have h1 := hB f hf hfc
    have h4 : ni_In (ni_u2 A 0 0 (A 0 0 + 1)) f 14 = ni_In A f 14 := ni_InC 14 (fun l hl => ⟨ni_WC (g _ _ (by omega)) (fun j => g _ _ (by omega)) (g _ _ (by omega)) (fun j => g _ _ (by omega)), ni_WC (g _ _ (by omega)) (fun j => g _ _ (by omega)) (g _ _ (by omega)) (fun j => g _ _ (by omega))⟩)
    unfold nq_dr at h1 ⊢
    rw [h4, gf (12 + 3 * f) (by omega), gf (12 + 3 * f + 2) (by omega)]
    exact h1
theorem nq_LAc {A A' : Nat → Nat → Int} {own : Nat → Int} (h : ni_LA St own A) (hs : ∀ s j, ni_isL s j → A' s j = A s j) : ni_LA St own A' := fun q hq => by
  have h1 := h q hq
  unfold ni_ln0 at hq
  unfold ni_LL at h1 ⊢
  rw [hs q 2 (by unfold ni_isL; omega)]
  refine ⟨h1.1, fun j hj => ?_⟩
  rw [hs _ _ (by unfold ni_isL; omega), hs _ _ (by unfold ni_isL; omega)]
  exact h1.2 j hj
/-- all that holds between calls -/
def nq_Inv (St : Nat → Option ni_C) (own : Nat → Int) (A : Nat → Nat → Int) (e : Int) : Prop := nq_NI A e (fun _ => 0) (fun _ => 0) ∧ nq_C A ∧ nq_LE A ∧ nq_LD A ∧ ni_LV A ∧ (0 ≤ A 0 2 ∧ A 0 2 ≤ 14) ∧ ni_LA St own A ∧ (∀ r : Nat, r < 8 → (r : Int) < A 0 1 → ni_RK St own A (286 + 11 * r) ∧ own r = ni_lno St (A (286 + 11 * r + 4) r).toNat) ∧ nq_RT A (A 0 1) ∧ (ni_PL A 4 ∧ ni_PL A 8 ∧ ∀ i : Nat, (i : Int) < A 8 3 → 0 ≤ A (8 + 3) i) ∧ ∀ l : Nat, l < 14 → A 0 2 ≤ l → A (48 + 17 * l) 5 = 0 ∧ A (50 + 17 * l) 2 = 0 ∧ A (58 + 17 * l) 2 = 0
/-- places that aren't in use; rows of letters don't count -/
def nq_dead (A : Nat → Nat → Int) (s : Nat) : Prop := ((286 + 11 * A 0 1 ≤ s ∧ s < 374) ∨ (48 + 17 * A 0 2 ≤ s ∧ s < 286) ∨ (12 + 3 * A 0 3 ≤ s ∧ s < 48)) ∧ ¬ (50 ≤ s ∧ s < 286 ∧ ((s - 50) % 17 = 1 ∨ (s - 50) % 17 = 2 ∨ (s - 50) % 17 = 9 ∨ (s - 50) % 17 = 10))
/-- what a tick makes -/
def nq_TP (St : Nat → Option ni_C) (own : Nat → Int) (A : Nat → Nat → Int) (e : Int) (v : Option ni_a) (A' : Nat → Nat → Int) : Prop := v = none ∧ nq_Inv St own A' (e + 400) ∧ A' 0 0 = A 0 0 + 1 ∧ (∀ s j, 0 < s + j → s < 12 → A' s j = A s j) ∧ (∀ l : Nat, l < 14 → ∀ j, A' (48 + 17 * l) j = A (48 + 17 * l) j) ∧ (∀ s j, nq_dead A s → A' s j = A s j) ∧ ((∀ q, ni_ln0 q → A q 2 = 0) → ∀ q, ni_ln0 q → A' q 2 = 0)
theorem mt_tick {own : Nat → Int} {e : Int} (h : nq_Inv St own A e) (he : e ≤ 600000) (ht : A 0 0 ≤ 800000) : ni_M xs St 7 96 [ni_aP 0] A (nq_TP St own A e) := by
  obtain ⟨hNI, hC, hLE, hLD, hLV, hlc, hLA, hRK, hRT, ⟨hPN, hPS, hSS⟩, hdead⟩ := h
  have h12 := hNI.1
  have hLV0 : ni_LB A ∧ ni_LV A := ⟨hC.1, hLV⟩
  have hc8 := hC.2.2.1
  refine ni_Min (ls := [ni_aP (0), .inl ni_J]) (fun _ => Nat.le_of_ble_eq_true rfl) (fun _ _ => rfl) ?_
  refine E_push (q := 1) (c := 0) (z := 0) rfl rfl ?_
  refine E_St (q := 2) (ls' := [ni_aP (0), ni_aI (0)]) rfl (fun _ _ => rfl) (fun _ _ => rfl) ?_
  refine mt_tk1 hLV0.1 hLV0.2 hLE hNI.2.1 hlc (fun r hr hrc => (hRK r hr hrc).2) (A 0 2).toNat 0 (by omega) A ⟨fun _ _ _ _ => rfl, hLA, fun r hr hrc => ⟨(hRK r hr hrc).1, rfl, Or.inl rfl⟩, fun _ _ _ => rfl, fun _ => rfl⟩ (fun A1 hI1 => ?_)
  have f1 : ∀ s j, s < 286 → ¬ ni_isL s j → A1 s j = A s j := fun s j h1 h2 => hI1.1 s j h2 (fun r hr _ => by omega)
  have c1 := nq_cs1 f1
  have hC1 : nq_C A1 := by
    refine ⟨ni_LBf hC.1 (fun l j hl => c1.2.2.2.2.2 l hl j), nq_FCc hC.2.1 c1, by rw [c1.2.1]; exact hC.2.2.1, fun r hr hrc => ?_⟩
    rw [c1.2.1] at hrc
    have := hC.2.2.2 r hr hrc
    have g : ∀ k j, 7 ≤ k → k ≤ 10 → A1 (286 + 11 * r + k) j = A (286 + 11 * r + k) j := fun k j h1 h2 => hI1.1 _ _ (by unfold ni_isL; omega) (fun r' hr' _ => by omega)
    unfold ni_TI at this ⊢
    rw [g 7 3 (by omega) (by omega)]
    refine ⟨this.1, fun i hi => ?_⟩
    rw [show 286 + 11 * r + 7 + 1 = 286 + 11 * r + 8 from rfl, show 286 + 11 * r + 7 + 2 = 286 + 11 * r + 9 from rfl, show 286 + 11 * r + 7 + 3 = 286 + 11 * r + 10 from rfl, g 8 _ (by omega) (by omega), g 9 _ (by omega) (by omega), g 10 _ (by omega) (by omega)]
    exact this.2 i hi
  have hLE1 : nq_LE A1 := fun l hl hl2 => by
    rw [c1.2.2.1] at hl2
    rw [c1.2.2.2.2.2 l hl, c1.2.2.2.2.2 l hl, c1.2.1]
    exact hLE l hl hl2
  have hN1 := nq_NIt hNI f1
  refine E_push (q := 69) (c := 0) (z := 0) rfl rfl ?_
  refine E_St (q := 70) (ls' := [ni_aP (0), ni_aI (0)]) rfl (fun _ _ => rfl) (fun _ _ => rfl) ?_
  refine mt_tk2 (n := A 0 2) (A 0 2).toNat 0 A1 e (by omega) c1.2.2.1 (nq_NIlo hN1 (fun q hq => by rw [if_neg (by unfold ni_po at hq; omega)]; exact hN1.2.2.2.2.1 q hq)) hC1 hLE1 (by omega) (fun A2 c2 f2 hN2 => ?_)
  have c12 := nq_csT c1 c2
  have hC2 := nq_Cf hC1 c2 f2
  have hN2 : nq_NI A2 (e + 56) (fun _ => 1) (fun _ => 0) := nq_NIlo (nq_NIm hN2 (by omega) (fun _ _ => rfl)) (fun q hq => by
    have := (nq_NIm (e' := e + 56) hN2 (by omega) (fun _ _ => rfl)).2.2.2.2.1 q hq
    dsimp only at this
    by_cases g : (q : Int) < 48 + 17 * A 0 2
    · rw [if_pos g] at this
      exact this
    · rw [if_neg g] at this
      have hq' := hq
      unfold ni_po at hq'
      have hz : A2 (ni_li q) 5 = 0 := (c12.2.2.2.2.2 ((q - 48) / 17) (by omega) 5).trans (hdead ((q - 48) / 17) (by omega) (by omega)).1
      exact nq_PIlo this (fun j hj hj1 => absurd ((this.2.2.2.2.2.2.2.2.2.2.2 hz).2.2 j hj) hj1))
  refine E_push (q := 149) (c := 0) (z := 0) rfl rfl ?_
  refine E_St (q := 150) (ls' := [ni_aP (0), ni_aI (0)]) rfl (fun _ _ => rfl) (fun _ _ => rfl) ?_
  refine mt_tk3 (n := A 0 3) (A 0 3).toNat 0 A2 (e + 56) (by omega) c12.2.2.2.1 hN2 hC2 (by omega) (fun A3 c3 f3 hN3 => ?_)
  have hN3 := nq_NIm (e' := e + 400) (dl' := fun _ => 0) hN3 (by omega) (fun _ _ => rfl)
  have c13 := nq_csT c12 c3
  have f13 := nq_frPt f2 c2 f3
  have hR3 : ∀ s j, 286 ≤ s → A3 s j = A1 s j := fun s j hs => nq_frH f13 (Or.inl hs)
  have hH3 : ∀ s j, s < 12 → A3 s j = A s j := fun s j hs => (nq_frH f13 (Or.inr hs)).trans (f1 s j (by omega) (by unfold ni_isL; omega))
  have hRT3 : nq_RT A3 (A 0 1) := fun r hr hrc => by
    obtain ⟨a1, a2, a3, a4⟩ := hRT r hr hrc
    have g : ∀ s j, s ≠ 286 + 11 * r + 4 → 286 + 11 * r ≤ s → s < 286 + 11 * r + 11 → ¬ (s = 286 + 11 * r ∧ j = 5) → A3 s j = A s j := fun s j g1 g2 g3 g4 => (hR3 s j (by omega)).trans (hI1.1 s j (by unfold ni_isL; omega) (fun r' hr' _ => by omega))
    refine ⟨by rw [g _ _ (by omega) (by omega) (by omega) (by omega)]; exact a1, ?_, nq_RDc a3 (g _ _ (by omega) (by omega) (by omega) (by omega)) (fun o => g _ _ (by omega) (by omega) (by omega) (by omega)) (fun o => g _ _ (by omega) (by omega) (by omega) (by omega)), nq_TSc a4 (g _ _ (by omega) (by omega) (by omega) (by omega)) (fun o => g _ _ (by omega) (by omega) (by omega) (by omega)) (fun o => g _ _ (by omega) (by omega) (by omega) (by omega)) (fun o => g _ _ (by omega) (by omega) (by omega) (by omega))⟩
    rw [hR3 _ _ (by omega)]
    rcases (hI1.2.2.1 r hr hrc).2.2 with z | z
    · rw [z]
      exact a2
    · exact Or.inr z
  refine E_push (q := 170) (c := 0) (z := 0) rfl rfl ?_
  refine E_St (q := 171) (ls' := [ni_aP (0), ni_aI (0)]) rfl (fun _ _ => rfl) (fun _ _ => rfl) ?_
  refine mt_tk4 (n := A 0 1) hC.2.2.1.2 (A 0 1).toNat 0 A3 (by omega) c13.2.1 (ni_LBf hC.1 (fun l j hl => c13.2.2.2.2.2 l hl j)) (fun r hr hrc o ho => by rw [hR3 _ _ (by omega)]; exact ni_RKl (hI1.2.2.1 r hr hrc).1 o ho) (ni_PLf hPN (fun j hj k => hH3 _ _ (by omega))) (ni_PLf hPS (fun j hj k => hH3 _ _ (by omega))) (fun k hk => by rw [hH3 _ _ (by omega)]; rw [hH3 _ _ (by omega)] at hk; exact hSS k hk) hRT3 (fun A4 f4 hRT4 => ?_)
  have h4 : ∀ s j, s < 286 → A4 s j = A3 s j := fun s j hs => f4 s j (fun r hr _ => by omega)
  have hN4 := nq_NIt hN3 (fun s j hs _ => h4 s j hs)
  have c4 := nq_cs1 (fun s j hs _ => h4 s j hs)
  have c14 := nq_csT c13 c4
  refine E_push (q := 207) (c := 0) (z := 0) rfl rfl ?_
  refine E_St (q := 208) (ls' := [ni_aP (0), ni_aI (0)]) rfl (fun _ _ => rfl) (fun _ _ => rfl) ?_
  refine mt_tk5 (n := A 0 2) (A 0 2).toNat 0 A4 (by omega) c14.2.2.1 (nq_NIlo hN4 (fun q hq => by rw [if_neg (by unfold ni_po at hq; omega)]; exact hN4.2.2.2.2.1 q hq)) (ni_LVf hLV0.2 (fun l j hl => c14.2.2.2.2.2 l hl j)) (fun l hl => by rw [c14.2.2.2.2.2 l hl, c14.2.2.2.2.2 l hl]; exact hLD l hl) hlc.2 (fun A5 c5 f5 hN5 => ?_)
  have c15 := nq_csT c14 c5
  refine E_Ld (q := 293) rfl rfl (fun _ _ => rfl) ?_
  refine E_Dup (q := 294) rfl (fun _ _ => rfl) ?_
  refine E_GetI (q := 297) (e := A5 (0) 0) rfl (show ni_us 0 = true by decide +kernel) (show ni_kd 0 = 4 by decide +kernel) rfl rfl (fun _ _ => rfl) ?_
  refine E_push (q := 298) (c := 1) (z := 1) rfl rfl ?_
  refine E_add (q := 299) rfl ?_
  refine E_Put (q := 302) rfl (show ni_us 0 = true by decide +kernel) (show ni_kd 0 = 4 by decide +kernel) rfl rfl (fun _ _ _ => rfl) rfl rfl ?_
  refine E_Rv rfl rfl ?_
  have hR5 : ∀ s j, 286 ≤ s → A5 s j = A4 s j := fun s j hs => nq_frH f5 (Or.inl hs)
  have hH5 : ∀ s j, s < 12 → A5 s j = A s j := fun s j hs => (nq_frH f5 (Or.inr hs)).trans ((h4 s j (by omega)).trans (hH3 s j hs))
  have hL5 : ∀ s j, ni_isL s j → A5 s j = A1 s j := fun s j hs => by
    have np : ∀ p, ni_po p → ¬ nq_mP p s j := fun p hp => by
      unfold ni_po at hp
      unfold ni_isL at hs
      unfold nq_mP
      omega
    have nf : ∀ f : Nat, f < 12 → ¬ nq_mF f s j := fun f hf => by
      unfold ni_isL at hs
      unfold nq_mF
      omega
    rw [f5 s j (fun f hf _ => nf f hf) (fun p hp _ => np p hp), h4 s j (by unfold ni_isL at hs; omega), f13 s j (fun f hf _ => nf f hf) (fun p hp _ => np p hp)]
  have hq4 : ∀ r : Nat, r < 8 → ∀ o, A5 (286 + 11 * r + 4) o = A1 (286 + 11 * r + 4) o := fun r hr o => by rw [hR5 _ _ (by omega), f4 _ _ (fun r' hr' _ => by omega), hR3 _ _ (by omega)]
  have hU : ∀ s j, 0 < s + j → ni_u2 A5 0 0 (A5 0 0 + 1) s j = A5 s j := fun s j hs => ni_u2n (by omega)
  have hl5 : ∀ l : Nat, l < 14 → ∀ j, ni_u2 A5 0 0 (A5 0 0 + 1) (48 + 17 * l) j = A (48 + 17 * l) j := fun l hl j => by rw [hU _ _ (by omega)]; exact c15.2.2.2.2.2 l hl j
  have e1 : ni_u2 A5 0 0 (A5 0 0 + 1) 0 1 = A 0 1 := by rw [hU _ _ (by omega)]; exact c15.2.1
  have e2 : ni_u2 A5 0 0 (A5 0 0 + 1) 0 2 = A 0 2 := by rw [hU _ _ (by omega)]; exact c15.2.2.1
  have e3 : ni_u2 A5 0 0 (A5 0 0 + 1) 0 3 = A 0 3 := by rw [hU _ _ (by omega)]; exact c15.2.2.2.1
  have hRT5 : nq_RT (ni_u2 A5 0 0 (A5 0 0 + 1)) (A 0 1) := fun r hr hrc => by
    obtain ⟨a1, a2, a3, a4⟩ := hRT4 r hr hrc
    have g : ∀ s j, 286 ≤ s → ni_u2 A5 0 0 (A5 0 0 + 1) s j = A4 s j := fun s j hs => (hU s j (by omega)).trans (hR5 s j hs)
    exact ⟨by rw [g _ _ (by omega)]; exact a1, by rw [g _ _ (by omega)]; exact a2, nq_RDc a3 (g _ _ (by omega)) (fun o => g _ _ (by omega)) (fun o => g _ _ (by omega)), nq_TSc a4 (g _ _ (by omega)) (fun o => g _ _ (by omega)) (fun o => g _ _ (by omega)) (fun o => g _ _ (by omega))⟩
  refine ⟨rfl, ⟨nq_NIp hN5 (by rw [c15.1]; omega) (fun l hl hl2 => by rw [c15.2.2.2.2.2 l hl]; exact (hdead l hl hl2).1), ⟨ni_LBf hC.1 (fun l j hl => hl5 l hl j), fun f hf hfc => ?_, by rw [e1]; exact hC.2.2.1, fun r hr hrc => by rw [e1] at hrc; exact (hRT5 r hr hrc).2.2.2.1⟩, fun l hl hl2 => by rw [e2] at hl2; rw [hl5 l hl, hl5 l hl, e1]; exact hLE l hl hl2, fun l hl => by rw [hl5 l hl, hl5 l hl]; exact hLD l hl, ni_LVf hLV0.2 (fun l j hl => hl5 l hl j), by rw [e2]; exact hlc, nq_LAc hI1.2.1 (fun s j hs => (hU s j (by unfold ni_isL at hs; omega)).trans (hL5 s j hs)), fun r hr hrc => ?_, by rw [e1]; exact hRT5, ⟨ni_PLf hPN (fun j hj k => (hU _ _ (by omega)).trans (hH5 _ _ (by omega))), ni_PLf hPS (fun j hj k => (hU _ _ (by omega)).trans (hH5 _ _ (by omega))), fun k hk => ?_⟩, fun l hl hl2 => ?_⟩, by rw [ni_u2e, c15.1], fun s j hs hs2 => (hU s j hs).trans (hH5 s j hs2), hl5, fun s j hs => ?_, fun hz q hq => ?_⟩
  · have hFC5 := nq_FCc hC.2.1 c15
    rw [e3] at hfc
    have := hFC5 f hf (by rw [c15.2.2.2.1]; exact hfc)
    have gf : ni_u2 A5 0 0 (A5 0 0 + 1) (12 + 3 * f) = A5 (12 + 3 * f) := funext fun j => hU _ _ (by omega)
    rw [gf, hU 0 1 (by omega)]
    exact this
  · rw [e1] at hrc
    obtain ⟨b1, b2, b3⟩ := hI1.2.2.1 r hr hrc
    have g : ∀ o, ni_u2 A5 0 0 (A5 0 0 + 1) (286 + 11 * r + 4) o = A1 (286 + 11 * r + 4) o := fun o => (hU _ _ (by omega)).trans (hq4 r hr o)
    refine ⟨fun o ho => ?_, ?_⟩
    · rw [g]
      exact b1 o ho
    · rw [g, b2]
      exact (hRK r hr hrc).2
  · rw [hU _ _ (by omega), hH5 _ _ (by omega)] at hk
    rw [hU _ _ (by omega), hH5 _ _ (by omega)]
    exact hSS k hk
  · rw [e2] at hl2
    obtain ⟨d1, d2, d3⟩ := hdead l hl hl2
    rw [hl5 l hl, hU _ _ (by omega), hU _ _ (by omega), hL5 _ _ (by unfold ni_isL; omega), hL5 _ _ (by unfold ni_isL; omega), hI1.2.2.2.1 _ (by unfold ni_ln0; omega) (by omega), hI1.2.2.2.1 _ (by unfold ni_ln0; omega) (by omega)]
    exact ⟨d1, d2, d3⟩
  · obtain ⟨hs1, hs2⟩ := hs
    rw [hU _ _ (by omega)]
    by_cases hq2 : ni_isL s j
    · rw [hL5 s j hq2]
      unfold ni_isL at hq2
      have hj2 : j = 2 := by omega
      subst hj2
      exact hI1.2.2.2.1 s (by unfold ni_ln0; omega) (by omega)
    · have nf : ∀ (B : Nat → Nat → Int), B 0 3 = A 0 3 → ∀ f : Nat, f < 12 → (f : Int) < B 0 3 → ¬ nq_mF f s j := fun B hB f hf hfc => by
        unfold nq_mF
        omega
      have np : ∀ (B : Nat → Nat → Int), (∀ l : Nat, l < 14 → ∀ j, B (48 + 17 * l) j = A (48 + 17 * l) j) → ∀ p, ni_po p → B (ni_li p) 5 ≠ 0 → ¬ nq_mP p s j := fun B hB p hp hu => by
        intro hm
        unfold nq_mP at hm
        have hp' := hp
        unfold ni_po at hp'
        have h5 := hB ((p - 48) / 17) (by omega) 5
        have h6 := hdead ((p - 48) / 17) (by omega)
        by_cases hx : A 0 2 ≤ (((p - 48) / 17 : Nat) : Int)
        · exact hu (h5.trans (h6 hx).1)
        · omega
      rw [f5 s j (nf A4 c14.2.2.2.1) (np A4 c14.2.2.2.2.2), f4 s j (fun r hr hrc => by omega), f3 s j (nf A2 c12.2.2.2.1) (np A2 c12.2.2.2.2.2), f2 s j (nf A1 c1.2.2.2.1) (np A1 c1.2.2.2.2.2), hI1.1 s j hq2 (fun r hr hrc => by omega)]
  · unfold ni_ln0 at hq
    rw [hU _ _ (by omega), hL5 _ _ (by unfold ni_isL; omega), hI1.2.2.2.2 hz]
    exact hz q hq
end NTW
