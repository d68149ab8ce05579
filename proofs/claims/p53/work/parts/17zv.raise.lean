/-! A LINK COMES UP -/
section NXR
variable {xs : List Int32} {St St' : Nat → Option ni_C} {M M' M0 : ni_H} {ad rw cp rw0 cp0 : Nat → Nat} {A A' : Nat → Nat → Int} {own own' : Nat → Int}
theorem nq_PKs {x : Int} (hs : ∀ s, s < 48 → A' s = A s) (h3 : A 0 3 ≤ 12) (h : ni_PK A x) : ni_PK A' x := by
  obtain ⟨h1, h2, h4⟩ := h
  unfold ni_PK
  rw [hs 0 (by omega), hs (12 + 3 * (x % 16).toNat) (by omega)]
  exact ⟨h1, h2, h4⟩
theorem nq_PIg {p : Nat} {lo e : Int} (hPK : ∀ x, ni_PK A x → ni_PK A' x) (h0 : A' 0 0 = A 0 0) (hk : ∀ k, k < 8 → ∀ j, A' (p + k) j = A (p + k) j) (h4 : A' (ni_li p) 4 = A (ni_li p) 4) (h5 : A' (ni_li p) 5 = 0 → A p 10 = 0 ∧ A p 12 = -1 ∧ ∀ j : Nat, j < 21 → A (p + 4) j = -1) (h : nq_PI A p lo e) : nq_PI A' p lo e := by
  obtain ⟨a1, a2, a3, a4, a5, a6, a7, a8, a9, a10, a11, a12⟩ := h
  have e0 : ∀ j, A' p j = A p j := hk 0 (by omega)
  have e7 : A' (p + 7) = A (p + 7) := funext (hk 7 (by omega))
  have e4 : A' (p + 4) = A (p + 4) := funext (hk 4 (by omega))
  have e1 := hk 1 (by omega) 4
  have e5 := hk 5 (by omega)
  have e6 := hk 6 (by omega)
  unfold nq_PI ni_PT
  simp only [e0, e1, e4, e5, e6, e7, h4, h0]
  exact ⟨a1, a2, a3, a4, a5, a6, fun j hj => hPK _ (a7 j hj), a8, a9.imp id (fun z => ⟨hPK _ z.1, z.2⟩), fun j hj => (a10 j hj).imp id (fun z => ⟨hPK _ z.1, z.2⟩), a11, h5⟩
theorem nq_NIg {e : Int} {dl : Nat → Int} (h : nq_NI A e (fun _ => 0) dl) (hs : ∀ s, s < 48 → A' s = A s ∨ s = 0) (h0 : ∀ j, j ≠ 1 → j ≠ 2 → A' 0 j = A 0 j) (hp : ∀ s, 48 ≤ s → s < 286 → (s - 48) % 17 ≠ 0 → ∀ j, A' s j = A s j) (hPI : ∀ p, ni_po p → nq_PI A' p 0 e) : nq_NI A' e (fun _ => 0) dl := by
  obtain ⟨h3, h00, he0, hF, hP, hB⟩ := h
  have g : ∀ s j, 12 ≤ s → s < 48 → A' s j = A s j := fun s j a b => by
    rcases hs s b with z | z
    · rw [z]
    · omega
  have hPK : ∀ x, ni_PK A x → ni_PK A' x := fun x hx => by
    obtain ⟨x1, x2, x3⟩ := hx
    unfold ni_PK
    rw [h0 0 (by omega) (by omega), h0 3 (by omega) (by omega), g _ 4 (by omega) (by omega), g _ 5 (by omega) (by omega)]
    exact ⟨x1, x2, x3⟩
  refine ⟨by rw [h0 3 (by omega) (by omega)]; exact h3, by rw [h0 0 (by omega) (by omega)]; exact h00, he0, fun f hf hfc => ?_, hPI, fun f hf hfc => ?_⟩
  · rw [h0 3 (by omega) (by omega)] at hfc
    obtain ⟨a1, a2, a3, a4, a5, a6, a7⟩ := hF f hf hfc
    unfold nq_FI nq_FS
    have gf : ∀ j, A' (12 + 3 * f) j = A (12 + 3 * f) j := fun j => g _ _ (by omega) (by omega)
    have gf1 : ∀ j, A' (12 + 3 * f + 1) j = A (12 + 3 * f + 1) j := fun j => g _ _ (by omega) (by omega)
    have gf2 : ∀ j, A' (12 + 3 * f + 2) j = A (12 + 3 * f + 2) j := fun j => g _ _ (by omega) (by omega)
    simp only [gf, gf1, gf2, h0 0 (by omega) (by omega)]
    exact ⟨a1, a2, fun j hj => ⟨hPK _ (a3 j hj).1, (a3 j hj).2⟩, a4, a5, a6, a7⟩
  · rw [h0 3 (by omega) (by omega)] at hfc
    have h1 := hB f hf hfc
    have h4 : ni_In A' f 14 = ni_In A f 14 := ni_InC 14 (fun l hl => ⟨ni_WC (hp _ (by omega) (by omega) (by omega) _) (fun j => hp _ (by omega) (by omega) (by omega) _) (hp _ (by omega) (by omega) (by omega) _) (fun j => hp _ (by omega) (by omega) (by omega) _), ni_WC (hp _ (by omega) (by omega) (by omega) _) (fun j => hp _ (by omega) (by omega) (by omega) _) (hp _ (by omega) (by omega) (by omega) _) (fun j => hp _ (by omega) (by omega) (by omega) _)⟩)
    unfold nq_dr at h1 ⊢
    rw [h4, g (12 + 3 * f) 12 (by omega) (by omega), g (12 + 3 * f) 13 (by omega) (by omega), g (12 + 3 * f) 11 (by omega) (by omega), g (12 + 3 * f + 2) 0 (by omega) (by omega), g (12 + 3 * f + 2) 1 (by omega) (by omega), g (12 + 3 * f + 2) 2 (by omega) (by omega), g (12 + 3 * f + 2) 3 (by omega) (by omega), g (12 + 3 * f + 2) 4 (by omega) (by omega), g (12 + 3 * f + 2) 5 (by omega) (by omega), g (12 + 3 * f + 2) 6 (by omega) (by omega)]
    exact h1
theorem nq_LAf (hLA : ni_LA St own A) (hL : ∀ s j, ni_isL s j → A' s j = A s j) : ni_LA St own A' := fun p hp => by
  have hp' := hp
  unfold ni_ln0 at hp'
  obtain ⟨b1, b2⟩ := hLA p hp
  refine ⟨by rw [hL p 2 (by unfold ni_isL; omega)]; exact b1, fun j hj => ?_⟩
  rw [hL p 2 (by unfold ni_isL; omega)] at hj
  rw [hL (p + 1) j (by unfold ni_isL; omega), hL (p + 2) j (by unfold ni_isL; omega)]
  exact b2 j hj
/-- what holds still holds, if links, ports and flows do -/
theorem nq_InvL {e e' : Int} (h : nq_Inv St own A e) (hNI' : nq_NI A' e' (fun _ => 0) (fun _ => 0)) (hFC' : nq_FC A') (hLB' : ni_LB A') (hLE' : nq_LE A') (hLD' : nq_LD A') (hLV' : ni_LV A') (h02 : 0 ≤ A' 0 2 ∧ A' 0 2 ≤ 14) (hdead' : ∀ l : Nat, l < 14 → A' 0 2 ≤ l → A' (48 + 17 * l) 5 = 0 ∧ A' (50 + 17 * l) 2 = 0 ∧ A' (58 + 17 * l) 2 = 0) (hLA' : ni_LA St own A') (hs : ∀ s j, ((s < 12 ∧ ¬ (s = 0 ∧ (j = 2 ∨ j = 3))) ∨ 286 ≤ s) → A' s j = A s j) : nq_Inv St own A' e' := by
  obtain ⟨hNI, hC, hLE, hLD, hLV, hlc, hLA, hRK, hRT, ⟨hPN, hPS, hSS⟩, hdead⟩ := h
  have h0 : ∀ s j, s < 12 → ¬ (s = 0 ∧ (j = 2 ∨ j = 3)) → A' s j = A s j := fun s j h g => hs s j (Or.inl ⟨h, g⟩)
  have hR : ∀ s j, 286 ≤ s → A' s j = A s j := fun s j h => hs s j (Or.inr h)
  have e1 := h0 0 1 (by omega) (by omega)
  refine ⟨hNI', ⟨hLB', hFC', by rw [e1]; exact hC.2.2.1, fun r hr hrc => ?_⟩, hLE', hLD', hLV', h02, hLA', fun r hr hrc => ?_, fun r hr hrc => ?_, ⟨ni_PLf hPN (fun j hj k => h0 _ _ (by omega) (by omega)), ni_PLf hPS (fun j hj k => h0 _ _ (by omega) (by omega)), fun i hi => ?_⟩, hdead'⟩
  · rw [e1] at hrc
    have := hC.2.2.2 r hr hrc
    unfold ni_TI at this ⊢
    rw [hR _ 3 (by omega)]
    refine ⟨this.1, fun i hi => ?_⟩
    rw [hR _ i (by omega), hR _ i (by omega), hR _ i (by omega)]
    exact this.2 i hi
  · rw [e1] at hrc
    obtain ⟨a1, a2⟩ := hRK r hr hrc
    refine ⟨fun o ho => ?_, by rw [hR _ _ (by omega)]; exact a2⟩
    rw [hR _ _ (by omega)]
    exact a1 o ho
  · rw [e1] at hrc
    obtain ⟨a1, a2, a3, a4⟩ := hRT r hr hrc
    refine ⟨by rw [hR _ _ (by omega)]; exact a1, by rw [hR _ _ (by omega)]; exact a2, nq_RDc a3 (hR _ _ (by omega)) (fun o => hR _ _ (by omega)) (fun o => hR _ _ (by omega)), nq_TSc a4 (hR _ _ (by omega)) (fun o => hR _ _ (by omega)) (fun o => hR _ _ (by omega)) (fun o => hR _ _ (by omega))⟩
  · rw [h0 _ _ (by omega) (by omega)] at hi
    rw [h0 _ _ (by omega) (by omega)]
    exact hSS i hi
/-- a letter is told along a link -/
theorem mt_tell2 {l r b : Nat} (hl : l < 14) (hlc : (l : Int) < A 0 2) (hLB : ni_LB A) (hLV : ni_LV A) (ht : 0 ≤ A 0 0 ∧ A 0 0 ≤ 900000) (hLA : ni_LA St own A) (hb : ni_GL St own b) (hr : r < 8) : ni_M xs St 4 93 [ni_aP 0, ni_aI (r : Int), ni_aL b, ni_aP (48 + 17 * l)] A (fun v A' => v = none ∧ ni_frL A A' ∧ ni_LA St own A' ∧ ∀ q, ni_ln0 q → 48 + 17 * A 0 2 ≤ q → A' q 2 = A q 2) := by
  have hli := ni_liS l hl
  have hlb := hLB l hl
  have hlv := hLV l hl
  obtain ⟨c, hc1, hc2⟩ := ni_GLc hb
  have p1 : ni_ln0 (48 + 17 * l + 1 + 1) := by unfold ni_ln0; omega
  have p2 : ni_ln0 (48 + 17 * l + 9 + 1) := by unfold ni_ln0; omega
  by_cases c : (r : Int) = A (48 + 17 * l) 0
  · refine ni_Mmono (mt_tellA hli.1 hli.2 (by omega) (by omega) (by omega) c hc1 hc2 (hLA _ p1).1.1 (fun j hj => ni_GLc ((hLA _ p1).2 j hj).2.1)) (fun v A' hv => ?_)
    obtain ⟨hv1, hv2⟩ := hv
    subst hv2
    obtain ⟨g1, g2, g3⟩ := ni_putLA (t := A 0 0 + A (48 + 17 * l) 4) p1 (by omega) hLA hb (by omega)
    exact ⟨hv1, g2, g1, fun q hq hq2 => (g3 q hq).2 hq2⟩
  · refine ni_Mmono (mt_tellB hli.1 hli.2 (by omega) (by omega) (by omega) c hc1 hc2 (hLA _ p2).1.1 (fun j hj => ni_GLc ((hLA _ p2).2 j hj).2.1)) (fun v A' hv => ?_)
    obtain ⟨hv1, hv2⟩ := hv
    subst hv2
    obtain ⟨g1, g2, g3⟩ := ni_putLA (t := A 0 0 + A (48 + 17 * l) 4) p2 (by omega) hLA hb (by omega)
    exact ⟨hv1, g2, g1, fun q hq hq2 => (g3 q hq).2 hq2⟩
theorem mt_tkL {l r n : Nat} {A0 : Nat → Nat → Int} {Q : Option Value → ni_H → Prop} (hl : l < 14) (hlc : (l : Int) < A0 0 2) (hLB : ni_LB A0) (hLV : ni_LV A0) (ht : 0 ≤ A0 0 0 ∧ A0 0 0 ≤ 900000) (hr : r < 8) (hrc : (r : Int) < A0 0 1) (hRK : ni_RK St own A0 (286 + 11 * r)) (hn : A0 0 1 = n) (hn8 : n ≤ 8) (hQ : ∀ A M rw cp, ni_Sx St M0 ad rw0 cp0 M rw cp A (ni_live A) → ni_frL A0 A → ni_LA St own A → (∀ q, ni_ln0 q → 48 + 17 * A0 0 2 ≤ q → A q 2 = A0 q 2) → Q none M) : ∀ k i : Nat, i + k = n → ∀ (A : Nat → Nat → Int) (M : ni_H) (rw cp : Nat → Nat) (w : Value), ni_Sx St M0 ad rw0 cp0 M rw cp A (ni_live A) → ni_frL A0 A → ni_LA St own A → (∀ q, ni_ln0 q → 48 + 17 * A0 0 2 ≤ q → A q 2 = A0 q 2) → wp_G xs 5 94 2 [.ref (ad 0), ni_z (r : Int), .ref (ad (48 + 17 * l)), ni_z (i : Int), w] [] M Q := by
  intro k
  induction k with
  | zero =>
    intro i hi A M rw cp w hx hfr hLA hq
    have e1 : A 0 1 = A0 0 1 := hfr 0 1 (by unfold ni_isL; omega)
    refine wp_Ld rfl rfl rfl ?_
    refine wp_Ld rfl rfl rfl ?_
    refine ws_Get (v := ni_z (A 0 1)) rfl hx (show ni_us 0 = true by decide +kernel) (show ni_kd 0 = 4 by decide +kernel) rfl rfl rfl ?_
    refine wp_Ic true rfl (zc_ge_t ⟨by omega, by omega⟩ ⟨by omega, by omega⟩ (by omega)) ?_
    exact wp_Rv rfl rfl (hQ A M rw cp hx hfr hLA hq)
  | succ k ih =>
    intro i hi A M rw cp w hx hfr hLA hq
    have hf0 : ∀ j, A 0 j = A0 0 j := fun j => hfr 0 j (by unfold ni_isL; omega)
    have hro := ni_roS r hr
    have hro4 := ni_o7_4 hro.1 hro.2
    have h4 : ∀ o, A (286 + 11 * r + 4) o = A0 (286 + 11 * r + 4) o := fun o => hfr _ _ (by unfold ni_isL; omega)
    obtain ⟨a1, a2, a3⟩ := hRK i (by omega)
    rw [← h4] at a1 a2
    have hGL := a2
    obtain ⟨⟨o, n0, s0, ca, na, cs, ns0, hb0, ho, hnn, _⟩, a22⟩ := a2
    have e1 := hf0 1
    refine wp_Ld rfl rfl rfl ?_
    refine wp_Ld rfl rfl rfl ?_
    refine ws_Get (v := ni_z (A 0 1)) rfl hx (show ni_us 0 = true by decide +kernel) (show ni_kd 0 = 4 by decide +kernel) rfl rfl rfl ?_
    refine wp_Ic false rfl (zc_ge_f ⟨by omega, by omega⟩ ⟨by omega, by omega⟩ (by omega)) ?_
    refine wp_Ld rfl rfl rfl ?_
    refine ws_Get (v := .ref (ad 1)) rfl hx (show ni_us 0 = true by decide +kernel) (show ni_kd 0 = 4 by decide +kernel) rfl rfl rfl ?_
    refine wp_Ld rfl rfl rfl ?_
    refine ws_Qld (q := 16) (y := 94) (pc := 15) (s := 1) (n := 8) (t := 101) (j := r) (v := .ref (ad (286 + 11 * r))) rfl hx (show ni_us 1 = true by decide +kernel) (show ni_kd 1 = 101 by decide +kernel) (show ni_ln 1 = 8 by decide +kernel) ⟨by decide, rfl⟩ rfl (by omega) (by decide) (ni_LR hx (show ni_us 1 = true by decide +kernel) (by decide +kernel) (by omega)) rfl rfl ?_
    refine ws_Get (v := .ref (ad (286 + 11 * r + 4))) rfl hx hro.1 hro.2 rfl rfl rfl ?_
    refine wp_Ld rfl rfl rfl ?_
    refine ws_Qld (q := 21) (y := 94) (pc := 20) (s := 286 + 11 * r + 4) (n := 8) (t := 104) (j := i) (v := .ref (A (286 + 11 * r + 4) i).toNat) rfl hx hro4.1 hro4.2.1 hro4.2.2.1 ⟨by decide, rfl⟩ rfl (by omega) (by decide) (ni_L7 hro4.1 (ni_ctR r hr) (by omega) (by omega) (ni_clR A)) rfl rfl ?_
    refine wp_St (ls' := [.ref (ad 0), ni_z (r : Int), .ref (ad (48 + 17 * l)), ni_z (i : Int), .ref (A (286 + 11 * r + 4) i).toNat]) rfl rfl rfl ?_
    have hne : ∀ (A : Nat → Nat → Int) (M : ni_H) (rw cp : Nat → Nat) (w : Value), ni_Sx St M0 ad rw0 cp0 M rw cp A (ni_live A) → ni_frL A0 A → ni_LA St own A → (∀ q, ni_ln0 q → 48 + 17 * A0 0 2 ≤ q → A q 2 = A0 q 2) → wp_G xs 5 94 44 [.ref (ad 0), ni_z (r : Int), .ref (ad (48 + 17 * l)), ni_z (i : Int), w] [] M Q := by
      intro A M rw cp w hx hfr hLA hq
      refine wp_Inc (ls' := [.ref (ad 0), ni_z (r : Int), .ref (ad (48 + 17 * l)), ni_z ((i : Int) + 1), w]) rfl rfl (zi_inc (z := 1) rfl) rfl ?_
      refine wp_P (g := ni_gGo 2) rfl rfl ?_
      exact ih (i + 1) (by omega) A M rw cp w hx hfr hLA hq
    refine wp_Ld rfl rfl rfl ?_
    refine wp_Ld rfl rfl rfl ?_
    by_cases c1 : i = r
    · refine wp_Ic true rfl (zc_eq_t ⟨by omega, by omega⟩ ⟨by omega, by omega⟩ (by omega)) ?_
      exact hne A M rw cp _ hx hfr hLA hq
    · refine wp_Ic false rfl (zc_eq_f ⟨by omega, by omega⟩ ⟨by omega, by omega⟩ (by omega)) ?_
      refine wp_Ld rfl rfl rfl ?_
      refine wp_Get (v := ni_z n0) rfl (hx.1.2.2.2.2.1 _ _ hb0).1 rfl ?_
      by_cases c2 : n0 ≤ 0
      · refine wp_If true rfl (zf_le_t ⟨by omega, by omega⟩ c2) ?_
        exact hne A M rw cp _ hx hfr hLA hq
      · refine wp_If false rfl (zf_le_f ⟨by omega, by omega⟩ c2) ?_
        refine wp_Ld rfl rfl rfl ?_
        refine wp_Ld rfl rfl rfl ?_
        refine wp_Ld rfl rfl rfl ?_
        refine wp_Ld rfl rfl rfl ?_
        have gl : ∀ l j : Nat, l < 14 → A (48 + 17 * l) j = A0 (48 + 17 * l) j := fun l j hl => hfr _ _ (by unfold ni_isL; omega)
        obtain ⟨v8, A8, ⟨hv8, hf8, hLA8, hq8⟩, hD8⟩ := mt_tell2 (xs := xs) (A := A) hl (by rw [hf0]; exact hlc) (ni_LBf hLB gl) (ni_LVf hLV gl) (by rw [hf0]; exact ht) hLA hGL hr
        refine ws_V (q := 44) (y := 94) (pc := 41) (s := 0) (r := []) (as := [ni_z (r : Int), .ref (A (286 + 11 * r + 4) i).toNat, .ref (ad (48 + 17 * l))]) rfl rfl rfl hx (ni_clR A) (show ni_us 0 = true by decide +kernel) (show ni_kd 0 = 4 by decide +kernel) rfl (Nat.le_of_ble_eq_true rfl) (ni_Dup hD8 (by decide)) rfl fun M8 rw8 cp8 hx8 => ?_
        rw [hv8]
        exact hne A8 M8 rw8 cp8 _ hx8 (ni_frLt hfr hf8) hLA8 (fun q h1 h2 => by rw [hq8 q h1 (by rw [hf0]; exact h2), hq q h1 h2])
/-- the letters that a router keeps are told along a link -/
theorem mt_tellKept {e : Int} {l r : Nat} (hR : ni_Rep St M ad rw cp A (ni_live A)) (h : nq_Inv St own A e) (hl : l < 14) (hlc : (l : Int) < A 0 2) (hr : r < 8) (hrc : (r : Int) < A 0 1) : wp_C xs 6 94 [.ref (ad 0), ni_z (r : Int), .ref (ad (48 + 17 * l))] M (fun u M' => u = none ∧ nx_Q St own A e 0 M ad rw cp M') := by
  have hInv := h
  obtain ⟨hNI, hC, hLE, hLD, hLV, hlc', hLA, hRK, hRT, _, hdead⟩ := h
  refine wp_enter (Nat.le_of_ble_eq_true rfl) (ls := [.ref (ad 0), ni_z (r : Int), .ref (ad (48 + 17 * l)), ni_J, ni_J]) rfl ?_
  refine wp_P (g := ni_gPush (.int 0) 1) rfl (wp_push (z := 0) rfl) ?_
  refine wp_St (ls' := [.ref (ad 0), ni_z (r : Int), .ref (ad (48 + 17 * l)), ni_z ((0 : Nat) : Int), ni_J]) rfl rfl rfl ?_
  refine mt_tkL (n := (A 0 1).toNat) (M0 := M) (rw0 := rw) (cp0 := cp) hl hlc hC.1 hLV hNI.2.1 hr hrc (hRK r hr hrc).1 (by have := hC.2.2.1; omega) (by have := hC.2.2.1; omega) (fun A8 M8 rw8 cp8 hx8 hf8 hLA8 hq8 => ⟨rfl, ?_⟩) (A 0 1).toNat 0 (by omega) A M rw cp ni_J ⟨hR, ni_KpR⟩ (fun _ _ _ => rfl) hLA (fun _ _ _ => rfl)
  have hfr : nq_fr1 A A8 := fun s j g1 _ => hf8 s j g1
  have h4 : ∀ q o, q < 8 → A8 (286 + 11 * q + 4) o = A (286 + 11 * q + 4) o := fun q o _ => hf8 _ _ (by unfold ni_isL; omega)
  refine ⟨St, own, A8, nx_InvW hInv hfr hq8 hLA8 (fun q hq hqc => ?_) (fun q hq hqc => ?_), hfr, hq8, nx_subR, fun x => ⟨Int.le_refl _, by omega⟩, rw8, cp8, hx8.1, nx_Kp0 hx8.2⟩
  · refine ⟨fun o ho => ?_, ?_⟩
    · rw [h4 q o hq]
      exact (hRK q hq hqc).1 o ho
    · rw [h4 q q hq]
      exact (hRK q hq hqc).2
  · rw [hf8 _ _ (by unfold ni_isL; omega)]
    exact (hRT q hq hqc).2.1
end NXR
