/-! DEAL'S CONTRACT; WHAT A FLOW DOES -/
section NDM
variable {xs : List Int32} {St : Nat → Option ni_C} {A A' : Nat → Nat → Int}
theorem nq_bytes {p : Nat} {lo e : Int} (h : nq_PI A p lo e) : 0 ≤ A p 11 ∧ A p 11 ≤ 127750 := by
  obtain ⟨a1, a2, a3, a4, a5, a6, a7, a8, _⟩ := h
  have := ni_swB (w := ni_by) (g := A (p + 7)) (c := 511) (A p 10).toNat (fun j hj => by unfold ni_by; omega)
  rw [a8]
  omega
theorem nq_isE {x : Int} {f f' : Nat} (h : x % 16 = f) : ni_is f' x = if f' = f then 1 else 0 := by
  unfold ni_is
  by_cases e : f' = f
  · rw [if_pos (by omega), if_pos e]
  · rw [if_neg (by omega), if_neg e]
theorem nq_older {x : Int} (h : ni_PK A x) (h2 : ¬ x / 2097152 ≤ 1) : ni_PK A (x - 2097152) := by
  obtain ⟨h1, h3, h4, h5, h6, h7⟩ := h
  refine ⟨by omega, ?_⟩
  rw [show (x - 2097152) % 16 = x % 16 by omega, show (x - 2097152) / 16 % 64 = x / 16 % 64 by omega, show (x - 2097152) / 4096 % 512 = x / 4096 % 512 by omega]
  exact ⟨h3, h4, by omega, h6, h7⟩
/-- what deal makes -/
def nq_DP (A : Nat → Nat → Int) (e : Int) (lo dl : Nat → Int) (v : Option ni_a) (A' : Nat → Nat → Int) : Prop := v = none ∧ ni_cs0 A A' ∧ nq_frP A A' ∧ nq_NI A' e lo dl
theorem mt_sendOn {r l : Nat} {x e : Int} {lo dl : Nat → Int} {p : Nat} (hr : r < 8) (hl : l < 14) (hLB : ni_LB A) (hNI : nq_NI A e lo dl) (he : e ≤ 900000) (hx : ni_PK A x) (hlife : ¬ x / 2097152 ≤ 1) (hup : A (48 + 17 * l) 5 = 1) (hp : p = if (r : Int) = A (48 + 17 * l) 0 then 48 + 17 * l + 1 else 48 + 17 * l + 9) : ∃ (v : Int) (A2 : Nat → Nat → Int), ni_Dc xs St 3 91 (fun ad => [.ref (ad 0), ni_z (r : Int), ni_z x, .ref (ad (48 + 17 * l))]) A (fun _ => some (ni_z v)) A2 ∧ ni_acc A p (x - 2097152) v A2 := by
  have hs := (ni_liS l hl).1
  have hk := (ni_liS l hl).2
  have hB := hLB l hl
  have hpo : ni_po p := by
    unfold ni_po
    split at hp <;> omega
  obtain ⟨a1, a2, a3, a4, a5, a6, a7, a8, _⟩ := hNI.2.2.2.2.1 p hpo
  have hby := nq_bytes (hNI.2.2.2.2.1 p hpo)
  have hx0 := hx.1
  by_cases hra : (r : Int) = A (48 + 17 * l) 0
  · rw [if_pos hra] at hp
    subst hp
    have b := ni_o3_1 hs hk
    obtain ⟨v, A2, g1, g2⟩ := mt_accept (xs := xs) (St := St) (A := A) (p := 48 + 17 * l + 1) (x := x - 2097152) (by omega) (by omega) (by omega) a6 (by omega) a4 b.1 b.2.1
    exact ⟨v, A2, mt_so3 hx0 hs hk (by omega) hup (by omega) (by omega) (by omega) hra g1, g2⟩
  · rw [if_neg hra] at hp
    subst hp
    have b := ni_o3_9 hs hk
    obtain ⟨v, A2, g1, g2⟩ := mt_accept (xs := xs) (St := St) (A := A) (p := 48 + 17 * l + 9) (x := x - 2097152) (by omega) (by omega) (by omega) a6 (by omega) a4 b.1 b.2.1
    exact ⟨v, A2, mt_so4 hx0 hs hk (by omega) hup (by omega) (by omega) (by omega) hra g1, g2⟩
theorem mt_dealM {r : Nat} {x e : Int} {lo dl dl' : Nat → Int} (hr : r < 8) (hT : ni_TI A (286 + 11 * r + 7)) (hLB : ni_LB A) (hFC : nq_FC A) (hNI : nq_NI A e lo dl) (he : e ≤ 900000) (hx : x = -1 ∨ ni_PK A x) (hd : ∀ f, f < 12 → dl' f = dl f - ni_is f x) : ni_M xs St 5 79 [ni_aP 0, ni_aI (r : Int), ni_aI x] A (nq_DP A (e + 2) lo dl') := by
  rcases hx with hx | hx
  · exact ⟨none, A, ⟨rfl, nq_csR, nq_frPr, nq_NIm hNI (by omega) (fun f hf => by rw [hd f hf, hx, ni_isN hf]; omega)⟩, mt_dealN hx⟩
  · obtain ⟨h1, h3, h4, h5, h6, h7⟩ := hx
    have h12 := hNI.1
    have ht := hNI.2.1
    obtain ⟨f, hF⟩ : ∃ f : Nat, x % 16 = f := ⟨(x % 16).toNat, by omega⟩
    have hf : f < 12 := by omega
    have hfc : (f : Int) < A 0 3 := by omega
    rw [hF, Int.toNat_natCast] at h6 h7
    have hFI := hNI.2.2.2.1 f hf hfc
    have hFCf := hFC f hf hfc
    have hdd : ∀ f', f' < 12 → dl' f' = dl f' + if f' = f then -1 else 0 := fun f' hf' => by
      rw [hd f' hf', nq_isE hF]
      split <;> omega
    have hxp : ni_PK A x := ⟨h1, h3, h4, h5, by rw [hF, Int.toNat_natCast]; exact h6, by rw [hF, Int.toNat_natCast]; exact h7⟩
    obtain ⟨v, htow, hv⟩ := mt_toward (xs := xs) (St := St) (f := f) hr hf hT
    rcases hv with hv | hv
    · have hn5 : 0 ≤ x / 16 % 64 * A (12 + 3 * f) 5 := Int.mul_nonneg (by omega) hFCf.2.2.2.2.1.1
      have hst := hFI.2.2.2.2.2.2
      unfold nq_FS at hst
      by_cases hb : A (12 + 3 * f) 17 ≤ x / 16 % 64
      · obtain ⟨n1, n2⟩ := nq_deliv (n := x / 16 % 64) (b := 0) hNI hFC hf hfc (by omega) ⟨h6, h7⟩ (Or.inl ⟨rfl, hb⟩) hdd
        have g := mt_deliver0 (xs := xs) (St := St) (A := A) (f := 12 + 3 * f) (n := x / 16 % 64) (t := A 0 0) (by omega) (by omega) (by omega) (by omega) hb (ni_flS f hf).1 (ni_flS f hf).2
        exact ⟨none, nq_dv A (12 + 3 * f) (x / 16 % 64) (A 0 0) 0, ⟨rfl, nq_csF hf n2, nq_frPf hf hfc n2, nq_NIm n1 (by omega) (fun _ _ => rfl)⟩, mt_dealH h1 hF hf htow hv g⟩
      · obtain ⟨n1, n2⟩ := nq_deliv (n := x / 16 % 64) (b := 1) hNI hFC hf hfc (by omega) ⟨h6, h7⟩ (Or.inr ⟨rfl, by omega⟩) hdd
        have g := mt_deliver1 (xs := xs) (St := St) (A := A) (f := 12 + 3 * f) (n := x / 16 % 64) (t := A 0 0) (by omega) (by omega) (by omega) (by omega) (by omega) (ni_flS f hf).1 (ni_flS f hf).2
        exact ⟨none, nq_dv A (12 + 3 * f) (x / 16 % 64) (A 0 0) 1, ⟨rfl, nq_csF hf n2, nq_frPf hf hfc n2, nq_NIm n1 (by omega) (fun _ _ => rfl)⟩, mt_dealH h1 hF hf htow hv g⟩
    · by_cases hv1 : v = -1
      · obtain ⟨n1, n2⟩ := nq_drop (n := 1) hNI hf hfc (by omega) hdd
        exact ⟨none, _, ⟨rfl, nq_csF hf n2, nq_frPf hf hfc n2, nq_NIm n1 (by omega) (fun _ _ => rfl)⟩, mt_dealE h1 hF hf htow hv1⟩
      · obtain ⟨L, hL⟩ := Int.eq_ofNat_of_zero_le (show 0 ≤ v by omega)
        have hL2 : L < 14 := by omega
        have hs := (ni_liS L hL2).1
        have hk := (ni_liS L hL2).2
        have hB := hLB L hL2
        by_cases hlife : x / 2097152 ≤ 1
        · obtain ⟨n1, n2⟩ := nq_drop (n := 2) hNI hf hfc (by omega) hdd
          exact ⟨none, _, ⟨rfl, nq_csF hf n2, nq_frPf hf hfc n2, nq_NIm n1 (by omega) (fun _ _ => rfl)⟩, mt_dealD h1 hF hf htow hL hL2 (mt_so1 (r := (r : Int)) h1 hs hk hlife) (n := 2) rfl (by omega)⟩
        · by_cases hup : A (48 + 17 * L) 5 = 0
          · obtain ⟨n1, n2⟩ := nq_drop (n := 3) hNI hf hfc (by omega) hdd
            exact ⟨none, _, ⟨rfl, nq_csF hf n2, nq_frPf hf hfc n2, nq_NIm n1 (by omega) (fun _ _ => rfl)⟩, mt_dealD h1 hF hf htow hL hL2 (mt_so2 (r := (r : Int)) h1 hs hk (by omega) hup) (n := 3) rfl (by omega)⟩
          · obtain ⟨p, hp⟩ : ∃ p : Nat, p = if (r : Int) = A (48 + 17 * L) 0 then 48 + 17 * L + 1 else 48 + 17 * L + 9 := ⟨_, rfl⟩
            obtain ⟨w, A2, hso, hacc⟩ := mt_sendOn (xs := xs) (St := St) hr hL2 hLB hNI he hxp hlife (by omega) hp
            have hpo : ni_po p := by
              unfold ni_po
              split at hp <;> omega
            have hlip : ni_li p = 48 + 17 * L := by
              unfold ni_li
              split at hp <;> omega
            have hu : A (ni_li p) 5 ≠ 0 := by rw [hlip]; exact hup
            rcases hacc with ⟨hw, hA2⟩ | ⟨hw, hA2⟩ | ⟨hw, hq, _, B, hB2, hA2⟩
            · subst hA2
              obtain ⟨n1, n2⟩ := nq_drop (n := 4) hNI hf hfc (by omega) hdd
              exact ⟨none, _, ⟨rfl, nq_csF hf n2, nq_frPf hf hfc n2, nq_NIm n1 (by omega) (fun _ _ => rfl)⟩, mt_dealD h1 hF hf htow hL hL2 hso (n := 4) hw (by omega)⟩
            · obtain ⟨m1, m2⟩ := nq_early hNI hpo
              rw [← hA2] at m1 m2
              have mc := nq_csP hpo m2
              obtain ⟨n1, n2⟩ := nq_drop (n := 5) m1 hf (by rw [mc.2.2.2.1]; exact hfc) (by omega) hdd
              refine ⟨none, _, ⟨rfl, nq_csT mc (nq_csF hf n2), nq_frPt (nq_frPp hpo hu m2) mc (nq_frPf hf (by rw [mc.2.2.2.1]; exact hfc) n2), nq_NIm n1 (by omega) (fun _ _ => rfl)⟩, mt_dealD h1 hF hf htow hL hL2 hso (n := 5) hw (by omega)⟩
            · have hB3 : nq_NI B (e + 1) lo dl ∧ (∀ s j, ¬ nq_mP p s j → B s j = A s j) ∧ B p 10 = A p 10 ∧ B p 11 = A p 11 := by
                rcases hB2 with hB2 | hB2
                · subst hB2
                  exact ⟨nq_NIm hNI (by omega) (fun _ _ => rfl), fun _ _ _ => rfl, rfl, rfl⟩
                · obtain ⟨m1, m2⟩ := nq_early hNI hpo
                  rw [← hB2] at m1 m2
                  exact ⟨m1, m2, by rw [hB2, ni_u2n (by omega)], by rw [hB2, ni_u2n (by omega)]⟩
              obtain ⟨m1, m2, m3, m4⟩ := hB3
              have mc := nq_csP hpo m2
              have hli : ∀ j, B (ni_li p) j = A (ni_li p) j := fun j => by rw [hlip]; exact mc.2.2.2.2.2 L hL2 j
              obtain ⟨n1, n2⟩ := nq_wait (dl' := dl') m1 hpo (ni_PKc (nq_older hxp hlife) mc h12.2) (by rw [m3]; exact hq) (by rw [hli]; exact hu) (fun f' hf' => by
                rw [hd f' hf']
                unfold ni_is
                rw [show (x - 2097152) % 16 = x % 16 by omega])
              rw [m3, m4, ← hA2] at n1 n2
              exact ⟨none, A2, ⟨rfl, nq_csT mc (nq_csP hpo n2), nq_frPt (nq_frPp hpo hu m2) mc (nq_frPp hpo (by rw [hli]; exact hu) n2), nq_NIm n1 (by omega) (fun _ _ => rfl)⟩, mt_dealW h1 hF hf htow hL hL2 hso hw⟩
/-! a flow's own -/
theorem nq_gain {e : Int} {lo dl : Nat → Int} {f : Nat} {x : Int} (h : nq_NI A e lo dl) (hf : f < 12) (hx : 0 ≤ x ∧ x ≤ 10000) : nq_NI (ni_u2 A (12 + 3 * f) 9 x) e lo dl ∧ ∀ s j, ¬ nq_mF f s j → ni_u2 A (12 + 3 * f) 9 x s j = A s j := by
  have hfr : ∀ s j, ¬ nq_mF f s j → ni_u2 A (12 + 3 * f) 9 x s j = A s j := fun s j hm => by
    unfold nq_mF at hm
    rw [ni_u2n (by omega)]
  have g : ∀ s j, ¬ (s = 12 + 3 * f ∧ j = 9) → ni_u2 A (12 + 3 * f) 9 x s j = A s j := fun s j hm => ni_u2n (by omega)
  have hc := nq_csF hf hfr
  obtain ⟨q3, q0, qe, qF, qP, qB⟩ := h
  by_cases hfc : (f : Int) < A 0 3
  · refine ⟨nq_flowU (c := 0) ⟨q3, q0, qe, qF, qP, qB⟩ hf hfr (Int.le_refl _) ?_ ?_ (fun f' hf' => by split <;> omega), hfr⟩
    · obtain ⟨a1, a2, a3, a4, a5, a6, a7⟩ := qF f hf hfc
      unfold nq_FI nq_FS
      rw [ni_u2e, hc.1, g _ 11 (by omega), g _ 12 (by omega), g _ 13 (by omega), g _ 15 (by omega), g _ 16 (by omega), g _ 17 (by omega), g _ 18 (by omega)]
      refine ⟨hx, a2, fun j hj => ?_, a4, a5, fun k hk => ?_, a7⟩
      · rw [g _ _ (by omega)]
        exact ⟨ni_PKc (a3 j hj).1 hc q3.2, (a3 j hj).2⟩
      · rw [g _ _ (by omega)]
        exact a6 k hk
    · unfold nq_dr
      rw [g _ 12 (by omega), g _ 13 (by omega), g _ 11 (by omega), g (12 + 3 * f + 2) 0 (by omega), g (12 + 3 * f + 2) 1 (by omega), g (12 + 3 * f + 2) 2 (by omega), g (12 + 3 * f + 2) 3 (by omega), g (12 + 3 * f + 2) 4 (by omega), g (12 + 3 * f + 2) 5 (by omega), g (12 + 3 * f + 2) 6 (by omega)]
      omega
  · refine ⟨?_, hfr⟩
    unfold nq_mF at hfr
    refine ⟨by rw [hc.2.2.2.1]; exact q3, by rw [hc.1]; exact q0, qe, fun f' hf' hfc' => ?_, fun p hp => ?_, fun f' hf' hfc' => ?_⟩
    · rw [hc.2.2.2.1] at hfc'
      exact nq_FIc (qF f' hf' hfc') hc q3.2 (Int.le_refl _) (fun j => hfr _ _ (by omega)) (fun j => hfr _ _ (by omega)) (fun j => hfr _ _ (by omega))
    · have hp' := hp
      unfold ni_po at hp'
      exact nq_PIc hp (qP p hp) hc q3.2 (Int.le_refl _) (fun j => hfr _ _ (by omega)) (hfr _ _ (by omega)) (fun j => hfr _ _ (by omega)) (fun j => hfr _ _ (by omega)) (fun j => hfr _ _ (by omega)) (fun j => hfr _ _ (by omega))
    · rw [hc.2.2.2.1] at hfc'
      have h1 := qB f' hf' hfc'
      have h4 : ni_In (ni_u2 A (12 + 3 * f) 9 x) f' 14 = ni_In A f' 14 := ni_InC 14 (fun l hl => ⟨ni_WC (hfr _ _ (by omega)) (fun j => hfr _ _ (by omega)) (hfr _ _ (by omega)) (fun j => hfr _ _ (by omega)), ni_WC (hfr _ _ (by omega)) (fun j => hfr _ _ (by omega)) (hfr _ _ (by omega)) (fun j => hfr _ _ (by omega))⟩)
      unfold nq_dr at h1 ⊢
      rw [h4, hfr (12 + 3 * f') 12 (by omega), hfr (12 + 3 * f') 13 (by omega), hfr (12 + 3 * f') 11 (by omega), hfr (12 + 3 * f' + 2) 0 (by omega), hfr (12 + 3 * f' + 2) 1 (by omega), hfr (12 + 3 * f' + 2) 2 (by omega), hfr (12 + 3 * f' + 2) 3 (by omega), hfr (12 + 3 * f' + 2) 4 (by omega), hfr (12 + 3 * f' + 2) 5 (by omega), hfr (12 + 3 * f' + 2) 6 (by omega)]
      exact h1
theorem nq_offer {e : Int} {lo dl dl' : Nat → Int} {f : Nat} (h : nq_NI A e lo dl) (hf : f < 12) (hfc : (f : Int) < A 0 3) (hd : ∀ f', f' < 12 → dl' f' = dl f' + if f' = f then 1 else 0) : nq_NI (ni_u2 A (12 + 3 * f) 12 (A (12 + 3 * f) 12 + 1)) (e + 1) lo dl' ∧ ∀ s j, ¬ nq_mF f s j → ni_u2 A (12 + 3 * f) 12 (A (12 + 3 * f) 12 + 1) s j = A s j := by
  have hfr : ∀ s j, ¬ nq_mF f s j → ni_u2 A (12 + 3 * f) 12 (A (12 + 3 * f) 12 + 1) s j = A s j := fun s j hm => by
    unfold nq_mF at hm
    rw [ni_u2n (by omega)]
  have g : ∀ s j, ¬ (s = 12 + 3 * f ∧ j = 12) → ni_u2 A (12 + 3 * f) 12 (A (12 + 3 * f) 12 + 1) s j = A s j := fun s j hm => ni_u2n (by omega)
  have hc := nq_csF hf hfr
  refine ⟨nq_flowU (c := 1) h hf hfr (Int.le_add_one (Int.le_refl _)) ?_ ?_ hd, hfr⟩
  · obtain ⟨a1, a2, a3, a4, a5, a6, a7⟩ := h.2.2.2.1 f hf hfc
    unfold nq_FI nq_FS
    rw [ni_u2e, hc.1, g _ 9 (by omega), g _ 11 (by omega), g _ 13 (by omega), g _ 15 (by omega), g _ 16 (by omega), g _ 17 (by omega), g _ 18 (by omega)]
    refine ⟨a1, a2, fun j hj => ?_, ⟨by omega, by omega⟩, by omega, fun k hk => ?_, a7⟩
    · rw [g _ _ (by omega)]
      exact ⟨ni_PKc (a3 j hj).1 hc h.1.2, (a3 j hj).2⟩
    · rw [g _ _ (by omega)]
      have := a6 k hk
      omega
  · unfold nq_dr
    rw [ni_u2e, g _ 13 (by omega), g _ 11 (by omega), g (12 + 3 * f + 2) 0 (by omega), g (12 + 3 * f + 2) 1 (by omega), g (12 + 3 * f + 2) 2 (by omega), g (12 + 3 * f + 2) 3 (by omega), g (12 + 3 * f + 2) 4 (by omega), g (12 + 3 * f + 2) 5 (by omega), g (12 + 3 * f + 2) 6 (by omega)]
    omega
theorem nq_push {e : Int} {lo dl dl' : Nat → Int} {f : Nat} {x : Int} (h : nq_NI A e lo dl) (hf : f < 12) (hfc : (f : Int) < A 0 3) (hx : ni_PK A x) (hxf : x % 16 = f) (hn : A (12 + 3 * f) 11 < 10) (hd : ∀ f', f' < 12 → dl' f' = dl f' + if f' = f then -1 else 0) : nq_NI (ni_u2 (ni_u2 A (12 + 3 * f + 1) (A (12 + 3 * f) 11).toNat x) (12 + 3 * f) 11 (A (12 + 3 * f) 11 + 1)) e lo dl' ∧ ∀ s j, ¬ nq_mF f s j → ni_u2 (ni_u2 A (12 + 3 * f + 1) (A (12 + 3 * f) 11).toNat x) (12 + 3 * f) 11 (A (12 + 3 * f) 11 + 1) s j = A s j := by
  have hfr : ∀ s j, ¬ nq_mF f s j → ni_u2 (ni_u2 A (12 + 3 * f + 1) (A (12 + 3 * f) 11).toNat x) (12 + 3 * f) 11 (A (12 + 3 * f) 11 + 1) s j = A s j := fun s j hm => by
    unfold nq_mF at hm
    rw [ni_u2n (by omega), ni_u2n (by omega)]
  have g : ∀ s j, ¬ (s = 12 + 3 * f ∧ j = 11) → s ≠ 12 + 3 * f + 1 → ni_u2 (ni_u2 A (12 + 3 * f + 1) (A (12 + 3 * f) 11).toNat x) (12 + 3 * f) 11 (A (12 + 3 * f) 11 + 1) s j = A s j := fun s j hm h1 => by rw [ni_u2n (by omega), ni_u2n (by omega)]
  have hc := nq_csF hf hfr
  refine ⟨nq_flowU (c := -1) h hf hfr (Int.le_refl _) ?_ ?_ hd, hfr⟩
  · obtain ⟨a1, a2, a3, a4, a5, a6, a7⟩ := h.2.2.2.1 f hf hfc
    unfold nq_FI nq_FS
    rw [ni_u2e, hc.1, g _ 9 (by omega) (by omega), g _ 12 (by omega) (by omega), g _ 13 (by omega) (by omega), g _ 15 (by omega) (by omega), g _ 16 (by omega) (by omega), g _ 17 (by omega) (by omega), g _ 18 (by omega) (by omega)]
    refine ⟨a1, ⟨by omega, by omega⟩, fun j hj => ?_, a4, a5, fun k hk => ?_, a7⟩
    · rw [ni_u2n (by omega)]
      by_cases ej : j = (A (12 + 3 * f) 11).toNat
      · rw [ej, ni_u2e]
        exact ⟨ni_PKc hx hc h.1.2, hxf⟩
      · rw [ni_u2n (by omega)]
        exact ⟨ni_PKc (a3 j (by omega)).1 hc h.1.2, (a3 j (by omega)).2⟩
    · rw [g _ _ (by omega) (by omega)]
      exact a6 k hk
  · unfold nq_dr
    rw [ni_u2e, g _ 12 (by omega) (by omega), g _ 13 (by omega) (by omega), g (12 + 3 * f + 2) 0 (by omega) (by omega), g (12 + 3 * f + 2) 1 (by omega) (by omega), g (12 + 3 * f + 2) 2 (by omega) (by omega), g (12 + 3 * f + 2) 3 (by omega) (by omega), g (12 + 3 * f + 2) 4 (by omega) (by omega), g (12 + 3 * f + 2) 5 (by omega) (by omega), g (12 + 3 * f + 2) 6 (by omega) (by omega)]
    omega
theorem nq_pull {e : Int} {lo dl dl' : Nat → Int} {f : Nat} (h : nq_NI A e lo dl) (hf : f < 12) (hfc : (f : Int) < A 0 3) (h2 : 0 ≤ A (12 + 3 * f) 2 ∧ A (12 + 3 * f) 2 ≤ A (12 + 3 * f) 9) (hn : 0 < A (12 + 3 * f) 11) (hd : ∀ f', f' < 12 → dl' f' = dl f' + if f' = f then 1 else 0) : nq_NI (ni_u2 (ni_sf (ni_u2 A (12 + 3 * f) 9 (A (12 + 3 * f) 9 - A (12 + 3 * f) 2)) (12 + 3 * f + 1) 0 (A (12 + 3 * f) 11).toNat) (12 + 3 * f) 11 (A (12 + 3 * f) 11 - 1)) e lo dl' ∧ ∀ s j, ¬ nq_mF f s j → ni_u2 (ni_sf (ni_u2 A (12 + 3 * f) 9 (A (12 + 3 * f) 9 - A (12 + 3 * f) 2)) (12 + 3 * f + 1) 0 (A (12 + 3 * f) 11).toNat) (12 + 3 * f) 11 (A (12 + 3 * f) 11 - 1) s j = A s j := by
  have hfr : ∀ s j, ¬ nq_mF f s j → ni_u2 (ni_sf (ni_u2 A (12 + 3 * f) 9 (A (12 + 3 * f) 9 - A (12 + 3 * f) 2)) (12 + 3 * f + 1) 0 (A (12 + 3 * f) 11).toNat) (12 + 3 * f) 11 (A (12 + 3 * f) 11 - 1) s j = A s j := fun s j hm => by
    unfold nq_mF at hm
    rw [ni_u2n (by omega), ni_sfN (by omega), ni_u2n (by omega)]
  have g : ∀ s j, ¬ (s = 12 + 3 * f ∧ (j = 9 ∨ j = 11)) → s ≠ 12 + 3 * f + 1 → ni_u2 (ni_sf (ni_u2 A (12 + 3 * f) 9 (A (12 + 3 * f) 9 - A (12 + 3 * f) 2)) (12 + 3 * f + 1) 0 (A (12 + 3 * f) 11).toNat) (12 + 3 * f) 11 (A (12 + 3 * f) 11 - 1) s j = A s j := fun s j hm h1 => by rw [ni_u2n (by omega), ni_sfN (by omega), ni_u2n (by omega)]
  have g9 : ni_u2 (ni_sf (ni_u2 A (12 + 3 * f) 9 (A (12 + 3 * f) 9 - A (12 + 3 * f) 2)) (12 + 3 * f + 1) 0 (A (12 + 3 * f) 11).toNat) (12 + 3 * f) 11 (A (12 + 3 * f) 11 - 1) (12 + 3 * f) 9 = A (12 + 3 * f) 9 - A (12 + 3 * f) 2 := by rw [ni_u2n (by omega), ni_sfN (by omega), ni_u2e]
  have hc := nq_csF hf hfr
  refine ⟨nq_flowU (c := 1) h hf hfr (Int.le_refl _) ?_ ?_ hd, hfr⟩
  · obtain ⟨a1, a2, a3, a4, a5, a6, a7⟩ := h.2.2.2.1 f hf hfc
    unfold nq_FI nq_FS
    rw [ni_u2e, hc.1, g9, g _ 12 (by omega) (by omega), g _ 13 (by omega) (by omega), g _ 15 (by omega) (by omega), g _ 16 (by omega) (by omega), g _ 17 (by omega) (by omega), g _ 18 (by omega) (by omega)]
    refine ⟨by omega, ⟨by omega, by omega⟩, fun j hj => ?_, a4, a5, fun k hk => ?_, a7⟩
    · rw [ni_u2n (by omega)]
      unfold ni_sf
      rw [if_pos (by omega), ni_u2n (by omega)]
      exact ⟨ni_PKc (a3 (j + 1) (by omega)).1 hc h.1.2, (a3 (j + 1) (by omega)).2⟩
    · rw [g _ _ (by omega) (by omega)]
      exact a6 k hk
  · unfold nq_dr
    rw [ni_u2e, g _ 12 (by omega) (by omega), g _ 13 (by omega) (by omega), g (12 + 3 * f + 2) 0 (by omega) (by omega), g (12 + 3 * f + 2) 1 (by omega) (by omega), g (12 + 3 * f + 2) 2 (by omega) (by omega), g (12 + 3 * f + 2) 3 (by omega) (by omega), g (12 + 3 * f + 2) 4 (by omega) (by omega), g (12 + 3 * f + 2) 5 (by omega) (by omega), g (12 + 3 * f + 2) 6 (by omega) (by omega)]
    omega
end NDM
