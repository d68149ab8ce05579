/-! THE LAW: A STEP -/
section NLW
variable {xs : List Int32} {M : ni_H} {Q : Option Value → ni_H → Prop}
set_option maxRecDepth 40000 in
theorem lw_467 {n nl nf la c z kk i : Nat} {w E T x l : Int} {w8 w9 w10 w11 w12 w13 w14 : Value} (hS : lz_5 n nl nf la c z w kk E T M) (hc : c ≤ 99000) (hE : E ≤ 400000) (hT : T ≤ 500) (hnf : 1 ≤ nf ∧ nf ≤ 12) (hx : ni_R32 x) (hi : i < 12) (hK : ∀ (M' : ni_H) (w6 w7 w8 w9 w10 w11 w12 w13 w14 : Value), lz_5 n nl nf la c z w kk (E + 2400) (T + 6) M' → wp_G xs 31 156 217 [.ref ni_big, .ref 0, ni_z (n : Int), .ref la, ni_z (nf : Int), ni_z ((i : Int) + 1), w6, w7, w8, w9, w10, w11, w12, w13, w14] [] M' Q) : wp_G xs 31 156 467 [.ref ni_big, .ref 0, ni_z ((n : Int)), .ref la, ni_z ((nf : Int)), ni_z ((i : Int)), ni_z (x), ni_z (l), w8, w9, w10, w11, w12, w13, w14] [] M Q := by
  obtain ⟨vs, St, own, A, B, e, hS, hLE, hH, h3, h8, hE', hT'⟩ := hS
  obtain ⟨hR, hI, hCO, hown, hcn, hla, hvs⟩ := hS
  have h14 := hI.2.2.2.2.2.1.2
  have h00 := hI.1.2.1
  have h3' := hI.1.1
  obtain ⟨xd, hdg⟩ := lz_dig (xs := xs) (c := c) (z := z) (lz_m hR).1 (by omega) hI hLE
  refine wp_Ld rfl rfl rfl ?_
  refine wp_V (r := []) (as := []) rfl rfl rfl (lz_m hR).2 (Nat.le_of_ble_eq_true rfl) (wp_up (hdg _ _ hR) (by decide)) ?_
  rintro uk1 Mk1 ⟨huk1, hR⟩
  rw [huk1]
  refine wp_St (ls' := [.ref ni_big, .ref 0, ni_z ((n : Int)), .ref la, ni_z ((nf : Int)), ni_z ((i : Int)), ni_z (x), ni_z (l), .long xd, ni_J, w10, w11, w12, w13, w14]) rfl rfl rfl ?_
  refine wp_Ld rfl rfl rfl ?_
  refine wp_P (g := ni_gPush (.int (4)) 476) rfl (wp_push (z := 4) rfl) ?_
  refine lz_shr (n := 4) (x := x) rfl (by omega) hx (fun v2 hv2 => ?_)
  refine wp_Ld rfl rfl rfl ?_
  refine wp_S (r := []) (as := [ni_z (v2), ni_z ((nf : Int))]) rfl (Nat.le_of_ble_eq_true rfl) rfl rfl (Nat.le_of_ble_eq_true rfl) (wp_up (mt_below (v := v2) (n := (nf : Int)) (by omega)) (by decide)) ?_
  rintro u3 M5 ⟨⟨b4, hb4, huu3⟩, hMM5⟩
  rw [huu3, hMM5]
  obtain ⟨fl, hfl⟩ : ∃ fl : Nat, (fl : Int) = b4 := ⟨(b4).toNat, by omega⟩
  rw [← hfl]
  refine wp_St (ls' := [.ref ni_big, .ref 0, ni_z ((n : Int)), .ref la, ni_z ((nf : Int)), ni_z ((i : Int)), ni_z (x), ni_z (l), .long xd, ni_J, ni_z ((fl : Int)), w11, w12, w13, w14]) rfl rfl rfl ?_
  refine wp_P (g := ni_gPush (.int (1)) 485) rfl (wp_push (z := 1) rfl) ?_
  refine wp_Ld rfl rfl rfl ?_
  refine wp_P (g := ni_gPush (.int (7)) 489) rfl (wp_push (z := 7) rfl) ?_
  refine lz_shr (n := 7) (x := x) rfl (by omega) hx (fun v6 hv6 => ?_)
  refine wp_P (g := ni_gPush (.int (6)) 492) rfl (wp_push (z := 6) rfl) ?_
  refine wp_S (r := [ni_z (1)]) (as := [ni_z (v6), ni_z (6)]) rfl (Nat.le_of_ble_eq_true rfl) rfl rfl (Nat.le_of_ble_eq_true rfl) (wp_up (mt_below (v := v6) (n := 6) (by omega)) (by decide)) ?_
  rintro u7 M9 ⟨⟨b8, hb8, huu7⟩, hMM9⟩
  rw [huu7, hMM9]
  refine wp_P rfl wp_add ?_
  obtain ⟨t, ht⟩ : ∃ t : Nat, (t : Int) = 1 + b8 := ⟨(1 + b8).toNat, by omega⟩
  rw [← ht]
  refine wp_St (ls' := [.ref ni_big, .ref 0, ni_z ((n : Int)), .ref la, ni_z ((nf : Int)), ni_z ((i : Int)), ni_z (x), ni_z (l), .long xd, ni_J, ni_z ((fl : Int)), ni_z ((t : Int)), w12, w13, w14]) rfl rfl rfl ?_
  refine wp_Ld rfl rfl rfl ?_
  refine wp_Ld rfl rfl rfl ?_
  refine wp_Ld rfl rfl rfl ?_
  refine wp_V (r := []) (as := [ni_z ((fl : Int)), ni_z ((t : Int))]) rfl rfl rfl (lz_m hR).2 (Nat.le_of_ble_eq_true rfl) (wp_up (lz_del hR (by omega) hI hH (by omega) (by omega) (by omega) (by omega) (by omega)) (by decide)) ?_
  rintro uk10 Mk10 ⟨huk10, hR⟩
  have hH2 := (np_Hit (xs := xs) (i := t) hI hH (by omega) (by omega)).1
  rw [huk10]
  generalize hD : (nq_it xs St own e A t) (12 + 3 * fl) 13 = D at *
  refine wp_St (ls' := [.ref ni_big, .ref 0, ni_z ((n : Int)), .ref la, ni_z ((nf : Int)), ni_z ((i : Int)), ni_z (x), ni_z (l), .long xd, ni_J, ni_z ((fl : Int)), ni_z ((t : Int)), ni_z (D), w13, w14]) rfl rfl rfl ?_
  refine wp_Ld rfl rfl rfl ?_
  refine wp_Ld rfl rfl rfl ?_
  refine wp_V (r := []) (as := [ni_z ((t : Int))]) rfl rfl rfl (lz_m hR).2 (Nat.le_of_ble_eq_true rfl) (wp_up (lz_set hR (by omega) hI hH2 (by omega) (by omega) (by omega)) (by decide)) ?_
  rintro uk11 Mk11 ⟨s, B2, huk11, hsq, hH3, hR⟩
  obtain ⟨sq1, sq2, sq3, sq4, sq5⟩ := lz_sq hI (by omega) (by omega) (by omega) hsq
  rw [huk11]
  refine wp_St (ls' := [.ref ni_big, .ref 0, ni_z ((n : Int)), .ref la, ni_z ((nf : Int)), ni_z ((i : Int)), ni_z (x), ni_z (l), .long xd, ni_J, ni_z ((fl : Int)), ni_z ((t : Int)), ni_z (D), ni_z (s), w14]) rfl rfl rfl ?_
  refine wp_Ld rfl rfl rfl ?_
  refine wp_V (r := []) (as := []) rfl rfl rfl (lz_m hR).2 (Nat.le_of_ble_eq_true rfl) (wp_up (hdg _ _ hR) (by decide)) ?_
  rintro uk12 Mk12 ⟨huk12, hR⟩
  rw [huk12]
  refine wp_Ld rfl rfl rfl ?_
  refine wp_P (st' := [ni_z 0]) rfl (by show some (523, [Value.int (lg_cmp xd xd)]) = _; rw [lz_cmp]; rfl) ?_
  refine wp_If false rfl (zf_ne_f ⟨by omega, by omega⟩ (by omega)) ?_
  refine wp_Ld rfl rfl rfl ?_
  refine wp_Ld rfl rfl rfl ?_
  refine wp_Ld rfl rfl rfl ?_
  refine wp_S (r := []) (as := [.ref 0, .ref la, ni_z ((nf : Int))]) rfl (Nat.le_of_ble_eq_true rfl) rfl rfl (Nat.le_of_ble_eq_true rfl) (wp_up (lz_snd hR (by omega) hI hLE (by omega) (by omega) hla.2.1 (by rw [hla.2.2, hcn.2]) h3) (by decide)) ?_
  rintro uk13 Mk13 ⟨huk13, hR⟩
  rw [huk13]
  refine wp_If false rfl (zf_eq_f ⟨by omega, by omega⟩ (by omega)) ?_
  have hrest : ∀ M7, lz_R St M7 A B2 c z → wp_G xs 31 156 555 [.ref ni_big, .ref 0, ni_z ((n : Int)), .ref la, ni_z ((nf : Int)), ni_z ((i : Int)), ni_z (x), ni_z (l), .long xd, ni_J, ni_z ((fl : Int)), ni_z ((t : Int)), ni_z (D), ni_z (s), w14] [] M7 Q := fun M7 hR => by
    refine wp_Ld rfl rfl rfl ?_
    refine wp_V (r := []) (as := []) rfl rfl rfl (lz_m hR).2 (Nat.le_of_ble_eq_true rfl) (wp_up (lz_tim hR (by omega)) (by decide)) ?_
    rintro uk114 Mk114 ⟨huk114, hR⟩
    rw [huk114]
    refine wp_St (ls' := [.ref ni_big, .ref 0, ni_z ((n : Int)), .ref la, ni_z ((nf : Int)), ni_z ((i : Int)), ni_z (x), ni_z (l), .long xd, ni_J, ni_z ((fl : Int)), ni_z ((t : Int)), ni_z (D), ni_z (s), ni_z (A 0 0)]) rfl rfl rfl ?_
    refine wp_Ld rfl rfl rfl ?_
    refine wp_Ld rfl rfl rfl ?_
    refine wp_V (r := []) (as := [ni_z ((t : Int))]) rfl rfl rfl (lz_m hR).2 (Nat.le_of_ble_eq_true rfl) (wp_up (lz_step hR (by omega) hI hH3 (by omega) (by omega) (by omega)) (by decide)) ?_
    rintro uk115 Mk115 ⟨huk115, hH4, hR⟩
    obtain ⟨y1, y2, y3, y4, y5⟩ := nq_itP (xs := xs) hI t (by omega) (by omega)
    rw [huk115]
    refine wp_Ld rfl rfl rfl ?_
    refine wp_Ld rfl rfl rfl ?_
    refine wp_P rfl wp_add ?_
    refine wp_Ic false rfl (zc_ne_f ⟨by omega, by omega⟩ ⟨by omega, by omega⟩ (by omega)) ?_
    refine wp_Ld rfl rfl rfl ?_
    refine wp_Ld rfl rfl rfl ?_
    refine wp_V (r := []) (as := [ni_z ((fl : Int))]) rfl rfl rfl (lz_m hR).2 (Nat.le_of_ble_eq_true rfl) (wp_up (lz_dlv hR (by omega) (by omega) (by rw [y3 0 3 (by omega) (by omega)]; omega) (by rw [y3 0 3 (by omega) (by omega)]; omega)) (by decide)) ?_
    rintro uk116 Mk116 ⟨huk116, hR⟩
    rw [hD] at huk116
    rw [huk116]
    have hDb : 0 ≤ D ∧ D ≤ 1000000 := by
      obtain ⟨_, _, _, _, g5, _, g7⟩ := y1.1.2.2.2.1 fl (by omega) (by rw [y3 0 3 (by omega) (by omega)]; omega)
      unfold nq_FS at g7
      rw [hD] at g5 g7
      omega
    refine wp_Ld rfl rfl rfl ?_
    refine wp_Ic false rfl (zc_ne_f ⟨by omega, by omega⟩ ⟨by omega, by omega⟩ (by omega)) ?_
    have hend : ∀ M8, lz_R St M8 (nq_it xs St own e A t) B2 c z → wp_G xs 31 156 612 [.ref ni_big, .ref 0, ni_z ((n : Int)), .ref la, ni_z ((nf : Int)), ni_z ((i : Int)), ni_z (x), ni_z (l), .long xd, ni_J, ni_z ((fl : Int)), ni_z ((t : Int)), ni_z (D), ni_z (s), ni_z (A 0 0)] [] M8 Q := fun M8 hR => by
      refine wp_Inc (ls' := [.ref ni_big, .ref 0, ni_z ((n : Int)), .ref la, ni_z ((nf : Int)), ni_z ((i : Int) + 1), ni_z (x), ni_z (l), .long xd, ni_J, ni_z ((fl : Int)), ni_z ((t : Int)), ni_z (D), ni_z (s), ni_z (A 0 0)]) (x' := (i : Int) + 1) rfl rfl (zi_inc (z := 1) rfl) rfl ?_
      refine wp_P (g := ni_gGo 217) rfl rfl ?_
      refine hK M8 _ _ _ _ _ _ _ _ _ ⟨vs, St, own, nq_it xs St own e A t, B2, e + 400 * t, ⟨hR, y1, fun l hl hl2 => ?_, hown, ⟨by rw [y3 0 1 (by omega) (by omega)]; exact hcn.1, by rw [y3 0 2 (by omega) (by omega)]; exact hcn.2⟩, hla, fun l hl => ?_⟩, fun l hl => ?_, hH4, by rw [y3 0 3 (by omega) (by omega)]; exact h3, by rw [y3 8 3 (by omega) (by omega)]; exact h8, by omega, by omega⟩
      · rw [y3 0 2 (by omega) (by omega)] at hl2
        rw [y4 l hl]
        exact hCO l hl hl2
      · obtain ⟨x', ws, v1, v2, v3, v4⟩ := hvs l hl
        exact ⟨x', ws, v1, v2, by rw [y4 l (by omega)]; exact v3, by rw [y4 l (by omega)]; exact v4⟩
      · rw [y4 l hl, y4 l hl, y3 0 1 (by omega) (by omega)]
        exact hLE l hl
    refine wp_Ld rfl rfl rfl ?_
    by_cases g588 : s < 0
    · refine wp_If true rfl (zf_lt_t ⟨by omega, by omega⟩ g588) ?_
      refine wp_Ld rfl rfl rfl ?_
      refine wp_If false rfl (zf_ge_f ⟨by omega, by omega⟩ (by omega)) ?_
      refine wp_Ld rfl rfl rfl ?_
      refine wp_V (r := []) (as := []) rfl rfl rfl (lz_m hR).2 (Nat.le_of_ble_eq_true rfl) (wp_up (lz_stl hR (by omega) y1) (by decide)) ?_
      rintro uk117 Mk117 ⟨⟨q2, huk117, hq2, hqq2⟩, hR⟩
      rw [huk117]
      have e0 : q2 ≠ 1 := fun g => sq3 (by omega) (hqq2.mp g)
      refine wp_If true rfl (zf_eq_t ⟨by omega, by omega⟩ (by omega)) ?_
      exact hend _ hR
    · refine wp_If false rfl (zf_lt_f ⟨by omega, by omega⟩ g588) ?_
      refine wp_Ld rfl rfl rfl ?_
      refine wp_V (r := []) (as := []) rfl rfl rfl (lz_m hR).2 (Nat.le_of_ble_eq_true rfl) (wp_up (lz_stl hR (by omega) y1) (by decide)) ?_
      rintro uk118 Mk118 ⟨⟨q2, huk118, hq2, hqq2⟩, hR⟩
      rw [huk118]
      have e1 : q2 = 1 := hqq2.mpr (sq2 (by omega))
      refine wp_If false rfl (zf_eq_f ⟨by omega, by omega⟩ (by omega)) ?_
      refine wp_Ld rfl rfl rfl ?_
      refine wp_If true rfl (zf_ge_t ⟨by omega, by omega⟩ (by omega)) ?_
      exact hend _ hR
  refine wp_Ld rfl rfl rfl ?_
  refine wp_V (r := []) (as := []) rfl rfl rfl (lz_m hR).2 (Nat.le_of_ble_eq_true rfl) (wp_up (lz_stl hR (by omega) hI) (by decide)) ?_
  rintro uk14 Mk14 ⟨⟨q, huk14, hq01, hqq⟩, hR⟩
  rw [huk14]
  refine wp_Ld rfl rfl rfl ?_
  by_cases g542 : ¬ s = 0
  · refine wp_If true rfl (zf_ne_t ⟨by omega, by omega⟩ g542) ?_
    refine wp_P (g := ni_gPush (.int (0)) 550) rfl (wp_push (z := 0) rfl) ?_
    have e0 : s = 0 ↔ q = 1 := sq1.trans hqq.symm
    refine wp_Ic true rfl (zc_eq_t ⟨by omega, by omega⟩ ⟨by omega, by omega⟩ (by omega)) ?_
    exact hrest _ hR
  · refine wp_If false rfl (zf_ne_f ⟨by omega, by omega⟩ g542) ?_
    refine wp_P (g := ni_gPush (.int (1)) 546) rfl (wp_push (z := 1) rfl) ?_
    refine wp_P (g := ni_gGo 550) rfl rfl ?_
    have e0 : s = 0 ↔ q = 1 := sq1.trans hqq.symm
    refine wp_Ic true rfl (zc_eq_t ⟨by omega, by omega⟩ ⟨by omega, by omega⟩ (by omega)) ?_
    exact hrest _ hR
end NLW
