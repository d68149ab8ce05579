/-! THE LAW: ITS LOOPS -/
section NLX
variable {xs : List Int32} {M : ni_H}
/-- true, and how large the heap is at the end -/
def lz_Q (v : Option Value) (M' : ni_H) : Prop := v = some (ni_z 1) ∧ M'.2 = 0 ∧ M'.1.length ≤ 200000 ∧ ni_zs M' ≤ 1000000
set_option maxRecDepth 40000 in
theorem lz_5M {n nl nf la c z c' z' kk kk' : Nat} {w w' E E' T T' : Int} (h : lz_5 n nl nf la c z w kk E T M) (hc : c ≤ c') (hz : z ≤ z') (hw : w ≤ w') (hk : kk ≤ kk') (hE : E ≤ E') (hT : T ≤ T') : lz_5 n nl nf la c' z' w' kk' E' T' M := by
  obtain ⟨vs, St, own, A, B, e, hS, hLE, hH, h3, h8, hE1, hT1⟩ := h
  exact ⟨vs, St, own, A, B, e, lz_4M hS hc hz hw, hLE, hH, h3, by omega, by omega, by omega⟩
set_option maxRecDepth 40000 in
theorem lz_35 {n nl la f : Nat} {vs : List Value} {A : Nat → Nat → Int} (hn : 2 ≤ n) (hf : f ≤ 4) (h : lz_3 n nl la (600 + 3 * f) (46000 + 43 * f) (100 + f) vs f f A M) : lz_5 n nl f la 700 47000 200 0 0 0 M := by
  obtain ⟨St, own, hS, hFr, h00, h03, h83, h43, h6⟩ := h
  have hcn := hS.2.2.2.2.1
  have hLE := hS.2.1.2.2.1
  have hlc := hS.2.1.2.2.2.2.2.1
  refine ⟨vs, St, own, A, na_A 1, 0, lz_4M hS (by omega) (by omega) (by omega), fun l hl => ?_, na_H hFr, h03, by omega, Int.le_refl _, by omega⟩
  by_cases c : (l : Int) < A 0 2
  · exact hLE l hl c
  · have hd : nq_dead A (48 + 17 * l) := by
      unfold nq_dead
      omega
    rw [hFr _ 0 hd, hFr _ 1 hd, na_e (na_kl l hl).1, na_e (na_kl l hl).1, hcn.1]
    show (0 : Int) < n ∧ (0 : Int) < n
    omega
set_option maxRecDepth 40000 in
theorem lz_fin {n nl nf la c z kk : Nat} {w E T : Int} (h : lz_5 n nl nf la c z w kk E T M) (hc : c ≤ 5000) (hz : z ≤ 100000) : M.2 = 0 ∧ M.1.length ≤ 200000 ∧ ni_zs M ≤ 1000000 := by
  obtain ⟨vs, St, own, A, B, e, hS, _⟩ := h
  obtain ⟨w1, w2, w3, w4, t1, t2, t3, t4, t5, t6⟩ := hS.1
  have b1 := np_gz t1.2.2.1
  have b2 := np_gz t2.2.2.1
  exact ⟨t1.2.2.2.2.2.1, by omega, by omega⟩
set_option maxRecDepth 40000 in
theorem lz_5m {n nl nf la c z kk : Nat} {w E T : Int} (h : lz_5 n nl nf la c z w kk E T M) : M.1[0]? = some (9, [.ref 1, .ref 375]) ∧ ∃ vs, M.1[la]? = some (105, vs) ∧ vs.length = nl := by
  obtain ⟨vs, St, own, A, B, e, hS, _⟩ := h
  exact ⟨(lz_m hS.1).2, vs, (lz_lt hS.1 hS.2.2.2.2.2.1.2.1).2, hS.2.2.2.2.2.1.2.2⟩
set_option maxRecDepth 40000 in
theorem lw_217 {n nl nf la : Nat} (hxs : xs.length ≤ 100000) (hn : 2 ≤ n ∧ n ≤ 6) (hnl : 1 ≤ nl ∧ nl ≤ 14) (hnf : 1 ≤ nf ∧ nf ≤ 12) (hnf4 : nf ≤ 4) : ∀ k i : Nat, i + k = 12 → ∀ (M : ni_H) (w6 w7 w8 w9 w10 w11 w12 w13 w14 : Value), lz_5 n nl nf la (700 + 6 * i) (47000 + 86 * i) (200 + 2 * (i : Int)) i (3000 * (i : Int)) (6 * (i : Int)) M → wp_G xs 31 156 217 [.ref ni_big, .ref 0, ni_z ((n : Int)), .ref la, ni_z ((nf : Int)), ni_z ((i : Int)), w6, w7, w8, w9, w10, w11, w12, w13, w14] [] M lz_Q := by
  intro k
  induction k with
  | zero =>
    intro i hi M w6 w7 w8 w9 w10 w11 w12 w13 w14 hS
    obtain ⟨vs, St, own, A, B, e, hS4, hLE, hH, h3, h8, hE, hT⟩ := hS
    refine wp_Ld rfl rfl rfl ?_
    refine wp_P (g := ni_gPush (.int (12)) 221) rfl (wp_push (z := 12) rfl) ?_
    refine wp_Ic true rfl (zc_ge_t ⟨by omega, by omega⟩ ⟨by omega, by omega⟩ (by omega)) ?_
    refine wp_Ld rfl rfl rfl ?_
    refine wp_Ld rfl rfl rfl ?_
    refine wp_Ld rfl rfl rfl ?_
    refine wp_S (r := []) (as := [.ref 0, .ref la, ni_z ((nf : Int))]) rfl (Nat.le_of_ble_eq_true rfl) rfl rfl (Nat.le_of_ble_eq_true rfl) (wp_up (lz_snd hS4.1 (by omega) hS4.2.1 hLE (by omega) (by omega) hS4.2.2.2.2.2.1.2.1 (by rw [hS4.2.2.2.2.2.1.2.2, hS4.2.2.2.2.1.2]) h3) (by decide)) ?_
    rintro uk1 Mk1 ⟨huk1, hR⟩
    rw [huk1]
    refine wp_R rfl rfl ⟨rfl, ?_⟩
    obtain ⟨w1, w2, w3, w4, t1, t2, t3, t4, t5, t6⟩ := hR
    have b1 := np_gz t1.2.2.1
    have b2 := np_gz t2.2.2.1
    exact ⟨t1.2.2.2.2.2.1, by omega, by omega⟩
  | succ k ih =>
    intro i hi M w6 w7 w8 w9 w10 w11 w12 w13 w14 hS
    obtain ⟨vs, hla1, hvl⟩ := (lz_5m hS).2
    refine wp_Ld rfl rfl rfl ?_
    refine wp_P (g := ni_gPush (.int (12)) 221) rfl (wp_push (z := 12) rfl) ?_
    refine wp_Ic false rfl (zc_ge_f ⟨by omega, by omega⟩ ⟨by omega, by omega⟩ (by omega)) ?_
    refine wp_Ld rfl rfl rfl ?_
    refine wp_P (g := ni_gPush (.int (2)) 226) rfl (wp_push (z := 2) rfl) ?_
    refine wp_Ld rfl rfl rfl ?_
    refine wp_P rfl wp_add ?_
    rw [show (2 : Int) + (i : Int) = ((2 + i : Nat) : Int) by omega]
    refine wp_S (r := []) (as := [.ref ni_big, ni_z ((2 + i : Nat) : Int)]) rfl (Nat.le_of_ble_eq_true rfl) rfl rfl (Nat.le_of_ble_eq_true rfl) (wp_up (mt_cell (k := 2 + i) (by omega) hxs) (by decide)) ?_
    rintro u1 M3 ⟨⟨v2, hv2, huu1⟩, hMM3⟩
    rw [huu1, hMM3]
    refine wp_P (g := ni_gPush (.int (3)) 233) rfl (wp_push (z := 3) rfl) ?_
    refine lz_shr (n := 3) (x := v2) rfl (by omega) hv2 (fun v4 hv4 => ?_)
    refine wp_St (ls' := [.ref ni_big, .ref 0, ni_z ((n : Int)), .ref la, ni_z ((nf : Int)), ni_z ((i : Int)), ni_z (v4), w7, w8, w9, w10, w11, w12, w13, w14]) rfl rfl rfl ?_
    refine wp_Ld rfl rfl rfl ?_
    refine wp_Ld rfl rfl rfl ?_
    refine wp_Len rfl hla1 ⟨by decide, by decide⟩ (show Int32.ofNat vs.length = Int32.ofInt (nl : Int) by rw [hvl]; rfl) ?_
    refine wp_S (r := []) (as := [ni_z (v4), ni_z ((nl : Int))]) rfl (Nat.le_of_ble_eq_true rfl) rfl rfl (Nat.le_of_ble_eq_true rfl) (wp_up (mt_below (v := v4) (n := (nl : Int)) (by omega)) (by decide)) ?_
    rintro u5 M7 ⟨⟨b6, hb6, huu5⟩, hMM7⟩
    rw [huu5, hMM7]
    refine wp_St (ls' := [.ref ni_big, .ref 0, ni_z ((n : Int)), .ref la, ni_z ((nf : Int)), ni_z ((i : Int)), ni_z (v4), ni_z (b6), w8, w9, w10, w11, w12, w13, w14]) rfl rfl rfl ?_
    refine wp_Ld rfl rfl rfl ?_
    refine wp_P (g := ni_gPush (.int (3)) 248) rfl (wp_push (z := 3) rfl) ?_
    refine lz_shr (n := 3) (x := v4) rfl (by omega) hv4 (fun v8 hv8 => ?_)
    refine wp_P (g := ni_gPush (.int (7)) 251) rfl (wp_push (z := 7) rfl) ?_
    refine wp_S (r := []) (as := [ni_z (v8), ni_z (7)]) rfl (Nat.le_of_ble_eq_true rfl) rfl rfl (Nat.le_of_ble_eq_true rfl) (wp_up (mt_below (v := v8) (n := 7) (by omega)) (by decide)) ?_
    rintro u9 M11 ⟨⟨b10, hb10, huu9⟩, hMM11⟩
    rw [huu9, hMM11]
    have h467 : ∀ M' : ni_H, lz_5 n nl nf la (700 + 6 * i + 6) (47000 + 86 * i + 86) (200 + 2 * (i : Int) + 2) (i + 1) (3000 * (i : Int) + 544) (6 * (i : Int)) M' → wp_G xs 31 156 467 [.ref ni_big, .ref 0, ni_z ((n : Int)), .ref la, ni_z ((nf : Int)), ni_z ((i : Int)), ni_z (v4), ni_z (b6), w8, w9, w10, w11, w12, w13, w14] [] M' lz_Q := fun M' hS' => lw_467 hS' (by omega) (by omega) (by omega) hnf hv4 (by omega) (fun M9 w6 w7 w8 w9 w10 w11 w12 w13 w14 hS9 => ih (i + 1) (by omega) M9 w6 w7 w8 w9 w10 w11 w12 w13 w14 (lz_5M hS9 (by omega) (by omega) (by omega) (by omega) (by omega) (by omega)))
    have hm0 := (lz_5m hS).1
    have hsw : b10 = 0 ∨ b10 = 1 ∨ b10 = 2 ∨ b10 = 3 ∨ b10 = 4 ∨ b10 = 5 ∨ b10 = 6 := by omega
    rcases hsw with hsw | hsw | hsw | hsw | hsw | hsw | hsw
    · refine wp_Sw (q := 292) rfl (by rw [hsw]; rfl) ?_
      refine wp_Ld rfl rfl rfl ?_
      refine wp_Ld rfl rfl rfl ?_
      refine wp_P (g := ni_gPush (.int (0)) 296) rfl (wp_push (z := 0) rfl) ?_
      refine wp_V (r := []) (as := [ni_z (b6), ni_z (0)]) rfl rfl rfl hm0 (Nat.le_of_ble_eq_true rfl) (wp_up (lm_cut hS (by omega) (by omega) (by omega)) (by decide)) ?_
      rintro uk112 Mk112 ⟨⟨yk112, huk112⟩, hS'⟩
      rw [huk112]
      refine wp_P (g := ni_gPop 300) rfl rfl ?_
      refine wp_P (g := ni_gGo 467) rfl rfl ?_
      exact h467 _ hS'
    · refine wp_Sw (q := 303) rfl (by rw [hsw]; rfl) ?_
      refine wp_Ld rfl rfl rfl ?_
      refine wp_Ld rfl rfl rfl ?_
      refine wp_P (g := ni_gPush (.int (1)) 307) rfl (wp_push (z := 1) rfl) ?_
      refine wp_V (r := []) (as := [ni_z (b6), ni_z (1)]) rfl rfl rfl hm0 (Nat.le_of_ble_eq_true rfl) (wp_up (lm_raise hS (by omega) (by omega) (by omega)) (by decide)) ?_
      rintro uk212 Mk212 ⟨⟨yk212, huk212⟩, hS'⟩
      rw [huk212]
      refine wp_P (g := ni_gPop 311) rfl rfl ?_
      refine wp_P (g := ni_gGo 467) rfl rfl ?_
      exact h467 _ hS'
    · refine wp_Sw (q := 303) rfl (by rw [hsw]; rfl) ?_
      refine wp_Ld rfl rfl rfl ?_
      refine wp_Ld rfl rfl rfl ?_
      refine wp_P (g := ni_gPush (.int (1)) 307) rfl (wp_push (z := 1) rfl) ?_
      refine wp_V (r := []) (as := [ni_z (b6), ni_z (1)]) rfl rfl rfl hm0 (Nat.le_of_ble_eq_true rfl) (wp_up (lm_raise hS (by omega) (by omega) (by omega)) (by decide)) ?_
      rintro uk312 Mk312 ⟨⟨yk312, huk312⟩, hS'⟩
      rw [huk312]
      refine wp_P (g := ni_gPop 311) rfl rfl ?_
      refine wp_P (g := ni_gGo 467) rfl rfl ?_
      exact h467 _ hS'
    · refine wp_Sw (q := 314) rfl (by rw [hsw]; rfl) ?_
      refine wp_Ld rfl rfl rfl ?_
      refine wp_Ld rfl rfl rfl ?_
      refine wp_P (g := ni_gPush (.int (1)) 318) rfl (wp_push (z := 1) rfl) ?_
      refine wp_Ld rfl rfl rfl ?_
      refine wp_P (g := ni_gPush (.int (5)) 321) rfl (wp_push (z := 5) rfl) ?_
      refine lz_shr (n := 5) (x := v4) rfl (by omega) hv4 (fun v412 hv412 => ?_)
      refine wp_P (g := ni_gPush (.int (9)) 324) rfl (wp_push (z := 9) rfl) ?_
      refine wp_S (r := [ni_z (1), ni_z (b6), .ref 0]) (as := [ni_z (v412), ni_z (9)]) rfl (Nat.le_of_ble_eq_true rfl) rfl rfl (Nat.le_of_ble_eq_true rfl) (wp_up (mt_below (v := v412) (n := 9) (by omega)) (by decide)) ?_
      rintro u413 M415 ⟨⟨b414, hb414, huu413⟩, hMM415⟩
      rw [huu413, hMM415]
      refine wp_P rfl wp_add ?_
      refine wp_V (r := []) (as := [ni_z (b6), ni_z (1 + b414)]) rfl rfl rfl hm0 (Nat.le_of_ble_eq_true rfl) (wp_up (lm_cost hS (by omega) (by omega) (by omega) (by omega)) (by decide)) ?_
      rintro uk416 Mk416 ⟨⟨yk416, huk416⟩, hS'⟩
      rw [huk416]
      refine wp_P (g := ni_gPop 332) rfl rfl ?_
      refine wp_P (g := ni_gGo 467) rfl rfl ?_
      exact h467 _ hS'
    · refine wp_Sw (q := 335) rfl (by rw [hsw]; rfl) ?_
      refine wp_Ld rfl rfl rfl ?_
      refine wp_Ld rfl rfl rfl ?_
      refine wp_Ld rfl rfl rfl ?_
      refine wp_P (g := ni_gPush (.int (2)) 341) rfl (wp_push (z := 2) rfl) ?_
      refine wp_S (r := [ni_z (b6), .ref 0]) (as := [ni_z (v4), ni_z (2)]) rfl (Nat.le_of_ble_eq_true rfl) rfl rfl (Nat.le_of_ble_eq_true rfl) (wp_up (mt_below (v := v4) (n := 2) (by omega)) (by decide)) ?_
      rintro u512 M514 ⟨⟨b513, hb513, huu512⟩, hMM514⟩
      rw [huu512, hMM514]
      by_cases g344 : ¬ b513 = 0
      · refine wp_If true rfl (zf_ne_t ⟨by omega, by omega⟩ g344) ?_
        refine wp_P (g := ni_gPush (.int (0)) 352) rfl (wp_push (z := 0) rfl) ?_
        refine wp_Ld rfl rfl rfl ?_
        refine wp_P (g := ni_gPush (.int (4)) 355) rfl (wp_push (z := 4) rfl) ?_
        refine lz_shr (n := 4) (x := v4) rfl (by omega) hv4 (fun v515 hv515 => ?_)
        refine wp_P (g := ni_gPush (.int (3)) 357) rfl (wp_push (z := 3) rfl) ?_
        refine wp_S (r := [ni_z (0), ni_z (b6), .ref 0]) (as := [ni_z (v515), ni_z (3)]) rfl (Nat.le_of_ble_eq_true rfl) rfl rfl (Nat.le_of_ble_eq_true rfl) (wp_up (mt_below (v := v515) (n := 3) (by omega)) (by decide)) ?_
        rintro u516 M518 ⟨⟨b517, hb517, huu516⟩, hMM518⟩
        rw [huu516, hMM518]
        refine wp_P (g := ni_gPush (.int (200)) 363) rfl (wp_push (z := 200) rfl) ?_
        refine wp_Ld rfl rfl rfl ?_
        refine wp_P (g := ni_gPush (.int (5)) 366) rfl (wp_push (z := 5) rfl) ?_
        refine lz_shr (n := 5) (x := v4) rfl (by omega) hv4 (fun v519 hv519 => ?_)
        refine wp_P (g := ni_gPush (.int (900)) 370) rfl (wp_push (z := 900) rfl) ?_
        refine wp_S (r := [ni_z (200), ni_z (b517), ni_z (0), ni_z (b6), .ref 0]) (as := [ni_z (v519), ni_z (900)]) rfl (Nat.le_of_ble_eq_true rfl) rfl rfl (Nat.le_of_ble_eq_true rfl) (wp_up (mt_below (v := v519) (n := 900) (by omega)) (by decide)) ?_
        rintro u520 M522 ⟨⟨b521, hb521, huu520⟩, hMM522⟩
        rw [huu520, hMM522]
        refine wp_P rfl wp_add ?_
        refine wp_Ld rfl rfl rfl ?_
        refine wp_P (g := ni_gPush (.int (6)) 378) rfl (wp_push (z := 6) rfl) ?_
        refine lz_shr (n := 6) (x := v4) rfl (by omega) hv4 (fun v523 hv523 => ?_)
        refine wp_P (g := ni_gPush (.int (2)) 380) rfl (wp_push (z := 2) rfl) ?_
        refine wp_S (r := [ni_z (200 + b521), ni_z (b517), ni_z (0), ni_z (b6), .ref 0]) (as := [ni_z (v523), ni_z (2)]) rfl (Nat.le_of_ble_eq_true rfl) rfl rfl (Nat.le_of_ble_eq_true rfl) (wp_up (mt_below (v := v523) (n := 2) (by omega)) (by decide)) ?_
        rintro u524 M526 ⟨⟨b525, hb525, huu524⟩, hMM526⟩
        rw [huu524, hMM526]
        by_cases g383 : ¬ b525 = 0
        · refine wp_If true rfl (zf_ne_t ⟨by omega, by omega⟩ g383) ?_
          refine wp_P (g := ni_gPush (.int (0)) 391) rfl (wp_push (z := 0) rfl) ?_
          refine wp_V (r := []) (as := [ni_z (b6), ni_z (0), ni_z (b517), ni_z (200 + b521), ni_z (0)]) rfl rfl rfl hm0 (Nat.le_of_ble_eq_true rfl) (wp_up (lm_port hS (by omega) (by omega) (by omega) (by omega) (by omega) (by omega)) (by decide)) ?_
          rintro uk527 Mk527 ⟨⟨yk527, huk527⟩, hS'⟩
          rw [huk527]
          refine wp_P (g := ni_gPop 395) rfl rfl ?_
          refine wp_P (g := ni_gGo 467) rfl rfl ?_
          exact h467 _ hS'
        · refine wp_If false rfl (zf_ne_f ⟨by omega, by omega⟩ g383) ?_
          refine wp_P (g := ni_gPush (.int (1)) 387) rfl (wp_push (z := 1) rfl) ?_
          refine wp_P (g := ni_gGo 391) rfl rfl ?_
          refine wp_V (r := []) (as := [ni_z (b6), ni_z (0), ni_z (b517), ni_z (200 + b521), ni_z (1)]) rfl rfl rfl hm0 (Nat.le_of_ble_eq_true rfl) (wp_up (lm_port hS (by omega) (by omega) (by omega) (by omega) (by omega) (by omega)) (by decide)) ?_
          rintro uk528 Mk528 ⟨⟨yk528, huk528⟩, hS'⟩
          rw [huk528]
          refine wp_P (g := ni_gPop 395) rfl rfl ?_
          refine wp_P (g := ni_gGo 467) rfl rfl ?_
          exact h467 _ hS'
      · refine wp_If false rfl (zf_ne_f ⟨by omega, by omega⟩ g344) ?_
        refine wp_P (g := ni_gPush (.int (1)) 348) rfl (wp_push (z := 1) rfl) ?_
        refine wp_P (g := ni_gGo 352) rfl rfl ?_
        refine wp_Ld rfl rfl rfl ?_
        refine wp_P (g := ni_gPush (.int (4)) 355) rfl (wp_push (z := 4) rfl) ?_
        refine lz_shr (n := 4) (x := v4) rfl (by omega) hv4 (fun v529 hv529 => ?_)
        refine wp_P (g := ni_gPush (.int (3)) 357) rfl (wp_push (z := 3) rfl) ?_
        refine wp_S (r := [ni_z (1), ni_z (b6), .ref 0]) (as := [ni_z (v529), ni_z (3)]) rfl (Nat.le_of_ble_eq_true rfl) rfl rfl (Nat.le_of_ble_eq_true rfl) (wp_up (mt_below (v := v529) (n := 3) (by omega)) (by decide)) ?_
        rintro u530 M532 ⟨⟨b531, hb531, huu530⟩, hMM532⟩
        rw [huu530, hMM532]
        refine wp_P (g := ni_gPush (.int (200)) 363) rfl (wp_push (z := 200) rfl) ?_
        refine wp_Ld rfl rfl rfl ?_
        refine wp_P (g := ni_gPush (.int (5)) 366) rfl (wp_push (z := 5) rfl) ?_
        refine lz_shr (n := 5) (x := v4) rfl (by omega) hv4 (fun v533 hv533 => ?_)
        refine wp_P (g := ni_gPush (.int (900)) 370) rfl (wp_push (z := 900) rfl) ?_
        refine wp_S (r := [ni_z (200), ni_z (b531), ni_z (1), ni_z (b6), .ref 0]) (as := [ni_z (v533), ni_z (900)]) rfl (Nat.le_of_ble_eq_true rfl) rfl rfl (Nat.le_of_ble_eq_true rfl) (wp_up (mt_below (v := v533) (n := 900) (by omega)) (by decide)) ?_
        rintro u534 M536 ⟨⟨b535, hb535, huu534⟩, hMM536⟩
        rw [huu534, hMM536]
        refine wp_P rfl wp_add ?_
        refine wp_Ld rfl rfl rfl ?_
        refine wp_P (g := ni_gPush (.int (6)) 378) rfl (wp_push (z := 6) rfl) ?_
        refine lz_shr (n := 6) (x := v4) rfl (by omega) hv4 (fun v537 hv537 => ?_)
        refine wp_P (g := ni_gPush (.int (2)) 380) rfl (wp_push (z := 2) rfl) ?_
        refine wp_S (r := [ni_z (200 + b535), ni_z (b531), ni_z (1), ni_z (b6), .ref 0]) (as := [ni_z (v537), ni_z (2)]) rfl (Nat.le_of_ble_eq_true rfl) rfl rfl (Nat.le_of_ble_eq_true rfl) (wp_up (mt_below (v := v537) (n := 2) (by omega)) (by decide)) ?_
        rintro u538 M540 ⟨⟨b539, hb539, huu538⟩, hMM540⟩
        rw [huu538, hMM540]
        by_cases g383 : ¬ b539 = 0
        · refine wp_If true rfl (zf_ne_t ⟨by omega, by omega⟩ g383) ?_
          refine wp_P (g := ni_gPush (.int (0)) 391) rfl (wp_push (z := 0) rfl) ?_
          refine wp_V (r := []) (as := [ni_z (b6), ni_z (1), ni_z (b531), ni_z (200 + b535), ni_z (0)]) rfl rfl rfl hm0 (Nat.le_of_ble_eq_true rfl) (wp_up (lm_port hS (by omega) (by omega) (by omega) (by omega) (by omega) (by omega)) (by decide)) ?_
          rintro uk541 Mk541 ⟨⟨yk541, huk541⟩, hS'⟩
          rw [huk541]
          refine wp_P (g := ni_gPop 395) rfl rfl ?_
          refine wp_P (g := ni_gGo 467) rfl rfl ?_
          exact h467 _ hS'
        · refine wp_If false rfl (zf_ne_f ⟨by omega, by omega⟩ g383) ?_
          refine wp_P (g := ni_gPush (.int (1)) 387) rfl (wp_push (z := 1) rfl) ?_
          refine wp_P (g := ni_gGo 391) rfl rfl ?_
          refine wp_V (r := []) (as := [ni_z (b6), ni_z (1), ni_z (b531), ni_z (200 + b535), ni_z (1)]) rfl rfl rfl hm0 (Nat.le_of_ble_eq_true rfl) (wp_up (lm_port hS (by omega) (by omega) (by omega) (by omega) (by omega) (by omega)) (by decide)) ?_
          rintro uk542 Mk542 ⟨⟨yk542, huk542⟩, hS'⟩
          rw [huk542]
          refine wp_P (g := ni_gPop 395) rfl rfl ?_
          refine wp_P (g := ni_gGo 467) rfl rfl ?_
          exact h467 _ hS'
    · refine wp_Sw (q := 398) rfl (by rw [hsw]; rfl) ?_
      refine wp_Ld rfl rfl rfl ?_
      refine wp_Ld rfl rfl rfl ?_
      refine wp_Ld rfl rfl rfl ?_
      obtain ⟨vs2, ws2, x2, r2, k1, k2, k3, k4, k5⟩ := lm_row hS (l := b6) (by omega)
      refine wp_QlA (b := x2) rfl k1 (by omega) k2 ?_
      refine wp_P (g := ni_gPush (.int (0)) 404) rfl (wp_push (z := 0) rfl) ?_
      have hzj := ni_clZ (x := 0) (by omega)
      refine wp_Ald (v := ni_z r2) rfl k3 ⟨by decide, rfl, hzj.1⟩ (by rw [hzj.2]; exact k4) rfl ?_
      refine wp_Ld rfl rfl rfl ?_
      refine wp_P (g := ni_gPush (.int (5)) 408) rfl (wp_push (z := 5) rfl) ?_
      refine lz_shr (n := 5) (x := v4) rfl (by omega) hv4 (fun v612 hv612 => ?_)
      refine wp_Ld rfl rfl rfl ?_
      refine wp_S (r := [ni_z (r2), .ref 0]) (as := [ni_z (v612), ni_z ((nf : Int))]) rfl (Nat.le_of_ble_eq_true rfl) rfl rfl (Nat.le_of_ble_eq_true rfl) (wp_up (mt_below (v := v612) (n := (nf : Int)) (by omega)) (by decide)) ?_
      rintro u613 M615 ⟨⟨b614, hb614, huu613⟩, hMM615⟩
      rw [huu613, hMM615]
      refine wp_P (g := ni_gPush (.int (12)) 416) rfl (wp_push (z := 12) rfl) ?_
      refine wp_P rfl (wp_I (c := b614 * 4096) (zb_shl (n := 12) (by decide))) ?_
      refine wp_P (g := ni_gPush (.int (4)) 418) rfl (wp_push (z := 4) rfl) ?_
      refine wp_Ld rfl rfl rfl ?_
      refine wp_V (r := []) (as := [ni_z (r2), ni_z (b614 * 4096), ni_z (4), ni_z (b6)]) rfl rfl rfl hm0 (Nat.le_of_ble_eq_true rfl) (wp_up (k5 _ (by omega) (by omega) (by omega) (by omega)) (by decide)) ?_
      rintro uk616 Mk616 ⟨⟨yk616, huk616⟩, hS'⟩
      rw [huk616]
      refine wp_P (g := ni_gPop 424) rfl rfl ?_
      refine wp_P (g := ni_gGo 467) rfl rfl ?_
      exact h467 _ hS'
    · refine wp_Sw (q := 427) rfl (by rw [hsw]; rfl) ?_
      refine wp_Ld rfl rfl rfl ?_
      refine wp_Ld rfl rfl rfl ?_
      refine wp_Ld rfl rfl rfl ?_
      refine wp_P (g := ni_gPush (.int (2)) 433) rfl (wp_push (z := 2) rfl) ?_
      refine wp_S (r := [ni_z (b6), .ref 0]) (as := [ni_z (v4), ni_z (2)]) rfl (Nat.le_of_ble_eq_true rfl) rfl rfl (Nat.le_of_ble_eq_true rfl) (wp_up (mt_below (v := v4) (n := 2) (by omega)) (by decide)) ?_
      rintro u712 M714 ⟨⟨b713, hb713, huu712⟩, hMM714⟩
      rw [huu712, hMM714]
      by_cases g436 : ¬ b713 = 0
      · refine wp_If true rfl (zf_ne_t ⟨by omega, by omega⟩ g436) ?_
        refine wp_P (g := ni_gPush (.int (0)) 444) rfl (wp_push (z := 0) rfl) ?_
        refine wp_Ld rfl rfl rfl ?_
        refine wp_P (g := ni_gPush (.int (4)) 447) rfl (wp_push (z := 4) rfl) ?_
        refine lz_shr (n := 4) (x := v4) rfl (by omega) hv4 (fun v715 hv715 => ?_)
        refine wp_P (g := ni_gPush (.int (4)) 449) rfl (wp_push (z := 4) rfl) ?_
        refine wp_S (r := [ni_z (0), ni_z (b6), .ref 0]) (as := [ni_z (v715), ni_z (4)]) rfl (Nat.le_of_ble_eq_true rfl) rfl rfl (Nat.le_of_ble_eq_true rfl) (wp_up (mt_below (v := v715) (n := 4) (by omega)) (by decide)) ?_
        rintro u716 M718 ⟨⟨b717, hb717, huu716⟩, hMM718⟩
        rw [huu716, hMM718]
        refine wp_P (g := ni_gPush (.int (1)) 453) rfl (wp_push (z := 1) rfl) ?_
        refine wp_Ld rfl rfl rfl ?_
        refine wp_P (g := ni_gPush (.int (6)) 457) rfl (wp_push (z := 6) rfl) ?_
        refine lz_shr (n := 6) (x := v4) rfl (by omega) hv4 (fun v719 hv719 => ?_)
        refine wp_P (g := ni_gPush (.int (4)) 459) rfl (wp_push (z := 4) rfl) ?_
        refine wp_S (r := [ni_z (1), ni_z (b717), ni_z (0), ni_z (b6), .ref 0]) (as := [ni_z (v719), ni_z (4)]) rfl (Nat.le_of_ble_eq_true rfl) rfl rfl (Nat.le_of_ble_eq_true rfl) (wp_up (mt_below (v := v719) (n := 4) (by omega)) (by decide)) ?_
        rintro u720 M722 ⟨⟨b721, hb721, huu720⟩, hMM722⟩
        rw [huu720, hMM722]
        refine wp_P rfl wp_add ?_
        refine wp_V (r := []) (as := [ni_z (b6), ni_z (0), ni_z (b717), ni_z (1 + b721)]) rfl rfl rfl hm0 (Nat.le_of_ble_eq_true rfl) (wp_up (lm_weight hS (by omega) (by omega) (by omega) (by omega) (by omega)) (by decide)) ?_
        rintro uk723 Mk723 ⟨⟨yk723, huk723⟩, hS'⟩
        rw [huk723]
        refine wp_P (g := ni_gPop 467) rfl rfl ?_
        exact h467 _ hS'
      · refine wp_If false rfl (zf_ne_f ⟨by omega, by omega⟩ g436) ?_
        refine wp_P (g := ni_gPush (.int (1)) 440) rfl (wp_push (z := 1) rfl) ?_
        refine wp_P (g := ni_gGo 444) rfl rfl ?_
        refine wp_Ld rfl rfl rfl ?_
        refine wp_P (g := ni_gPush (.int (4)) 447) rfl (wp_push (z := 4) rfl) ?_
        refine lz_shr (n := 4) (x := v4) rfl (by omega) hv4 (fun v724 hv724 => ?_)
        refine wp_P (g := ni_gPush (.int (4)) 449) rfl (wp_push (z := 4) rfl) ?_
        refine wp_S (r := [ni_z (1), ni_z (b6), .ref 0]) (as := [ni_z (v724), ni_z (4)]) rfl (Nat.le_of_ble_eq_true rfl) rfl rfl (Nat.le_of_ble_eq_true rfl) (wp_up (mt_below (v := v724) (n := 4) (by omega)) (by decide)) ?_
        rintro u725 M727 ⟨⟨b726, hb726, huu725⟩, hMM727⟩
        rw [huu725, hMM727]
        refine wp_P (g := ni_gPush (.int (1)) 453) rfl (wp_push (z := 1) rfl) ?_
        refine wp_Ld rfl rfl rfl ?_
        refine wp_P (g := ni_gPush (.int (6)) 457) rfl (wp_push (z := 6) rfl) ?_
        refine lz_shr (n := 6) (x := v4) rfl (by omega) hv4 (fun v728 hv728 => ?_)
        refine wp_P (g := ni_gPush (.int (4)) 459) rfl (wp_push (z := 4) rfl) ?_
        refine wp_S (r := [ni_z (1), ni_z (b726), ni_z (1), ni_z (b6), .ref 0]) (as := [ni_z (v728), ni_z (4)]) rfl (Nat.le_of_ble_eq_true rfl) rfl rfl (Nat.le_of_ble_eq_true rfl) (wp_up (mt_below (v := v728) (n := 4) (by omega)) (by decide)) ?_
        rintro u729 M731 ⟨⟨b730, hb730, huu729⟩, hMM731⟩
        rw [huu729, hMM731]
        refine wp_P rfl wp_add ?_
        refine wp_V (r := []) (as := [ni_z (b6), ni_z (1), ni_z (b726), ni_z (1 + b730)]) rfl rfl rfl hm0 (Nat.le_of_ble_eq_true rfl) (wp_up (lm_weight hS (by omega) (by omega) (by omega) (by omega) (by omega)) (by decide)) ?_
        rintro uk732 Mk732 ⟨⟨yk732, huk732⟩, hS'⟩
        rw [huk732]
        refine wp_P (g := ni_gPop 467) rfl rfl ?_
        exact h467 _ hS'
set_option maxRecDepth 40000 in
theorem lz_3m {n nl la c z nn f : Nat} {w : Int} {vs : List Value} {A : Nat → Nat → Int} (h : lz_3 n nl la c z w vs nn f A M) : M.1[0]? = some (9, [.ref 1, .ref 375]) := by
  obtain ⟨St, own, hS, _⟩ := h
  exact (lz_m hS.1).2
set_option maxRecDepth 40000 in
theorem lz_3M {n nl la c z c' z' nn f : Nat} {w w' : Int} {vs : List Value} {A : Nat → Nat → Int} (h : lz_3 n nl la c z w vs nn f A M) (hc : c ≤ c') (hz : z ≤ z') (hw : w ≤ w') : lz_3 n nl la c' z' w' vs nn f A M := by
  obtain ⟨St, own, hS, h2⟩ := h
  exact ⟨St, own, lz_4M hS hc hz hw, h2⟩
set_option maxRecDepth 40000 in
theorem lw_45 {n nl nf la : Nat} {vs : List Value} (hxs : xs.length ≤ 100000) (hn : 2 ≤ n ∧ n ≤ 6) (hnl : 1 ≤ nl ∧ nl ≤ 14) (hnf : 1 ≤ nf ∧ nf ≤ 4) : ∀ k i : Nat, i + k = nf → ∀ (M : ni_H) (A : Nat → Nat → Int) (w6 : Value), lz_3 n nl la (600 + 3 * i) (46000 + 43 * i) (100 + (i : Int)) vs i i A M → wp_G xs 31 156 45 [.ref ni_big, .ref 0, ni_z ((n : Int)), .ref la, ni_z ((nf : Int)), ni_z ((i : Int)), w6, ni_J, ni_J, ni_J, ni_J, ni_J, ni_J, ni_J, ni_J] [] M lz_Q := by
  intro k
  induction k with
  | zero =>
    intro i hi M A w6 hS
    refine wp_Ld rfl rfl rfl ?_
    refine wp_Ld rfl rfl rfl ?_
    refine wp_Ic true rfl (zc_ge_t ⟨by omega, by omega⟩ ⟨by omega, by omega⟩ (by omega)) ?_
    refine wp_P (g := ni_gPush (.int (0)) 215) rfl (wp_push (z := 0) rfl) ?_
    refine wp_St (ls' := [.ref ni_big, .ref 0, ni_z ((n : Int)), .ref la, ni_z ((nf : Int)), ni_z (0), w6, ni_J, ni_J, ni_J, ni_J, ni_J, ni_J, ni_J, ni_J]) rfl rfl rfl ?_
    have hin : i = nf := by omega
    subst hin
    exact lw_217 hxs hn hnl (by omega) hnf.2 12 0 (by omega) M _ _ _ _ _ _ _ _ _ (lz_5M (lz_35 hn.1 hnf.2 hS) (by omega) (by omega) (by omega) (by omega) (by omega) (by omega))
  | succ k ih =>
    intro i hi M A w6 hS
    refine wp_Ld rfl rfl rfl ?_
    refine wp_Ld rfl rfl rfl ?_
    refine wp_Ic false rfl (zc_ge_f ⟨by omega, by omega⟩ ⟨by omega, by omega⟩ (by omega)) ?_
    refine wp_Ld rfl rfl rfl ?_
    refine wp_P (g := ni_gPush (.int (10)) 55) rfl (wp_push (z := 10) rfl) ?_
    refine wp_Ld rfl rfl rfl ?_
    refine wp_P rfl wp_add ?_
    rw [show (10 : Int) + (i : Int) = ((10 + i : Nat) : Int) by omega]
    refine wp_S (r := []) (as := [.ref ni_big, ni_z ((10 + i : Nat) : Int)]) rfl (Nat.le_of_ble_eq_true rfl) rfl rfl (Nat.le_of_ble_eq_true rfl) (wp_up (mt_cell (k := 10 + i) (by omega) hxs) (by decide)) ?_
    rintro u1 M3 ⟨⟨v2, hv2, huu1⟩, hMM3⟩
    rw [huu1, hMM3]
    refine wp_St (ls' := [.ref ni_big, .ref 0, ni_z ((n : Int)), .ref la, ni_z ((nf : Int)), ni_z ((i : Int)), ni_z (v2), ni_J, ni_J, ni_J, ni_J, ni_J, ni_J, ni_J, ni_J]) rfl rfl rfl ?_
    refine wp_Ld rfl rfl rfl ?_
    refine wp_Ld rfl rfl rfl ?_
    refine wp_Ld rfl rfl rfl ?_
    refine wp_S (r := [.ref 0]) (as := [ni_z (v2), ni_z ((n : Int))]) rfl (Nat.le_of_ble_eq_true rfl) rfl rfl (Nat.le_of_ble_eq_true rfl) (wp_up (mt_below (v := v2) (n := (n : Int)) (by omega)) (by decide)) ?_
    rintro u4 M6 ⟨⟨b5, hb5, huu4⟩, hMM6⟩
    rw [huu4, hMM6]
    refine wp_Ld rfl rfl rfl ?_
    refine wp_P (g := ni_gPush (.int (12)) 74) rfl (wp_push (z := 12) rfl) ?_
    refine wp_P rfl (wp_I (c := ((i : Int)) * 4096) (zb_shl (n := 12) (by decide))) ?_
    refine wp_P (g := ni_gPush (.int (4)) 76) rfl (wp_push (z := 4) rfl) ?_
    refine wp_Ld rfl rfl rfl ?_
    refine wp_P (g := ni_gPush (.int (3)) 79) rfl (wp_push (z := 3) rfl) ?_
    refine lz_shr (n := 3) (x := v2) rfl (by omega) hv2 (fun v7 hv7 => ?_)
    refine wp_P (g := ni_gPush (.int (5)) 81) rfl (wp_push (z := 5) rfl) ?_
    refine wp_S (r := [ni_z (4), ni_z (((i : Int)) * 4096), ni_z (b5), .ref 0]) (as := [ni_z (v7), ni_z (5)]) rfl (Nat.le_of_ble_eq_true rfl) rfl rfl (Nat.le_of_ble_eq_true rfl) (wp_up (mt_below (v := v7) (n := 5) (by omega)) (by decide)) ?_
    rintro u8 M10 ⟨⟨b9, hb9, huu8⟩, hMM10⟩
    rw [huu8, hMM10]
    refine wp_P rfl wp_add ?_
    refine wp_V (r := []) (as := [ni_z (b5), ni_z (((i : Int)) * 4096), ni_z (4 + b9)]) rfl rfl rfl (lz_3m hS) (Nat.le_of_ble_eq_true rfl) (wp_up (lz_3n hS (by omega) (by omega) (by omega) (by omega) (by omega) (by omega)) (by decide)) ?_
    rintro uk11 Mk11 ⟨⟨yk11, huk11⟩, A1, hS⟩
    rw [huk11]
    refine wp_P (g := ni_gPop 89) rfl rfl ?_
    refine wp_Ld rfl rfl rfl ?_
    refine wp_Ld rfl rfl rfl ?_
    refine wp_P (g := ni_gPush (.int (5)) 93) rfl (wp_push (z := 5) rfl) ?_
    refine lz_shr (n := 5) (x := v2) rfl (by omega) hv2 (fun v12 hv12 => ?_)
    refine wp_Ld rfl rfl rfl ?_
    refine wp_S (r := [.ref 0]) (as := [ni_z (v12), ni_z ((n : Int))]) rfl (Nat.le_of_ble_eq_true rfl) rfl rfl (Nat.le_of_ble_eq_true rfl) (wp_up (mt_below (v := v12) (n := (n : Int)) (by omega)) (by decide)) ?_
    rintro u13 M15 ⟨⟨b14, hb14, huu13⟩, hMM15⟩
    rw [huu13, hMM15]
    refine wp_Ld rfl rfl rfl ?_
    refine wp_P (g := ni_gPush (.int (12)) 102) rfl (wp_push (z := 12) rfl) ?_
    refine wp_P rfl (wp_I (c := ((i : Int)) * 4096) (zb_shl (n := 12) (by decide))) ?_
    refine wp_Ld rfl rfl rfl ?_
    refine wp_P (g := ni_gPush (.int (2)) 106) rfl (wp_push (z := 2) rfl) ?_
    refine lz_shr (n := 2) (x := v2) rfl (by omega) hv2 (fun v16 hv16 => ?_)
    refine wp_P (g := ni_gPush (.int (500)) 110) rfl (wp_push (z := 500) rfl) ?_
    refine wp_S (r := [ni_z (((i : Int)) * 4096), ni_z (b14), .ref 0]) (as := [ni_z (v16), ni_z (500)]) rfl (Nat.le_of_ble_eq_true rfl) rfl rfl (Nat.le_of_ble_eq_true rfl) (wp_up (mt_below (v := v16) (n := 500) (by omega)) (by decide)) ?_
    rintro u17 M19 ⟨⟨b18, hb18, huu17⟩, hMM19⟩
    rw [huu17, hMM19]
    refine wp_P rfl wp_add ?_
    refine wp_P (g := ni_gPush (.int (20)) 116) rfl (wp_push (z := 20) rfl) ?_
    refine wp_Ld rfl rfl rfl ?_
    refine wp_P (g := ni_gPush (.int (4)) 119) rfl (wp_push (z := 4) rfl) ?_
    refine lz_shr (n := 4) (x := v2) rfl (by omega) hv2 (fun v20 hv20 => ?_)
    refine wp_P (g := ni_gPush (.int (200)) 123) rfl (wp_push (z := 200) rfl) ?_
    refine wp_S (r := [ni_z (20), ni_z ((((i : Int)) * 4096) + b18), ni_z (b14), .ref 0]) (as := [ni_z (v20), ni_z (200)]) rfl (Nat.le_of_ble_eq_true rfl) rfl rfl (Nat.le_of_ble_eq_true rfl) (wp_up (mt_below (v := v20) (n := 200) (by omega)) (by decide)) ?_
    rintro u21 M23 ⟨⟨b22, hb22, huu21⟩, hMM23⟩
    rw [huu21, hMM23]
    refine wp_P rfl wp_add ?_
    refine wp_Ld rfl rfl rfl ?_
    refine wp_P (g := ni_gPush (.int (4)) 130) rfl (wp_push (z := 4) rfl) ?_
    refine wp_S (r := [ni_z (20 + b22), ni_z ((((i : Int)) * 4096) + b18), ni_z (b14), .ref 0]) (as := [ni_z (v2), ni_z (4)]) rfl (Nat.le_of_ble_eq_true rfl) rfl rfl (Nat.le_of_ble_eq_true rfl) (wp_up (mt_below (v := v2) (n := 4) (by omega)) (by decide)) ?_
    rintro u24 M26 ⟨⟨b25, hb25, huu24⟩, hMM26⟩
    rw [huu24, hMM26]
    refine wp_V (r := []) (as := [ni_z (b14), ni_z ((((i : Int)) * 4096) + b18), ni_z (20 + b22), ni_z (b25)]) rfl rfl rfl (lz_3m hS) (Nat.le_of_ble_eq_true rfl) (wp_up (lz_3f hS (by omega) (by omega) (by omega) (by omega) (by omega) (by omega) (by omega)) (by decide)) ?_
    rintro uk27 Mk27 ⟨⟨yk27, huk27⟩, A2, hS, hs4, hs2⟩
    rw [huk27]
    refine wp_P (g := ni_gPop 137) rfl rfl ?_
    refine wp_Ld rfl rfl rfl ?_
    refine wp_Ld rfl rfl rfl ?_
    refine wp_Ld rfl rfl rfl ?_
    refine wp_P (g := ni_gPush (.int (3)) 143) rfl (wp_push (z := 3) rfl) ?_
    refine lz_shr (n := 3) (x := v2) rfl (by omega) hv2 (fun v28 hv28 => ?_)
    refine wp_P (g := ni_gPush (.int (20)) 146) rfl (wp_push (z := 20) rfl) ?_
    refine wp_S (r := [ni_z ((i : Int)), .ref 0]) (as := [ni_z (v28), ni_z (20)]) rfl (Nat.le_of_ble_eq_true rfl) rfl rfl (Nat.le_of_ble_eq_true rfl) (wp_up (mt_below (v := v28) (n := 20) (by omega)) (by decide)) ?_
    rintro u29 M31 ⟨⟨b30, hb30, huu29⟩, hMM31⟩
    rw [huu29, hMM31]
    refine wp_P (g := ni_gPush (.int (1)) 150) rfl (wp_push (z := 1) rfl) ?_
    refine wp_Ld rfl rfl rfl ?_
    refine wp_P (g := ni_gPush (.int (6)) 154) rfl (wp_push (z := 6) rfl) ?_
    refine lz_shr (n := 6) (x := v2) rfl (by omega) hv2 (fun v32 hv32 => ?_)
    refine wp_P (g := ni_gPush (.int (3)) 156) rfl (wp_push (z := 3) rfl) ?_
    refine wp_S (r := [ni_z (1), ni_z (b30), ni_z ((i : Int)), .ref 0]) (as := [ni_z (v32), ni_z (3)]) rfl (Nat.le_of_ble_eq_true rfl) rfl rfl (Nat.le_of_ble_eq_true rfl) (wp_up (mt_below (v := v32) (n := 3) (by omega)) (by decide)) ?_
    rintro u33 M35 ⟨⟨b34, hb34, huu33⟩, hMM35⟩
    rw [huu33, hMM35]
    refine wp_P rfl wp_add ?_
    refine wp_P (g := ni_gPush (.int (1)) 161) rfl (wp_push (z := 1) rfl) ?_
    refine wp_Ld rfl rfl rfl ?_
    refine wp_P (g := ni_gPush (.int (2)) 164) rfl (wp_push (z := 2) rfl) ?_
    refine lz_shr (n := 2) (x := v2) rfl (by omega) hv2 (fun v36 hv36 => ?_)
    refine wp_P (g := ni_gPush (.int (30)) 167) rfl (wp_push (z := 30) rfl) ?_
    refine wp_S (r := [ni_z (1), ni_z (1 + b34), ni_z (b30), ni_z ((i : Int)), .ref 0]) (as := [ni_z (v36), ni_z (30)]) rfl (Nat.le_of_ble_eq_true rfl) rfl rfl (Nat.le_of_ble_eq_true rfl) (wp_up (mt_below (v := v36) (n := 30) (by omega)) (by decide)) ?_
    rintro u37 M39 ⟨⟨b38, hb38, huu37⟩, hMM39⟩
    rw [huu37, hMM39]
    refine wp_P rfl wp_add ?_
    refine wp_V (r := []) (as := [ni_z ((i : Int)), ni_z (b30), ni_z (1 + b34), ni_z (1 + b38)]) rfl rfl rfl (lz_3m hS) (Nat.le_of_ble_eq_true rfl) (wp_up (lz_3s hS (by omega) (by omega) hs4 (by omega) (by omega) (by omega)) (by decide)) ?_
    rintro uk40 Mk40 ⟨⟨yk40, huk40⟩, A3, hS, hs3⟩
    rw [huk40]
    refine wp_P (g := ni_gPop 175) rfl rfl ?_
    refine wp_Ld rfl rfl rfl ?_
    refine wp_P (g := ni_gPush (.int (7)) 179) rfl (wp_push (z := 7) rfl) ?_
    refine lz_shr (n := 7) (x := v2) rfl (by omega) hv2 (fun v41 hv41 => ?_)
    refine wp_P (g := ni_gPush (.int (3)) 181) rfl (wp_push (z := 3) rfl) ?_
    refine wp_S (r := []) (as := [ni_z (v41), ni_z (3)]) rfl (Nat.le_of_ble_eq_true rfl) rfl rfl (Nat.le_of_ble_eq_true rfl) (wp_up (mt_below (v := v41) (n := 3) (by omega)) (by decide)) ?_
    rintro u42 M44 ⟨⟨b43, hb43, huu42⟩, hMM44⟩
    rw [huu42, hMM44]
    by_cases g184 : ¬ b43 = 0
    · refine wp_If true rfl (zf_ne_t ⟨by omega, by omega⟩ g184) ?_
      refine wp_Inc (ls' := [.ref ni_big, .ref 0, ni_z ((n : Int)), .ref la, ni_z ((nf : Int)), ni_z ((i : Int) + 1), ni_z (v2), ni_J, ni_J, ni_J, ni_J, ni_J, ni_J, ni_J, ni_J]) (x' := (i : Int) + 1) rfl rfl (zi_inc (z := 1) rfl) rfl ?_
      refine wp_P (g := ni_gGo 45) rfl rfl ?_
      exact ih (i + 1) (by omega) _ _ _ (lz_3M hS (by omega) (by omega) (by omega))
    · refine wp_If false rfl (zf_ne_f ⟨by omega, by omega⟩ g184) ?_
      refine wp_Ld rfl rfl rfl ?_
      refine wp_Ld rfl rfl rfl ?_
      refine wp_P (g := ni_gPush (.int (1)) 191) rfl (wp_push (z := 1) rfl) ?_
      refine wp_Ld rfl rfl rfl ?_
      refine wp_P (g := ni_gPush (.int (4)) 194) rfl (wp_push (z := 4) rfl) ?_
      refine lz_shr (n := 4) (x := v2) rfl (by omega) hv2 (fun v45 hv45 => ?_)
      refine wp_P (g := ni_gPush (.int (90)) 197) rfl (wp_push (z := 90) rfl) ?_
      refine wp_S (r := [ni_z (1), ni_z ((i : Int)), .ref 0]) (as := [ni_z (v45), ni_z (90)]) rfl (Nat.le_of_ble_eq_true rfl) rfl rfl (Nat.le_of_ble_eq_true rfl) (wp_up (mt_below (v := v45) (n := 90) (by omega)) (by decide)) ?_
      rintro u46 M48 ⟨⟨b47, hb47, huu46⟩, hMM48⟩
      rw [huu46, hMM48]
      refine wp_P rfl wp_add ?_
      refine wp_P (g := ni_gPush (.int (300)) 204) rfl (wp_push (z := 300) rfl) ?_
      refine wp_V (r := []) (as := [ni_z ((i : Int)), ni_z (1 + b47), ni_z (300)]) rfl rfl rfl (lz_3m hS) (Nat.le_of_ble_eq_true rfl) (wp_up (lz_3h hS (by omega) (by omega) (by omega) (by omega)) (by decide)) ?_
      rintro uk49 Mk49 ⟨⟨yk49, huk49⟩, A4, hS⟩
      rw [huk49]
      refine wp_P (g := ni_gPop 208) rfl rfl ?_
      refine wp_Inc (ls' := [.ref ni_big, .ref 0, ni_z ((n : Int)), .ref la, ni_z ((nf : Int)), ni_z ((i : Int) + 1), ni_z (v2), ni_J, ni_J, ni_J, ni_J, ni_J, ni_J, ni_J, ni_J]) (x' := (i : Int) + 1) rfl rfl (zi_inc (z := 1) rfl) rfl ?_
      refine wp_P (g := ni_gGo 45) rfl rfl ?_
      exact ih (i + 1) (by omega) _ _ _ (lz_3M hS (by omega) (by omega) (by omega))
set_option maxRecDepth 40000 in
/-- THE LAW HOLDS -/
theorem lz_law (hxs : xs.length ≤ 100000) : wp_G xs 31 156 0 [.ref ni_big, ni_J, ni_J, ni_J, ni_J, ni_J, ni_J, ni_J, ni_J, ni_J, ni_J, ni_J, ni_J, ni_J, ni_J] [] ([], 0) lz_Q := by
  refine wp_New rfl rfl (by decide) ?_
  refine wp_P (g := ni_gDup 4) rfl rfl ?_
  obtain ⟨R0, c1, c2, c3, c4⟩ := ni_cS xs
  refine wp_Ini (a := 0) (r := [.ref 0]) (as := []) (Q1 := fun v M' => v = none ∧ lz_1 0 M') rfl rfl rfl (Nat.le_of_ble_eq_true rfl) (wp_up ⟨_, _, c4, rfl, na_first c1 c2 c3⟩ (by decide)) (fun v M' h => h.1) (fun M hM => ?_)
  have h1 := hM.2
  clear hM c1 c2 c3 c4
  refine wp_St (ls' := [.ref ni_big, .ref 0, ni_J, ni_J, ni_J, ni_J, ni_J, ni_J, ni_J, ni_J, ni_J, ni_J, ni_J, ni_J, ni_J]) rfl rfl rfl ?_
  refine wp_P (g := ni_gPush (.int (2)) 9) rfl (wp_push (z := 2) rfl) ?_
  refine wp_Ld rfl rfl rfl ?_
  refine wp_P (g := ni_gPush (.int (0)) 11) rfl (wp_push (z := 0) rfl) ?_
  refine wp_S (r := [ni_z (2)]) (as := [.ref ni_big, ni_z ((0 : Nat) : Int)]) rfl (Nat.le_of_ble_eq_true rfl) rfl rfl (Nat.le_of_ble_eq_true rfl) (wp_up (mt_cell (k := 0) (by omega) hxs) (by decide)) ?_
  rintro u1 M3 ⟨⟨v2, hv2, huu1⟩, hMM3⟩
  rw [huu1, hMM3]
  refine wp_P (g := ni_gPush (.int (5)) 15) rfl (wp_push (z := 5) rfl) ?_
  refine wp_S (r := [ni_z (2)]) (as := [ni_z (v2), ni_z (5)]) rfl (Nat.le_of_ble_eq_true rfl) rfl rfl (Nat.le_of_ble_eq_true rfl) (wp_up (mt_below (v := v2) (n := 5) (by omega)) (by decide)) ?_
  rintro u4 M6 ⟨⟨b5, hb5, huu4⟩, hMM6⟩
  rw [huu4, hMM6]
  refine wp_P rfl wp_add ?_
  obtain ⟨n, hn⟩ : ∃ n : Nat, (n : Int) = 2 + b5 := ⟨(2 + b5).toNat, by omega⟩
  rw [← hn]
  refine wp_St (ls' := [.ref ni_big, .ref 0, ni_z ((n : Int)), ni_J, ni_J, ni_J, ni_J, ni_J, ni_J, ni_J, ni_J, ni_J, ni_J, ni_J, ni_J]) rfl rfl rfl ?_
  refine wp_Ld rfl rfl rfl ?_
  refine wp_Ld rfl rfl rfl ?_
  refine wp_Ld rfl rfl rfl ?_
  refine wp_S (r := []) (as := [.ref 0, .ref ni_big, ni_z ((n : Int))]) rfl (Nat.le_of_ble_eq_true rfl) rfl rfl (Nat.le_of_ble_eq_true rfl) (mt_build hxs (by omega) (by omega) h1) ?_
  rintro uk7 Mk7 ⟨nl, la, huk7, hnl, h2⟩
  rw [huk7]
  refine wp_St (ls' := [.ref ni_big, .ref 0, ni_z ((n : Int)), .ref la, ni_J, ni_J, ni_J, ni_J, ni_J, ni_J, ni_J, ni_J, ni_J, ni_J, ni_J]) rfl rfl rfl ?_
  refine wp_P (g := ni_gPush (.int (1)) 28) rfl (wp_push (z := 1) rfl) ?_
  refine wp_Ld rfl rfl rfl ?_
  refine wp_P (g := ni_gPush (.int (0)) 30) rfl (wp_push (z := 0) rfl) ?_
  refine wp_S (r := [ni_z (1)]) (as := [.ref ni_big, ni_z ((0 : Nat) : Int)]) rfl (Nat.le_of_ble_eq_true rfl) rfl rfl (Nat.le_of_ble_eq_true rfl) (wp_up (mt_cell (k := 0) (by omega) hxs) (by decide)) ?_
  rintro u8 M10 ⟨⟨v9, hv9, huu8⟩, hMM10⟩
  rw [huu8, hMM10]
  refine wp_P (g := ni_gPush (.int (4)) 34) rfl (wp_push (z := 4) rfl) ?_
  refine lz_shr (n := 4) (x := v9) rfl (by omega) hv9 (fun v11 hv11 => ?_)
  refine wp_P (g := ni_gPush (.int (4)) 36) rfl (wp_push (z := 4) rfl) ?_
  refine wp_S (r := [ni_z (1)]) (as := [ni_z (v11), ni_z (4)]) rfl (Nat.le_of_ble_eq_true rfl) rfl rfl (Nat.le_of_ble_eq_true rfl) (wp_up (mt_below (v := v11) (n := 4) (by omega)) (by decide)) ?_
  rintro u12 M14 ⟨⟨b13, hb13, huu12⟩, hMM14⟩
  rw [huu12, hMM14]
  refine wp_P rfl wp_add ?_
  obtain ⟨nf, hnf⟩ : ∃ nf : Nat, (nf : Int) = 1 + b13 := ⟨(1 + b13).toNat, by omega⟩
  rw [← hnf]
  refine wp_St (ls' := [.ref ni_big, .ref 0, ni_z ((n : Int)), .ref la, ni_z ((nf : Int)), ni_J, ni_J, ni_J, ni_J, ni_J, ni_J, ni_J, ni_J, ni_J, ni_J]) rfl rfl rfl ?_
  refine wp_P (g := ni_gPush (.int (0)) 43) rfl (wp_push (z := 0) rfl) ?_
  refine wp_St (ls' := [.ref ni_big, .ref 0, ni_z ((n : Int)), .ref la, ni_z ((nf : Int)), ni_z (0), ni_J, ni_J, ni_J, ni_J, ni_J, ni_J, ni_J, ni_J, ni_J]) rfl rfl rfl ?_
  obtain ⟨vs, A, h3⟩ := lz_23 h2 hnl.2
  exact lw_45 hxs (by omega) hnl (by omega) nf 0 (by omega) _ A ni_J (lz_3M h3 (by omega) (by omega) (by omega))
end NLX
