/-! A LETTER IS WRITTEN AND TOLD -/
section NXV
variable {xs : List Int32} {St St' : Nat → Option ni_C} {M M' M0 : ni_H} {ad rw cp : Nat → Nat} {A A' : Nat → Nat → Int} {own own' : Nat → Int}
theorem nx_LWs {b : Nat} (hs : ∀ a c, St a = some c → St' a = some c) (h : ni_LW St b) : ni_LW St' b := by
  obtain ⟨o, n, s, ca, na, cs, ns, h1, h2, h3, h4, h5, h6, h7, h8⟩ := h
  exact ⟨o, n, s, ca, na, cs, ns, hs _ _ h1, h2, h3, h4, hs _ _ h5, h6, hs _ _ h7, h8⟩
theorem nx_lnS {b : Nat} (hs : ∀ a c, St a = some c → St' a = some c) (h : ni_LW St b) : ni_lno St' b = ni_lno St b ∧ ni_lof St' b = ni_lof St b := by
  obtain ⟨o, n, s, ca, na, cs, ns, h1, _⟩ := h
  have h2 := hs _ _ h1
  unfold ni_lno ni_lof
  rw [h1, h2]
  exact ⟨rfl, rfl⟩
theorem nx_GLs {b : Nat} (hs : ∀ a c, St a = some c → St' a = some c) (ho : ∀ x, own x ≤ own' x) (h : ni_GL St own b) : ni_GL St' own' b := by
  have e := nx_lnS hs h.1
  refine ⟨nx_LWs hs h.1, ?_⟩
  rw [e.1, e.2]
  exact Int.le_trans h.2 (ho _)
theorem nx_LAs (hs : ∀ a c, St a = some c → St' a = some c) (ho : ∀ x, own x ≤ own' x) (h : ni_LA St own A) : ni_LA St' own' A := fun p hp => ⟨(h p hp).1, fun j hj => ⟨((h p hp).2 j hj).1, nx_GLs hs ho ((h p hp).2 j hj).2.1, ((h p hp).2 j hj).2.2⟩⟩
theorem nx_RKs {s : Nat} (hs : ∀ a c, St a = some c → St' a = some c) (ho : ∀ x, own x ≤ own' x) (h : ni_RK St own A s) : ni_RK St' own' A s := fun o ho' => by
  obtain ⟨a1, a2, a3⟩ := h o ho'
  have e := nx_lnS hs a2.1
  exact ⟨a1, nx_GLs hs ho a2, by rw [e.1, e.2]; exact a3⟩
/-- letters alone change: what holds still holds -/
theorem nx_InvW {e : Int} (h : nq_Inv St own A e) (hf : nq_fr1 A A') (hd : ∀ q, ni_ln0 q → 48 + 17 * A 0 2 ≤ q → A' q 2 = A q 2) (hLA' : ni_LA St' own' A') (hRK' : ∀ r : Nat, r < 8 → (r : Int) < A 0 1 → ni_RK St' own' A' (286 + 11 * r) ∧ own' r = ni_lno St' (A' (286 + 11 * r + 4) r).toNat) (h5 : ∀ r : Nat, r < 8 → (r : Int) < A 0 1 → A' (286 + 11 * r) 5 = 0 ∨ A' (286 + 11 * r) 5 = 1) : nq_Inv St' own' A' e := by
  obtain ⟨hNI, hC, hLE, hLD, hLV, hlc, hLA, hRK, hRT, ⟨hPN, hPS, hSS⟩, hdead⟩ := h
  have f1 : ∀ s j, s < 286 → ¬ ni_isL s j → A' s j = A s j := fun s j h1 h2 => hf s j h2 (fun r hr _ => by omega)
  have c1 := nq_cs1 f1
  have h0 : ∀ s j, s < 12 → A' s j = A s j := fun s j hs => f1 s j (by omega) (by unfold ni_isL; omega)
  have e1 := c1.2.1
  have e2 := c1.2.2.1
  have hl := c1.2.2.2.2.2
  have hq : ∀ r : Nat, r < 8 → ∀ s j, 286 + 11 * r ≤ s → s < 286 + 11 * r + 11 → s ≠ 286 + 11 * r + 4 → ¬ (s = 286 + 11 * r ∧ j = 5) → A' s j = A s j := fun r hr s j g1 g2 g3 g4 => hf s j (by unfold ni_isL; omega) (fun r' hr' _ => by omega)
  refine ⟨nq_NIt hNI f1, ⟨ni_LBf hC.1 (fun l j g => hl l g j), nq_FCc hC.2.1 c1, by rw [e1]; exact hC.2.2.1, fun r hr hrc => ?_⟩, fun l hl1 hl2 => ?_, fun l hl1 hl2 => ?_, ni_LVf hLV (fun l j g => hl l g j), by rw [e2]; exact hlc, hLA', fun r hr hrc => ?_, fun r hr hrc => ?_, ⟨ni_PLf hPN (fun j hj k => h0 _ _ (by omega)), ni_PLf hPS (fun j hj k => h0 _ _ (by omega)), fun i hi => ?_⟩, fun l hl1 hl2 => ?_⟩
  · rw [e1] at hrc
    have := hC.2.2.2 r hr hrc
    unfold ni_TI at this ⊢
    rw [hq r hr _ 3 (by omega) (by omega) (by omega) (by omega)]
    refine ⟨this.1, fun i hi => ?_⟩
    rw [hq r hr _ i (by omega) (by omega) (by omega) (by omega), hq r hr _ i (by omega) (by omega) (by omega) (by omega), hq r hr _ i (by omega) (by omega) (by omega) (by omega)]
    exact this.2 i hi
  · rw [e2] at hl2
    rw [hl l hl1, hl l hl1, e1]
    exact hLE l hl1 hl2
  · rw [hl l hl1] at hl2
    rw [hl l hl1]
    exact hLD l hl1 hl2
  · rw [e1] at hrc
    exact hRK' r hr hrc
  · rw [e1] at hrc
    obtain ⟨a1, a2, a3, a4⟩ := hRT r hr hrc
    exact ⟨by rw [hq r hr _ _ (by omega) (by omega) (by omega) (by omega)]; exact a1, h5 r hr hrc, nq_RDc a3 (hq r hr _ _ (by omega) (by omega) (by omega) (by omega)) (fun o => hq r hr _ _ (by omega) (by omega) (by omega) (by omega)) (fun o => hq r hr _ _ (by omega) (by omega) (by omega) (by omega)), nq_TSc a4 (hq r hr _ _ (by omega) (by omega) (by omega) (by omega)) (fun o => hq r hr _ _ (by omega) (by omega) (by omega) (by omega)) (fun o => hq r hr _ _ (by omega) (by omega) (by omega) (by omega)) (fun o => hq r hr _ _ (by omega) (by omega) (by omega) (by omega))⟩
  · rw [h0 _ _ (by omega)] at hi
    rw [h0 _ _ (by omega)]
    exact hSS i hi
  · rw [e2] at hl2
    rw [hl l hl1, hd (50 + 17 * l) (by unfold ni_ln0; omega) (by omega), hd (58 + 17 * l) (by unfold ni_ln0; omega) (by omega)]
    exact hdead l hl1 hl2
/-- what a call that writes letters leaves; k: how many; w: how far letters' numbers go -/
def nx_Q (St : Nat → Option ni_C) (own : Nat → Int) (A : Nat → Nat → Int) (e : Int) (k : Nat) (M : ni_H) (ad rw cp : Nat → Nat) (M' : ni_H) : Prop :=
  ∃ (St' : Nat → Option ni_C) (own' : Nat → Int) (A' : Nat → Nat → Int), nq_Inv St' own' A' e ∧ nq_fr1 A A' ∧ (∀ q, ni_ln0 q → 48 + 17 * A 0 2 ≤ q → A' q 2 = A q 2) ∧ nx_sub M.1.length St St' ∧ (∀ x, own x ≤ own' x ∧ own' x ≤ own x + k) ∧ ∃ rw' cp', ni_Rep St' M' ad rw' cp' A' (ni_live A') ∧ nx_Kp (3 * k) (43 * k) M ad rw cp M' rw' cp'
theorem nq_fr1r : nq_fr1 A A := fun _ _ _ _ => rfl
theorem nq_fr1t {A2 : Nat → Nat → Int} (h : nq_fr1 A A') (h' : nq_fr1 A' A2) : nq_fr1 A A2 := fun s j g1 g2 => by
  have e : A' 0 1 = A 0 1 := h 0 1 (by unfold ni_isL; omega) (fun r hr _ => by omega)
  rw [h' s j g1 (fun r hr hrc => g2 r hr (by rw [e] at hrc; exact hrc)), h s j g1 g2]
theorem nx_QT {e : Int} {k k' : Nat} {St1 : Nat → Option ni_C} {own1 : Nat → Int} {A1 : Nat → Nat → Int} {M1 : ni_H} {rw1 cp1 : Nat → Nat} (hf : nq_fr1 A A1) (hd : ∀ q, ni_ln0 q → 48 + 17 * A 0 2 ≤ q → A1 q 2 = A q 2) (hs : nx_sub M.1.length St St1) (ho : ∀ x, own x ≤ own1 x ∧ own1 x ≤ own x + k) (hK : nx_Kp (3 * k) (43 * k) M ad rw cp M1 rw1 cp1) (h : nx_Q St1 own1 A1 e k' M1 ad rw1 cp1 M') : nx_Q St own A e (k + k') M ad rw cp M' := by
  obtain ⟨St', own', A', g1, g2, g3, g4, g5, rw', cp', g6, g7⟩ := h
  have e2 : A1 0 2 = A 0 2 := hf 0 2 (by unfold ni_isL; omega) (fun r hr _ => by omega)
  refine ⟨St', own', A', g1, nq_fr1t hf g2, fun q hq hq2 => ?_, nx_subT hs g4 hK.2.2.2.2, fun x => ?_, rw', cp', g6, nx_KpM (nx_KpT hK g7) (by omega) (by omega)⟩
  · rw [g3 q hq (by rw [e2]; exact hq2), hd q hq hq2]
  · have := ho x
    have := g5 x
    omega
theorem mt_write {e : Int} {r : Nat} (hR : ni_Rep St M ad rw cp A (ni_live A)) (h : nq_Inv St own A e) (hCO : nq_CO A) (hr : r < 8) (hrc : (r : Int) < A 0 1) (hown : own r ≤ 900000) (hb : M.1.length + 57347 ≤ 900000 + ni_gz cp) : wp_C xs 6 97 [.ref (ad 0), ni_z (r : Int)] M (fun u M' => u = none ∧ nx_Q St own A e 1 M ad rw cp M') := by
  have hInv := h
  obtain ⟨hNI, hC, hLE, hLD, hLV, hlc, hLA, hRK, hRT, ⟨hPN, hPS, hSS⟩, hdead⟩ := h
  have hx : ni_Sx St M ad rw cp M rw cp A (ni_live A) := ⟨hR, ni_KpR⟩
  have hgz := np_gz hR.2.2.1
  have hro := ni_roS r hr
  obtain ⟨hrk, how⟩ := hRK r hr hrc
  refine wp_enter (Nat.le_of_ble_eq_true rfl) (ls := [.ref (ad 0), ni_z (r : Int), ni_J, ni_J, ni_J, ni_J, ni_J]) rfl ?_
  refine wp_Ld rfl rfl rfl ?_
  refine ws_Get (v := .ref (ad 1)) rfl hx (show ni_us 0 = true by decide +kernel) (show ni_kd 0 = 4 by decide +kernel) rfl rfl rfl ?_
  refine wp_Ld rfl rfl rfl ?_
  refine ws_Qld (q := 6) (y := 97) (pc := 5) (s := 1) (n := 8) (t := 101) (j := r) (v := .ref (ad (286 + 11 * r))) rfl hx (show ni_us 1 = true by decide +kernel) (show ni_kd 1 = 101 by decide +kernel) (show ni_ln 1 = 8 by decide +kernel) ⟨by decide, rfl⟩ rfl (by omega) (by decide) (ni_LR hx (show ni_us 1 = true by decide +kernel) (by decide +kernel) (by omega)) rfl rfl ?_
  refine wp_St (ls' := [.ref (ad 0), ni_z (r : Int), .ref (ad (286 + 11 * r)), ni_J, ni_J, ni_J, ni_J]) rfl rfl rfl ?_
  refine wp_P (g := ni_gPush (.int 0) 8) rfl (wp_push (z := 0) rfl) ?_
  refine wp_St (ls' := [.ref (ad 0), ni_z (r : Int), .ref (ad (286 + 11 * r)), ni_z ((0 : Nat) : Int), ni_J, ni_J, ni_J]) rfl rfl rfl ?_
  refine wp_P (g := ni_gPush (.int 14) 11) rfl (wp_push (z := 14) rfl) ?_
  refine wp_Newa (c := 14) rfl (by omega) hR.2.2.2.2.2.1 (by omega) ?_
  refine wp_St (ls' := [.ref (ad 0), ni_z (r : Int), .ref (ad (286 + 11 * r)), ni_z ((0 : Nat) : Int), .ref M.1.length, ni_J, ni_J]) rfl rfl rfl ?_
  refine wp_P (g := ni_gPush (.int 0) 16) rfl (wp_push (z := 0) rfl) ?_
  refine wp_St (ls' := [.ref (ad 0), ni_z (r : Int), .ref (ad (286 + 11 * r)), ni_z ((0 : Nat) : Int), .ref M.1.length, ni_z ((0 : Nat) : Int), ni_J]) rfl rfl rfl ?_
  refine mt_wlL (n := (A 0 2).toNat) hR (by omega) hC.1 hCO (by omega) (by omega) hr (fun s M2 vs hs hm hcs => ?_) (A 0 2).toNat 0 0 (by omega) (by decide) _ (List.replicate 14 (.int 0)) (nx_moA hR.2.2.2.2.2.1) ⟨rfl, fun k hk => ⟨0, by rw [List.getElem?_replicate_of_lt hk]; rfl, by omega, by omega, fun z => by rw [Nat.zero_div] at z; cases z⟩⟩
  have hx2 : ni_Sx St M2 ad rw cp M2 rw cp A (ni_live A) := ⟨nx_moR hR hm (by omega), ni_KpR⟩
  have hro4 := ni_o7_4 hro.1 hro.2
  obtain ⟨a1, a2, a3⟩ := hrk r hr
  have hGL := a2
  obtain ⟨⟨o, n, s0, ca, na, cs, ns0, hb0, ho, hn, _⟩, a22⟩ := a2
  refine wp_Ld rfl rfl rfl ?_
  refine ws_Get (v := .ref (ad (286 + 11 * r + 4))) rfl hx2 hro.1 hro.2 rfl rfl rfl ?_
  refine wp_Ld rfl rfl rfl ?_
  refine ws_Qld (q := 88) (y := 97) (pc := 87) (s := 286 + 11 * r + 4) (n := 8) (t := 104) (j := r) (v := .ref (A (286 + 11 * r + 4) r).toNat) rfl hx2 hro4.1 hro4.2.1 hro4.2.2.1 ⟨by decide, rfl⟩ rfl (by omega) (by decide) (ni_L7 hro4.1 (ni_ctR r hr) hrc hr (ni_clR A)) rfl rfl ?_
  refine wp_Get (v := ni_z n) rfl (hx2.1.2.2.2.2.1 _ _ hb0).1 rfl ?_
  refine wp_P (g := ni_gPush (.int 1) 92) rfl (wp_push (z := 1) rfl) ?_
  refine wp_P rfl wp_add ?_
  refine wp_St (ls' := [.ref (ad 0), ni_z (r : Int), .ref (ad (286 + 11 * r)), ni_z (s : Int), .ref M.1.length, ni_z (n + 1), ni_J]) rfl rfl rfl ?_
  refine wp_New rfl hm.2.1 (by have := hm.1; omega) ?_
  have hm3 : nx_mo M2 (M2.1 ++ [(1, [.int 0, .int 0, .int 0, .null, .null])], M2.2) (1, [.int 0, .int 0, .int 0, .null, .null]) := nx_moA hm.2.1
  revert hm3
  generalize (M2.1 ++ [(1, [Value.int 0, .int 0, .int 0, .null, .null])], M2.2) = M3
  intro hm3
  have hR3 := nx_moR hx2.1 hm3 (by have := hm.1; omega)
  have hx3 : ni_Sx St M3 ad rw cp M3 rw cp A (ni_live A) := ⟨hR3, ni_KpR⟩
  refine wp_P (g := ni_gDup 99) rfl rfl ?_
  refine wp_Ld rfl rfl rfl ?_
  refine wp_Ld rfl rfl rfl ?_
  refine wp_Ld rfl rfl rfl ?_
  refine wp_Ld rfl rfl rfl ?_
  refine wp_Ld rfl rfl rfl ?_
  refine ws_Get (v := .ref (ad 4)) rfl hx3 (show ni_us 0 = true by decide +kernel) (show ni_kd 0 = 4 by decide +kernel) rfl rfl rfl ?_
  refine wp_Ld rfl rfl rfl ?_
  obtain ⟨lv, lw1⟩ := nx_cell hR3 (show ni_us 4 = true by decide +kernel) (show ni_kd 4 = 6 by decide +kernel) rfl
  refine wp_V (r := [.ref M.1.length, ni_z (s : Int), ni_z (n + 1), ni_z (r : Int), .ref M2.1.length, .ref M2.1.length]) (as := [ni_z (r : Int)]) rfl rfl rfl lw1 (Nat.le_of_ble_eq_true rfl) (wp_up (mt_prefixesAt hR3 (by have := hm.1; have := hm3.1; omega) hPN hr) (by decide)) ?_
  rintro u M4 ⟨hu, ns, hm4, hns, hpf⟩
  rw [hu]
  have hlet : M4.1[M2.1.length]? = some (1, [.int 0, .int 0, .int 0, .null, .null]) := by rw [hm4.2.2.1 _ (by have := hm3.1; omega)]; exact hm3.2.2.2.1
  refine wp_Ini (a := M2.1.length) (r := [.ref M2.1.length]) (as := [ni_z (r : Int), ni_z (n + 1), ni_z (s : Int), .ref M.1.length, .ref M3.1.length]) rfl rfl rfl (Nat.le_of_ble_eq_true rfl) (wp_up (mt_ltI hlet) (by decide)) (fun v M' g => g.1) (fun M5 hw => ?_)
  have hw5 := hw.2
  clear hw
  have l2 := hm.1
  have l3 := hm3.1
  have l4 := hm4.1
  have l5 := hw5.2.2.1
  have hz5 := ni_zsW hlet hw5 (by simp)
  have z2 := hm.2.2.2.2
  have z3 := hm3.2.2.2.2
  have z4 := hm4.2.2.2.2
  have k5 : ∀ b, b < M.1.length → M5.1[b]? = M.1[b]? := fun b hb => by rw [hw5.2.1 b (by omega), hm4.2.2.1 b (by omega), hm3.2.2.1 b (by omega), hm.2.2.1 b (by omega)]
  have c1 : M5.1[M.1.length]? = some (100, vs) := by rw [hw5.2.1 _ (by omega), hm4.2.2.1 _ (by omega), hm3.2.2.1 _ (by omega)]; exact hm.2.2.2.1
  have c2 : M5.1[M3.1.length]? = some (100, ns) := by rw [hw5.2.1 _ (by omega)]; exact hm4.2.2.2.1
  have hR5 : ni_Rep St M5 ad rw cp A (ni_live A) := nx_fr hR (by omega) (by rw [hw5.2.2.2]; exact hm4.2.1) (fun s hs => k5 _ (nx_ltP hR hs)) (fun a c ha => k5 _ (nx_ltS hR ha))
  have hne : ∀ b, M.1.length ≤ b → ∀ s, ni_us s = true → ni_pl ad rw s ≠ b := fun b hb s hs z => by have := nx_ltP hR hs; omega
  have hR6 := nx_put (nx_put (nx_put hR5 c1 (hne _ (Nat.le_refl _))) c2 (hne _ (by omega))) hw5.1 (hne _ (by omega))
  have hsub : nx_sub M.1.length St (nx_ad (nx_ad (nx_ad St M.1.length (100, vs)) M3.1.length (100, ns)) M2.1.length (1, [ni_z (r : Int), ni_z (n + 1), ni_z (s : Int), .ref M.1.length, .ref M3.1.length])) := by
    refine ⟨fun a c ha => ?_, fun a c ha => ?_⟩
    · have := nx_ltS hR ha
      rw [nx_adN (by omega), nx_adN (by omega), nx_adN (by omega)]
      exact ha
    · by_cases g : a < M.1.length
      · rw [nx_adN (by omega), nx_adN (by omega), nx_adN (by omega)] at ha
        exact Or.inl ha
      · exact Or.inr (by omega)
  have hGS : (nx_ad (nx_ad (nx_ad St M.1.length (100, vs)) M3.1.length (100, ns)) M2.1.length (1, [ni_z (r : Int), ni_z (n + 1), ni_z (s : Int), .ref M.1.length, .ref M3.1.length])) M2.1.length = some (1, [ni_z (r : Int), ni_z (n + 1), ni_z (s : Int), .ref M.1.length, .ref M3.1.length]) := nx_adE
  have hG1 : (nx_ad (nx_ad (nx_ad St M.1.length (100, vs)) M3.1.length (100, ns)) M2.1.length (1, [ni_z (r : Int), ni_z (n + 1), ni_z (s : Int), .ref M.1.length, .ref M3.1.length])) M.1.length = some (100, vs) := by
    rw [nx_adN (by omega), nx_adN (by omega)]
    exact nx_adE
  have hG2 : (nx_ad (nx_ad (nx_ad St M.1.length (100, vs)) M3.1.length (100, ns)) M2.1.length (1, [ni_z (r : Int), ni_z (n + 1), ni_z (s : Int), .ref M.1.length, .ref M3.1.length])) M3.1.length = some (100, ns) := by
    rw [nx_adN (by omega)]
    exact nx_adE
  have hlE := ni_lnoE hb0 (by unfold ni_R32; omega) (by unfold ni_R32; omega)
  revert hR6 hsub hGS hG1 hG2
  generalize nx_ad (nx_ad (nx_ad St M.1.length (100, vs)) M3.1.length (100, ns)) M2.1.length (1, [ni_z (r : Int), ni_z (n + 1), ni_z (s : Int), .ref M.1.length, .ref M3.1.length]) = S6
  intro hR6 hsub hGS hG1 hG2
  have hnr : own r = n := by rw [how]; exact hlE.1
  have hLW6 : ni_LW S6 M2.1.length := by
    refine ⟨(r : Int), n + 1, (s : Int), M.1.length, M3.1.length, vs, ns, hGS, by omega, by omega, by omega, hG1, fun k hk => ?_, hG2, hns, hpf⟩
    obtain ⟨c, g1, g2, g3, g4⟩ := hcs.2 k hk
    refine ⟨c, g1, g2, g3, fun z => g4 ?_⟩
    have : ((s / 2 ^ k % 2 : Nat) : Int) = 1 := by
      push_cast
      exact z
    omega
  have hl6 := ni_lnoE hGS (by unfold ni_R32; omega) (by unfold ni_R32; omega)
  obtain ⟨own6, hown6⟩ : ∃ own6 : Nat → Int, own6 = fun x => if x = r then n + 1 else own x := ⟨_, rfl⟩
  have ho6 : ∀ x, own x ≤ own6 x ∧ own6 x ≤ own x + ((1 : Nat) : Int) := fun x => by
    rw [hown6]
    dsimp only
    by_cases c : x = r
    · rw [if_pos c, c, hnr]
      omega
    · rw [if_neg c]
      omega
  have ho6r : own6 r = n + 1 := by rw [hown6]; exact if_pos rfl
  have ho6n : ∀ x, x ≠ r → own6 x = own x := fun x hx => by rw [hown6]; exact if_neg hx
  have hGL6 : ni_GL S6 own6 M2.1.length := ⟨hLW6, by rw [hl6.1, hl6.2, show (r : Int).toNat = r from Int.toNat_natCast r, ho6r]; exact Int.le_refl _⟩
  refine wp_St (ls' := [.ref (ad 0), ni_z (r : Int), .ref (ad (286 + 11 * r)), ni_z (s : Int), .ref M.1.length, ni_z (n + 1), .ref M2.1.length]) rfl rfl rfl ?_
  have hx6 : ni_Sx S6 M5 ad rw cp M5 rw cp A (ni_live A) := ⟨hR6, ni_KpR⟩
  refine wp_Ld rfl rfl rfl ?_
  refine wp_Ld rfl rfl rfl ?_
  refine ws_V (q := 124) (y := 97) (pc := 121) (s := 286 + 11 * r) (r := []) (as := [.ref M2.1.length]) rfl rfl rfl hx6 (ni_clR A) hro.1 hro.2 rfl (Nat.le_of_ble_eq_true rfl) (ni_Dup (mt_keep hro.1 hro.2 hGS hr) (by decide)) rfl fun M7 rw7 cp7 hx7 => ?_
  obtain ⟨A7, hA7⟩ : ∃ A7, A7 = ni_u2 (ni_u2 A (286 + 11 * r + 4) r ((M2.1.length : Nat) : Int)) (286 + 11 * r) 5 1 := ⟨_, rfl⟩
  rw [← hA7] at hx7
  have f7 : ∀ s j, ¬ (s = 286 + 11 * r + 4 ∧ j = r) → ¬ (s = 286 + 11 * r ∧ j = 5) → A7 s j = A s j := fun s j g1 g2 => by rw [hA7, ni_u2n (by omega), ni_u2n (by omega)]
  have f75 : A7 (286 + 11 * r) 5 = 1 := by rw [hA7]; exact ni_u2e
  have f74 : A7 (286 + 11 * r + 4) r = ((M2.1.length : Nat) : Int) := by rw [hA7, ni_u2n (by omega)]; exact ni_u2e
  have hfr7 : nq_fr1 A A7 := fun s j g1 g2 => by
    have := g2 r hr hrc
    exact f7 s j (by omega) (by omega)
  have hLA7 : ni_LA S6 own6 A7 := fun p hp => by
    have hp' := hp
    unfold ni_ln0 at hp'
    obtain ⟨b1, b2⟩ := nx_LAs hsub.1 (fun x => (ho6 x).1) hLA p hp
    unfold ni_LL
    rw [f7 p 2 (by omega) (by omega)]
    refine ⟨b1, fun j hj => ?_⟩
    rw [f7 (p + 1) j (by omega) (by omega), f7 (p + 2) j (by omega) (by omega)]
    exact b2 j hj
  have g0 : ∀ j, A7 0 j = A 0 j := fun j => f7 0 j (by omega) (by omega)
  have gl : ∀ l j : Nat, l < 14 → A7 (48 + 17 * l) j = A (48 + 17 * l) j := fun l j hl => f7 _ _ (by omega) (by omega)
  refine wp_Ld rfl rfl rfl ?_
  refine wp_Ld rfl rfl rfl ?_
  refine wp_Ld rfl rfl rfl ?_
  refine wp_P (g := ni_gPush (.int (-1)) 129) rfl (wp_push (z := -1) rfl) ?_
  obtain ⟨v8, A8, ⟨hv8, hf8, hLA8, hq8⟩, hD8⟩ := mt_tellO (xs := xs) (A := A7) hr (bu := -1) (by omega) hGL6 (ni_LBf hC.1 gl) (ni_LVf hLV gl) (by rw [g0]; exact hNI.2.1) (by rw [g0]; exact hlc) hLA7
  refine ws_V (q := 132) (y := 97) (pc := 129) (s := 0) (r := []) (as := [ni_z (r : Int), .ref M2.1.length, ni_z (-1)]) rfl rfl rfl hx7 (ni_clR A7) (show ni_us 0 = true by decide +kernel) (show ni_kd 0 = 4 by decide +kernel) rfl (Nat.le_of_ble_eq_true rfl) (ni_Dup hD8 (by decide)) rfl fun M8 rw8 cp8 hx8 => ?_
  rw [hv8]
  refine wp_Rv rfl rfl ⟨rfl, ?_⟩
  have f8 : ∀ s j, ¬ ni_isL s j → A8 s j = A7 s j := hf8
  have hRK8 : ∀ q : Nat, q < 8 → (q : Int) < A 0 1 → ni_RK S6 own6 A8 (286 + 11 * q) ∧ own6 q = ni_lno S6 (A8 (286 + 11 * q + 4) q).toNat := fun q hq hqc => by
    have g8 : ∀ o, A8 (286 + 11 * q + 4) o = A7 (286 + 11 * q + 4) o := fun o => f8 _ _ (by unfold ni_isL; omega)
    have old := nx_RKs hsub.1 (fun x => (ho6 x).1) (hRK q hq hqc).1
    by_cases c : q = r
    · subst c
      refine ⟨fun o ho' => ?_, by rw [g8, f74, Int.toNat_natCast, ho6r, hl6.1]⟩
      rw [g8]
      by_cases co : o = q
      · subst co
        rw [f74, Int.toNat_natCast]
        exact ⟨by omega, hGL6, Or.inl (by rw [hl6.2]; exact Int.toNat_natCast _)⟩
      · rw [f7 _ _ (by omega) (by omega)]
        exact old o ho'
    · have g7 : ∀ o, A7 (286 + 11 * q + 4) o = A (286 + 11 * q + 4) o := fun o => f7 _ _ (by omega) (by omega)
      refine ⟨fun o ho' => ?_, ?_⟩
      · rw [g8, g7]
        exact old o ho'
      · rw [g8, g7, ho6n q c, (hRK q hq hqc).2]
        exact ((nx_lnS hsub.1 ((hRK q hq hqc).1 q hq).2.1.1).1).symm
  have hfr8 : nq_fr1 A A8 := nq_fr1t hfr7 (fun s j g1 _ => f8 s j g1)
  have hd8 : ∀ q, ni_ln0 q → 48 + 17 * A 0 2 ≤ q → A8 q 2 = A q 2 := fun q hq hq2 => by
    have hq' := hq
    unfold ni_ln0 at hq'
    rw [(hq8 q hq).2 (by rw [g0]; exact hq2), f7 _ _ (by omega) (by omega)]
  refine ⟨S6, own6, A8, nx_InvW hInv hfr8 hd8 hLA8 hRK8 (fun q hq hqc => ?_), hfr8, hd8, hsub, ho6, rw8, cp8, hx8.1, ?_⟩
  · rw [f8 _ _ (by unfold ni_isL; omega)]
    by_cases c : q = r
    · rw [c]
      exact Or.inr f75
    · rw [f7 _ _ (by omega) (by omega)]
      exact (hRT q hq hqc).2.1
  · have k58 : ni_Kp M5 ad rw cp M8 rw8 cp8 := ni_KpT hx7.2 (by exact ni_KpR) |> fun _ => hx8.2
    refine nx_KpM (nx_KpT (k := 3) (z := 43) (M := M5) (rw := rw) (cp := cp) ⟨fun b hb _ => k5 b hb, fun s hs => Or.inl rfl, by omega, ?_, by omega⟩ (nx_Kp0 k58)) (by omega) (by omega)
    have e1 : vs.length = 14 := hcs.1
    have t1 : ((100, vs) : ni_C).2.length = vs.length := rfl
    have t2 : ((100, ns) : ni_C).2.length = ns.length := rfl
    have t3 : ((1, [.int 0, .int 0, .int 0, .null, .null]) : ni_C).2.length = 5 := rfl
    omega
end NXV
