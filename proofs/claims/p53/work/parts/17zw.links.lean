/-! LINKS COME UP, COSTS CHANGE, NETWORKS COME -/
section NXL
variable {xs : List Int32} {St St' : Nat → Option ni_C} {M M' M0 : ni_H} {ad rw cp rw0 cp0 : Nat → Nat} {A A' : Nat → Nat → Int} {own own' : Nat → Int}
theorem nx_Q0 {e : Int} {rw1 cp1 : Nat → Nat} (h : nq_Inv St own A e) (hx : ni_Sx St M ad rw cp M' rw1 cp1 A (ni_live A)) : nx_Q St own A e 0 M ad rw cp M' := ⟨St, own, A, h, nq_fr1r, fun _ _ _ => rfl, nx_subR, fun x => ⟨Int.le_refl _, by omega⟩, rw1, cp1, hx.1, nx_Kp0 hx.2⟩
theorem nx_QM {e : Int} {k k' : Nat} (h : nx_Q St own A e k M ad rw cp M') (hk : k ≤ k') : nx_Q St own A e k' M ad rw cp M' := by
  obtain ⟨St', own', A', g1, g2, g3, g4, g5, rw', cp', g6, g7⟩ := h
  exact ⟨St', own', A', g1, g2, g3, g4, fun x => ⟨(g5 x).1, by have := (g5 x).2; omega⟩, rw', cp', g6, nx_KpM g7 (by omega) (by omega)⟩
theorem nx_fl (h : nq_fr1 A A') : (∀ j, A' 0 j = A 0 j) ∧ (∀ l j : Nat, l < 14 → A' (48 + 17 * l) j = A (48 + 17 * l) j) ∧ ∀ s j, s < 48 → A' s j = A s j :=
  ⟨fun j => h 0 j (by unfold ni_isL; omega) (fun r hr _ => by omega), fun l j hl => h _ j (by unfold ni_isL; omega) (fun r hr _ => by omega), fun s j hs => h s j (by unfold ni_isL; omega) (fun r hr _ => by omega)⟩
theorem nx_COf (h : nq_CO A) (hf : nq_fr1 A A') : nq_CO A' := fun l hl hl2 => by
  obtain ⟨f0, fl, _⟩ := nx_fl hf
  rw [f0] at hl2
  rw [fl l 2 hl]
  exact h l hl hl2
/-- one letter more -/
theorem nx_thenW {e : Int} {k r : Nat} (hq : nx_Q St own A e k M0 ad rw0 cp0 M) (hCO : nq_CO A) (hr : r < 8) (hrc : (r : Int) < A 0 1) (hown : own r + k ≤ 900000) (hb : M0.1.length + 57344 + 3 * (k + 1) ≤ 900000 + ni_gz cp0) : wp_C xs 6 97 [.ref (ad 0), ni_z (r : Int)] M (fun u M' => u = none ∧ nx_Q St own A e (k + 1) M0 ad rw0 cp0 M') := by
  obtain ⟨St1, own1, A1, g1, g2, g3, g4, g5, rw1, cp1, g6, g7⟩ := hq
  have f0 := (nx_fl g2).1
  refine wp_mono (mt_write g6 g1 (nx_COf hCO g2) hr (by rw [f0]; exact hrc) (by have := (g5 r).2; omega) (by have := g7.2.2.1; omega)) (fun u M' hu => ⟨hu.1, nx_QT g2 g3 g4 g5 g7 hu.2⟩)
theorem nx_thenT {e : Int} {k l r : Nat} (hq : nx_Q St own A e k M0 ad rw0 cp0 M) (hl : l < 14) (hlc : (l : Int) < A 0 2) (hr : r < 8) (hrc : (r : Int) < A 0 1) : wp_C xs 6 94 [.ref (ad 0), ni_z (r : Int), .ref (ad (48 + 17 * l))] M (fun u M' => u = none ∧ nx_Q St own A e k M0 ad rw0 cp0 M') := by
  obtain ⟨St1, own1, A1, g1, g2, g3, g4, g5, rw1, cp1, g6, g7⟩ := hq
  have f0 := (nx_fl g2).1
  exact wp_mono (mt_tellKept g6 g1 hl (by rw [f0]; exact hlc) hr (by rw [f0]; exact hrc)) (fun u M' hu => ⟨hu.1, nx_QT g2 g3 g4 g5 g7 hu.2⟩)
section X
variable {d y pc q : Nat} {ls st : List Value} {Q : Option Value → ni_H → Prop}
/-- a link's field, read on the way -/
theorem nx_getL {e : Int} {k l j : Nat} {x : Int} (hp : ni_prog xs y pc = ni_sGet 3 j q) (hq : nx_Q St own A e k M0 ad rw0 cp0 M) (hl : l < 14) (hj : j < 6) (hv : A (48 + 17 * l) j = x) (hg : wp_G xs d y q ls (ni_z x :: st) M Q) : wp_G xs d y pc ls (.ref (ad (48 + 17 * l)) :: st) M Q := by
  obtain ⟨St1, own1, A1, g1, g2, g3, g4, g5, rw1, cp1, g6, g7⟩ := hq
  have fl := (nx_fl g2).2.1
  have hli := ni_liS l hl
  refine ws_Get (M0 := M) (rw0 := rw1) (cp0 := cp1) (v := ni_z x) hp ⟨g6, ni_KpR⟩ hli.1 hli.2 rfl ?_ ?_ hg
  · have : ∀ j, j < 6 → Nat.blt j (ni_lk 3) = true := by decide
    exact this j hj
  · rw [← hv, ← fl l j hl]
    have : ∀ j, j < 6 → ni_vk 3 ad rw1 A1 (48 + 17 * l) j = ni_z (A1 (48 + 17 * l) j) := fun j hj => by
      have : j = 0 ∨ j = 1 ∨ j = 2 ∨ j = 3 ∨ j = 4 ∨ j = 5 := by omega
      rcases this with r | r | r | r | r | r <;> (rw [r]; rfl)
    exact this j hj
theorem nx_net {e : Int} {k : Nat} (hq : nx_Q St own A e k M0 ad rw0 cp0 M) : ∃ vs, M.1[ad 0]? = some (4, vs) := by
  obtain ⟨St1, own1, A1, g1, g2, g3, g4, g5, rw1, cp1, g6, g7⟩ := hq
  exact nx_cell g6 (show ni_us 0 = true by decide +kernel) (show ni_kd 0 = 4 by decide +kernel) rfl
end X
theorem mt_raise {e : Int} {l : Nat} (hR : ni_Rep St M ad rw cp A (ni_live A)) (h : nq_Inv St own (ni_u2 A (48 + 17 * l) 5 1) e) (hCO : nq_CO (ni_u2 A (48 + 17 * l) 5 1)) (hl : l < 14) (hlc : (l : Int) < A 0 2) (hown : ∀ x, own x ≤ 800000) (hb : M.1.length + 57350 ≤ 900000 + ni_gz cp) : wp_C xs 7 89 [.ref (ad 0), ni_z (l : Int)] M (fun u M' => u = none ∧ nx_Q St own (ni_u2 A (48 + 17 * l) 5 1) e 2 M ad rw cp M') := by
  have hx : ni_Sx St M ad rw cp M rw cp A (ni_live A) := ⟨hR, ni_KpR⟩
  have hli := ni_liS l hl
  have g01 : ni_u2 A (48 + 17 * l) 5 1 0 1 = A 0 1 := ni_u2n (by omega)
  have g02 : ni_u2 A (48 + 17 * l) 5 1 0 2 = A 0 2 := ni_u2n (by omega)
  obtain ⟨w0, w1, _⟩ := h.2.1.1 l hl
  obtain ⟨c0, c1⟩ := h.2.2.1 l hl (by rw [g02]; exact hlc)
  refine wp_enter (Nat.le_of_ble_eq_true rfl) (ls := [.ref (ad 0), ni_z (l : Int), ni_J]) rfl ?_
  refine wp_Ld rfl rfl rfl ?_
  refine ws_Get (v := .ref (ad 2)) rfl hx (show ni_us 0 = true by decide +kernel) (show ni_kd 0 = 4 by decide +kernel) rfl rfl rfl ?_
  refine wp_Ld rfl rfl rfl ?_
  refine ws_Qld (q := 6) (y := 89) (pc := 5) (s := 2) (n := 14) (t := 102) (j := l) (v := .ref (ad (48 + 17 * l))) rfl hx (show ni_us 2 = true by decide +kernel) (show ni_kd 2 = 102 by decide +kernel) (show ni_ln 2 = 14 by decide +kernel) ⟨by decide, rfl⟩ rfl (by omega) (by decide) (ni_LR hx (show ni_us 2 = true by decide +kernel) (by decide +kernel) (by omega)) rfl rfl ?_
  refine wp_St (ls' := [.ref (ad 0), ni_z (l : Int), .ref (ad (48 + 17 * l))]) rfl rfl rfl ?_
  refine wp_Ld rfl rfl rfl ?_
  refine wp_P (g := ni_gPush (.int 1) 9) rfl (wp_push (z := 1) rfl) ?_
  refine ws_Put (q := 12) (y := 89) (pc := 9) rfl hx hli.1 hli.2 rfl rfl (fun _ => rfl) (ni_fitB (Or.inr rfl)) (fun z _ => by cases z) fun M1 hx1 => ?_
  have hx1' : ni_Sx St M ad rw cp M1 rw cp (ni_u2 A (48 + 17 * l) 5 1) (ni_live (ni_u2 A (48 + 17 * l) 5 1)) := ⟨ni_RepC hx1.1 (ni_clU (ni_clR A) hli.1 hli.2 rfl), hx1.2⟩
  have q0 := nx_Q0 h hx1'
  clear hx1 hx1'
  revert h hCO q0 w0 w1 c0 c1 g01 g02
  generalize ni_u2 A (48 + 17 * l) 5 1 = A1
  intro h hCO g01 g02 w0 w1 c0 c1 q0
  obtain ⟨a, ha⟩ : ∃ a : Nat, (a : Int) = A1 (48 + 17 * l) 0 := ⟨(A1 (48 + 17 * l) 0).toNat, by omega⟩
  obtain ⟨b, hbb⟩ : ∃ b : Nat, (b : Int) = A1 (48 + 17 * l) 1 := ⟨(A1 (48 + 17 * l) 1).toNat, by omega⟩
  refine wp_Ld rfl rfl rfl ?_
  refine wp_Ld rfl rfl rfl ?_
  refine nx_getL (x := (a : Int)) rfl q0 hl (by omega) ha.symm ?_
  obtain ⟨v0, n0⟩ := nx_net q0
  refine wp_V (r := []) (as := [ni_z (a : Int)]) rfl rfl rfl n0 (Nat.le_of_ble_eq_true rfl) (nx_thenW q0 hCO (by omega) (by omega) (by have := hown a; omega) (by omega)) ?_
  rintro u1 M2 ⟨hu1, q1⟩
  rw [hu1]
  refine wp_Ld rfl rfl rfl ?_
  refine wp_Ld rfl rfl rfl ?_
  refine nx_getL (x := (b : Int)) rfl q1 hl (by omega) hbb.symm ?_
  obtain ⟨v1, n1⟩ := nx_net q1
  refine wp_V (r := []) (as := [ni_z (b : Int)]) rfl rfl rfl n1 (Nat.le_of_ble_eq_true rfl) (nx_thenW q1 hCO (by omega) (by omega) (by have := hown b; omega) (by omega)) ?_
  rintro u2 M3 ⟨hu2, q2⟩
  rw [hu2]
  refine wp_Ld rfl rfl rfl ?_
  refine wp_Ld rfl rfl rfl ?_
  refine nx_getL (x := (a : Int)) rfl q2 hl (by omega) ha.symm ?_
  refine wp_Ld rfl rfl rfl ?_
  obtain ⟨v2, n2⟩ := nx_net q2
  refine wp_V (r := []) (as := [ni_z (a : Int), .ref (ad (48 + 17 * l))]) rfl rfl rfl n2 (Nat.le_of_ble_eq_true rfl) (nx_thenT q2 hl (by omega) (by omega) (by omega)) ?_
  rintro u3 M4 ⟨hu3, q3⟩
  rw [hu3]
  refine wp_Ld rfl rfl rfl ?_
  refine wp_Ld rfl rfl rfl ?_
  refine nx_getL (x := (b : Int)) rfl q3 hl (by omega) hbb.symm ?_
  refine wp_Ld rfl rfl rfl ?_
  obtain ⟨v3, n3⟩ := nx_net q3
  refine wp_V (r := []) (as := [ni_z (b : Int), .ref (ad (48 + 17 * l))]) rfl rfl rfl n3 (Nat.le_of_ble_eq_true rfl) (nx_thenT q3 hl (by omega) (by omega) (by omega)) ?_
  rintro u4 M5 ⟨hu4, q4⟩
  rw [hu4]
  exact wp_Rv rfl rfl ⟨rfl, q4⟩
theorem mt_changeCost {e c : Int} {l : Nat} (hR : ni_Rep St M ad rw cp A (ni_live A)) (h : nq_Inv St own (ni_u2 A (48 + 17 * l) 2 c) e) (hCO : nq_CO (ni_u2 A (48 + 17 * l) 2 c)) (hc2 : 1 ≤ A (48 + 17 * l) 2 ∧ A (48 + 17 * l) 2 ≤ 50) (hc : 1 ≤ c ∧ c ≤ 50) (hl : l < 14) (hlc : (l : Int) < A 0 2) (hown : ∀ x, own x ≤ 800000) (hb : M.1.length + 57350 ≤ 900000 + ni_gz cp) : wp_C xs 7 76 [.ref (ad 0), ni_z (l : Int), ni_z c] M (fun u M' => (∃ x : Int, u = some (ni_z x)) ∧ nx_Q St own (ni_u2 A (48 + 17 * l) 2 c) e 2 M ad rw cp M') := by
  have hx : ni_Sx St M ad rw cp M rw cp A (ni_live A) := ⟨hR, ni_KpR⟩
  have hli := ni_liS l hl
  have g01 : ni_u2 A (48 + 17 * l) 2 c 0 1 = A 0 1 := ni_u2n (by omega)
  have g02 : ni_u2 A (48 + 17 * l) 2 c 0 2 = A 0 2 := ni_u2n (by omega)
  obtain ⟨w0, w1, w5⟩ := h.2.1.1 l hl
  obtain ⟨c0, c1⟩ := h.2.2.1 l hl (by rw [g02]; exact hlc)
  refine wp_enter (Nat.le_of_ble_eq_true rfl) (ls := [.ref (ad 0), ni_z (l : Int), ni_z c, ni_J, ni_J]) rfl ?_
  refine wp_Ld rfl rfl rfl ?_
  refine ws_Get (v := .ref (ad 2)) rfl hx (show ni_us 0 = true by decide +kernel) (show ni_kd 0 = 4 by decide +kernel) rfl rfl rfl ?_
  refine wp_Ld rfl rfl rfl ?_
  refine ws_Qld (q := 6) (y := 76) (pc := 5) (s := 2) (n := 14) (t := 102) (j := l) (v := .ref (ad (48 + 17 * l))) rfl hx (show ni_us 2 = true by decide +kernel) (show ni_kd 2 = 102 by decide +kernel) (show ni_ln 2 = 14 by decide +kernel) ⟨by decide, rfl⟩ rfl (by omega) (by decide) (ni_LR hx (show ni_us 2 = true by decide +kernel) (by decide +kernel) (by omega)) rfl rfl ?_
  refine wp_St (ls' := [.ref (ad 0), ni_z (l : Int), ni_z c, .ref (ad (48 + 17 * l)), ni_J]) rfl rfl rfl ?_
  refine wp_Ld rfl rfl rfl ?_
  refine ws_Get (v := ni_z (A (48 + 17 * l) 2)) rfl hx hli.1 hli.2 rfl rfl rfl ?_
  refine wp_St (ls' := [.ref (ad 0), ni_z (l : Int), ni_z c, .ref (ad (48 + 17 * l)), ni_z (A (48 + 17 * l) 2)]) rfl rfl rfl ?_
  refine wp_Ld rfl rfl rfl ?_
  refine wp_Ld rfl rfl rfl ?_
  refine ws_Put (q := 18) (y := 76) (pc := 15) rfl hx hli.1 hli.2 rfl rfl (fun _ => rfl) rfl (fun z _ => by cases z) fun M1 hx1 => ?_
  have hx1' : ni_Sx St M ad rw cp M1 rw cp (ni_u2 A (48 + 17 * l) 2 c) (ni_live (ni_u2 A (48 + 17 * l) 2 c)) := ⟨ni_RepC hx1.1 (ni_clU (ni_clR A) hli.1 hli.2 rfl), hx1.2⟩
  have q0 := nx_Q0 h hx1'
  clear hx1 hx1'
  generalize A (48 + 17 * l) 2 = be at hc2 ⊢
  revert h hCO q0 w0 w1 w5 c0 c1 g01 g02
  generalize ni_u2 A (48 + 17 * l) 2 c = A1
  intro h hCO g01 g02 w0 w1 w5 c0 c1 q0
  have hend : ∀ M2, nx_Q St own A1 e 2 M ad rw cp M2 → wp_G xs 6 76 47 [.ref (ad 0), ni_z (l : Int), ni_z c, .ref (ad (48 + 17 * l)), ni_z be] [] M2 (fun u M' => (∃ x : Int, u = some (ni_z x)) ∧ nx_Q St own A1 e 2 M ad rw cp M') := fun M2 q2 => by
    refine wp_Ld rfl rfl rfl ?_
    exact wp_R rfl rfl ⟨⟨_, rfl⟩, q2⟩
  obtain ⟨a, ha⟩ : ∃ a : Nat, (a : Int) = A1 (48 + 17 * l) 0 := ⟨(A1 (48 + 17 * l) 0).toNat, by omega⟩
  obtain ⟨b, hbb⟩ : ∃ b : Nat, (b : Int) = A1 (48 + 17 * l) 1 := ⟨(A1 (48 + 17 * l) 1).toNat, by omega⟩
  refine wp_Ld rfl rfl rfl ?_
  refine wp_Ld rfl rfl rfl ?_
  by_cases k1 : c = be
  · refine wp_Ic true rfl (zc_eq_t ⟨by omega, by omega⟩ ⟨by omega, by omega⟩ k1) ?_
    exact hend _ (nx_QM q0 (by omega))
  · refine wp_Ic false rfl (zc_eq_f ⟨by omega, by omega⟩ ⟨by omega, by omega⟩ k1) ?_
    refine wp_Ld rfl rfl rfl ?_
    refine nx_getL rfl q0 hl (by omega) rfl ?_
    by_cases k2 : A1 (48 + 17 * l) 5 = 0
    · refine wp_If true rfl (zf_eq_t ⟨by omega, by omega⟩ k2) ?_
      exact hend _ (nx_QM q0 (by omega))
    · refine wp_If false rfl (zf_eq_f ⟨by omega, by omega⟩ k2) ?_
      refine wp_Ld rfl rfl rfl ?_
      refine wp_Ld rfl rfl rfl ?_
      refine nx_getL (x := (a : Int)) rfl q0 hl (by omega) ha.symm ?_
      obtain ⟨v0, n0⟩ := nx_net q0
      refine wp_V (r := []) (as := [ni_z (a : Int)]) rfl rfl rfl n0 (Nat.le_of_ble_eq_true rfl) (nx_thenW q0 hCO (by omega) (by omega) (by have := hown a; omega) (by omega)) ?_
      rintro u1 M2 ⟨hu1, q1⟩
      rw [hu1]
      refine wp_Ld rfl rfl rfl ?_
      refine wp_Ld rfl rfl rfl ?_
      refine nx_getL (x := (b : Int)) rfl q1 hl (by omega) hbb.symm ?_
      obtain ⟨v1, n1⟩ := nx_net q1
      refine wp_V (r := []) (as := [ni_z (b : Int)]) rfl rfl rfl n1 (Nat.le_of_ble_eq_true rfl) (nx_thenW q1 hCO (by omega) (by omega) (by have := hown b; omega) (by omega)) ?_
      rintro u2 M3 ⟨hu2, q2⟩
      rw [hu2]
      exact hend _ q2
/-- a new network -/
theorem mt_newNetwork {e p : Int} {r n : Nat} (hR : ni_Rep St M ad rw cp A (ni_live A)) (hn : A 4 3 = n) (hn24 : n < 24) (h : nq_Inv St own (ni_u2 (ni_u2 (ni_u2 (ni_u2 A 5 n r) 6 n p) 7 n (-1)) 4 3 ((n : Int) + 1)) e) (hCO : nq_CO (ni_u2 (ni_u2 (ni_u2 (ni_u2 A 5 n r) 6 n p) 7 n (-1)) 4 3 ((n : Int) + 1))) (hr : r < 8) (hrc : (r : Int) < A 0 1) (hown : ∀ x, own x ≤ 800000) (hb : M.1.length + 57350 ≤ 900000 + ni_gz cp) : wp_C xs 7 86 [.ref (ad 0), ni_z (r : Int), ni_z p] M (fun u M' => (∃ x : Int, u = some (ni_z x)) ∧ nx_Q St own (ni_u2 (ni_u2 (ni_u2 (ni_u2 A 5 n r) 6 n p) 7 n (-1)) 4 3 ((n : Int) + 1)) e 1 M ad rw cp M') := by
  have hx : ni_Sx St M ad rw cp M rw cp A (ni_live A) := ⟨hR, ni_KpR⟩
  refine wp_enter (Nat.le_of_ble_eq_true rfl) (ls := [.ref (ad 0), ni_z (r : Int), ni_z p, ni_J]) rfl ?_
  refine wp_Ld rfl rfl rfl ?_
  refine ws_Get (v := .ref (ad 4)) rfl hx (show ni_us 0 = true by decide +kernel) (show ni_kd 0 = 4 by decide +kernel) rfl rfl rfl ?_
  refine wp_Ld rfl rfl rfl ?_
  refine wp_Ld rfl rfl rfl ?_
  refine wp_P (g := ni_gPush (.int (-1)) 7) rfl (wp_push (z := -1) rfl) ?_
  obtain ⟨v8, A8, ⟨hv8, hA8⟩, hD8⟩ := mt_add (xs := xs) (St := St) (A := A) (q := 4) (n := n) (a := (r : Int)) (b := p) (c := -1) (by decide +kernel) (by decide +kernel) hn hn24
  refine ws_V (q := 10) (y := 86) (pc := 7) (s := 4) (r := []) (as := [ni_z (r : Int), ni_z p, ni_z (-1)]) rfl rfl rfl hx (ni_clR A) (show ni_us 4 = true by decide +kernel) (show ni_kd 4 = 6 by decide +kernel) rfl (Nat.le_of_ble_eq_true rfl) (ni_Dup hD8 (by decide)) rfl fun M8 rw8 cp8 hx8 => ?_
  rw [hv8]
  have hA8' : A8 = ni_u2 (ni_u2 (ni_u2 (ni_u2 A 5 n r) 6 n p) 7 n (-1)) 4 3 ((n : Int) + 1) := hA8
  have g01 : A8 0 1 = A 0 1 := by rw [hA8', ni_u2n (by omega), ni_u2n (by omega), ni_u2n (by omega), ni_u2n (by omega)]
  rw [← hA8'] at h hCO ⊢
  have q0 := nx_Q0 h hx8
  refine wp_St (ls' := [.ref (ad 0), ni_z (r : Int), ni_z p, ni_z (n : Int)]) rfl rfl rfl ?_
  refine wp_Ld rfl rfl rfl ?_
  refine wp_Ld rfl rfl rfl ?_
  obtain ⟨v0, n0⟩ := nx_net q0
  refine wp_V (r := []) (as := [ni_z (r : Int)]) rfl rfl rfl n0 (Nat.le_of_ble_eq_true rfl) (nx_thenW q0 hCO hr (by omega) (by have := hown r; omega) (by omega)) ?_
  rintro u1 M2 ⟨hu1, q1⟩
  rw [hu1]
  refine wp_Ld rfl rfl rfl ?_
  exact wp_R rfl rfl ⟨⟨_, rfl⟩, q1⟩
end NXL
