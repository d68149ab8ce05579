/-! WHAT IS FORESEEN -/
section NFO
variable {xs : List Int32} {St : Nat → Option ni_C} {A B : Nat → Nat → Int} {m : Nat} {ad ad' : Nat → Nat}
/-- a tick of ahead -/
theorem np_tick {own : Nat → Int} {e : Int} (h : nq_Inv St own A e) {i : Nat} (he : e + 400 * ((i : Int) + 1) ≤ 600000) (ht : A 0 0 + ((i : Int) + 1) ≤ 800000) {M : ni_H} {rw cp rw2 cp2 : Nat → Nat} (hP : np_R St M ad rw cp ad' rw2 cp2 A (nq_it xs St own e A i)) : wp_C xs 24 96 [.ref (ad' 0)] M (fun u M' => u = none ∧ ∃ rw3 cp3, np_R St M' ad rw cp ad' rw3 cp3 A (nq_it xs St own e A (i + 1)) ∧ np_K M ad rw cp ad' rw2 cp2 M' rw cp rw3 cp3) := by
  have g := ni_Dup (nq_itD (xs := xs) h i he ht).1 (show 7 ≤ 24 by decide) M ad' rw2 cp2 hP.2.1
  obtain ⟨u, M', g1, g2, rw3, cp3, g3, g4⟩ := g
  exact ⟨u, M', g1, g2, rw3, cp3, np_sw (np_go (np_sw hP) g3 g4), np_Kr g4⟩
/-- the ticks of deliveredIn -/
theorem np_delL {own : Nat → Int} {e : Int} (hm : St m = some (9, [.ref (ad 0), .ref (ad' 0)])) (h : nq_Inv St own A e) {f k0 : Nat} (hf : f < 12) (hk : k0 ≤ 60) (he : e + 400 * k0 ≤ 600000) (ht : A 0 0 + k0 ≤ 800000) {M0 : ni_H} {rw cp rw' cp' rw1 cp1 : Nat → Nat} : ∀ k i : Nat, i + k = k0 → ∀ M rw2 cp2, np_R St M ad rw1 cp1 ad' rw2 cp2 A (nq_it xs St own e A i) → np_K M0 ad rw cp ad' rw' cp' M rw1 cp1 rw2 cp2 → wp_G xs 24 15 25 [.ref m, ni_z (f : Int), ni_z (k0 : Int), ni_z (i : Int)] [] M (fun u M' => u = some (ni_z ((nq_it xs St own e A k0) (12 + 3 * f) 13)) ∧ ∃ rw3 cp3 rw4 cp4, np_R St M' ad rw3 cp3 ad' rw4 cp4 A (nq_it xs St own e A k0) ∧ np_K M0 ad rw cp ad' rw' cp' M' rw3 cp3 rw4 cp4) := by
  intro k
  induction k with
  | zero =>
    intro i hi M rw2 cp2 hP hK
    have hin : i = k0 := by omega
    subst hin
    have hx : ni_Sx St M ad' rw2 cp2 M rw2 cp2 (nq_it xs St own e A i) (ni_live (nq_it xs St own e A i)) := ⟨hP.2.1, ni_KpR⟩
    refine wp_Ld rfl rfl rfl ?_
    refine wp_Ld rfl rfl rfl ?_
    refine wp_Ic true rfl (zc_ge_t ⟨by omega, by omega⟩ ⟨by omega, by omega⟩ (by omega)) ?_
    refine wp_Ld rfl rfl rfl ?_
    refine wp_Get (v := .ref (ad' 0)) rfl (hP.1.2.2.2.2.1 m _ hm).1 rfl ?_
    refine ws_Get (v := .ref (ad' 3)) rfl hx (show ni_us 0 = true by decide +kernel) (show ni_kd 0 = 4 by decide +kernel) rfl rfl rfl ?_
    refine wp_Ld rfl rfl rfl ?_
    refine ws_Qld (q := 52) (y := 15) (pc := 51) (s := 3) (n := 12) (t := 103) (j := f) (v := .ref (ad' (12 + 3 * f))) rfl hx (show ni_us 3 = true by decide +kernel) (show ni_kd 3 = 103 by decide +kernel) (show ni_ln 3 = 12 by decide +kernel) ⟨by decide, rfl⟩ rfl (by omega) (by decide) (ni_LR hx (show ni_us 3 = true by decide +kernel) (by decide +kernel) (by omega)) rfl rfl ?_
    refine ws_Get (v := ni_z ((nq_it xs St own e A i) (12 + 3 * f) 13)) rfl hx (ni_flS f hf).1 (ni_flS f hf).2 rfl rfl rfl ?_
    exact wp_R rfl rfl ⟨rfl, _, _, _, _, hP, hK⟩
  | succ k ih =>
    intro i hi M rw2 cp2 hP hK
    refine wp_Ld rfl rfl rfl ?_
    refine wp_Ld rfl rfl rfl ?_
    refine wp_Ic false rfl (zc_ge_f ⟨by omega, by omega⟩ ⟨by omega, by omega⟩ (by omega)) ?_
    refine wp_Ld rfl rfl rfl ?_
    refine wp_Get (v := .ref (ad' 0)) rfl (hP.1.2.2.2.2.1 m _ hm).1 rfl ?_
    obtain ⟨vs, w1, _⟩ := hP.2.1.2.1 0 (show ni_us 0 = true by decide +kernel)
    rw [show ni_pl ad' rw2 0 = ad' 0 from rfl] at w1
    refine wp_V (r := []) (as := []) rfl rfl rfl w1 (Nat.le_of_ble_eq_true rfl) (np_tick h (by omega) (by omega) hP) ?_
    rintro u M2 ⟨hu, rw3, cp3, hP3, hK3⟩
    rw [hu]
    refine wp_Inc (ls' := [.ref m, ni_z (f : Int), ni_z (k0 : Int), ni_z ((i : Int) + 1)]) (x' := (i : Int) + 1) rfl rfl (zi_inc (z := 1) rfl) rfl ?_
    refine wp_P (g := ni_gGo 25) rfl rfl ?_
    exact ih (i + 1) (by omega) M2 rw3 cp3 hP3 (np_KT hK hK3)
/-- DELIVEREDIN: what ahead has delivered behind the ticks that the net will have; the net stays -/
theorem fc_deliveredIn {own : Nat → Int} {e : Int} (hm : St m = some (9, [.ref (ad 0), .ref (ad' 0)])) (h : nq_Inv St own A e) {f k0 : Nat} (hf : f < 12) (hfc : (f : Int) < A 0 3) (hk : 1 ≤ k0 ∧ k0 ≤ 60) (he : e + 400 * k0 ≤ 600000) (ht : A 0 0 + k0 ≤ 800000) (hid : ∀ r : Nat, r < 8 → B (286 + 11 * r) 0 = r) (hdead : ∀ s j, nq_dead A s → B s j = A s j) {M : ni_H} {rw cp rw' cp' : Nat → Nat} (hP : np_R St M ad rw cp ad' rw' cp' A B) : wp_C xs 25 15 [.ref m, ni_z (f : Int), ni_z (k0 : Int)] M (fun u M' => u = some (ni_z ((nq_it xs St own e A k0) (12 + 3 * f) 13)) ∧ ∃ rw3 cp3 rw4 cp4, np_R St M' ad rw3 cp3 ad' rw4 cp4 A (nq_it xs St own e A k0) ∧ np_K M ad rw cp ad' rw' cp' M' rw3 cp3 rw4 cp4) := by
  refine wp_enter (Nat.le_of_ble_eq_true rfl) (ls := [.ref m, ni_z (f : Int), ni_z (k0 : Int), ni_J]) rfl ?_
  refine wp_Ld rfl rfl rfl ?_
  refine wp_Ld rfl rfl rfl ?_
  obtain ⟨v, A', ⟨hv, hA⟩, hF⟩ := fc_flow (xs := xs) (A := A) (Z := fun a => a 0 = ad 0) hm (fun _ hz => hz) (i := (f : Int)) ⟨by omega, hfc⟩ h.1.1.2
  subst hv
  rw [hA] at hF
  refine wp_V (r := []) (as := [ni_z (f : Int)]) rfl rfl rfl (hP.1.2.2.2.2.1 m _ hm).1 (Nat.le_of_ble_eq_true rfl) (wp_up (hF M ad rw cp rfl hP.1) (by decide)) ?_
  rintro u M1 ⟨hu, rw1, cp1, hR1, hK1⟩
  rw [hu]
  have hP1 := np_go hP hR1 hK1
  have hQ1 : np_K M ad rw cp ad' rw' cp' M1 rw1 cp1 rw' cp' := np_Kl hK1
  refine wp_Ld rfl rfl rfl ?_
  refine wp_P (g := ni_gPush (.int 1) 7) rfl (wp_push (z := 1) rfl) ?_
  refine wp_P (g := ni_gPush (.int 60) 9) rfl (wp_push (z := 60) rfl) ?_
  refine wp_S (r := []) (as := [ni_z (k0 : Int), ni_z 1, ni_z 60]) rfl (Nat.le_of_ble_eq_true rfl) rfl rfl (Nat.le_of_ble_eq_true rfl) (wp_up (mt_chkR (xs := xs) (i := (k0 : Int)) (a := 1) (b := 60) (by omega) (by omega) M1) (by decide)) ?_
  rintro u1 M1' ⟨hu1, hM1⟩
  rw [hu1, hM1]
  refine wp_Ld rfl rfl rfl ?_
  refine wp_Get (v := .ref (ad' 0)) rfl (hP1.1.2.2.2.2.1 m _ hm).1 rfl ?_
  refine wp_Ld rfl rfl rfl ?_
  refine wp_Get (v := .ref (ad 0)) rfl (hP1.1.2.2.2.2.1 m _ hm).1 rfl ?_
  obtain ⟨vs, w1, _⟩ := hP1.2.1.2.1 0 (show ni_us 0 = true by decide +kernel)
  rw [show ni_pl ad' rw' 0 = ad' 0 from rfl] at w1
  refine wp_V (r := []) (as := [.ref (ad 0)]) rfl rfl rfl w1 (Nat.le_of_ble_eq_true rfl) (wp_up (np_copy hP1 (nq_ok h) hid hdead) (by decide)) ?_
  rintro u2 M2 ⟨hu2, rw2, cp2, hP2, hK2⟩
  rw [hu2]
  refine wp_P (g := ni_gPush (.int 0) 24) rfl (wp_push (z := 0) rfl) ?_
  refine wp_St (ls' := [.ref m, ni_z (f : Int), ni_z (k0 : Int), ni_z ((0 : Nat) : Int)]) rfl rfl rfl ?_
  exact np_delL hm h hf hk.2 he ht k0 0 (by omega) M2 rw2 cp2 hP2 (np_KT hQ1 (np_Kr hK2))
end NFO
