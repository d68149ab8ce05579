/-! WHAT THE STATEMENT GIVES OF THE START -/
section NSTA
set_option maxRecDepth 100000
set_option maxHeartbeats 4000000
theorem ni_htb {s : State} {args : Array Value} (hts : ∀ w ∈ lw_tbl, w.before args s = true) : ∀ w ∈ ni_tb, w.before args s = true := fun w h => hts w (List.mem_filter.mp h).1
theorem ni_clss {s : State} {args : Array Value} (hts : ∀ w ∈ lw_tbl, w.before args s = true) : ∃ (dC : Nat → ClassId) (dI : Nat → Nat → Nat), ∀ (k : Nat) (q : vw_C), vwCl[k]? = some q → u_Kn s q.1 q.2.1 q.2.2 (dC k) (dI k) := by
  obtain ⟨c0, i0, h0⟩ := u_known (C := RX0) (T := TX0) (N := 19) (n := 19) (ni_htb hts) ni_uX0 (hts _ (List.mem_of_getElem? (i := 94) (by decide +kernel)))
  obtain ⟨c1, i1, h1⟩ := u_known (C := RX1) (T := TX1) (N := 5) (n := 5) (ni_htb hts) ni_uX1 (hts _ (List.mem_of_getElem? (i := 306) (by decide +kernel)))
  obtain ⟨c2, i2, h2⟩ := u_known (C := RX2) (T := TX2) (N := 5) (n := 5) (ni_htb hts) ni_uX2 (hts _ (List.mem_of_getElem? (i := 190) (by decide +kernel)))
  obtain ⟨c3, i3, h3⟩ := u_known (C := RX3) (T := TX3) (N := 8) (n := 8) (ni_htb hts) ni_uX3 (hts _ (List.mem_of_getElem? (i := 178) (by decide +kernel)))
  obtain ⟨c4, i4, h4⟩ := u_known (C := RX4) (T := TX4) (N := 9) (n := 9) (ni_htb hts) ni_uX4 (hts _ (List.mem_of_getElem? (i := 58) (by decide +kernel)))
  obtain ⟨c5, i5, h5⟩ := u_known (C := RX6) (T := TX6) (N := 14) (n := 14) (ni_htb hts) ni_uX6 (hts _ (List.mem_of_getElem? (i := 184) (by decide +kernel)))
  obtain ⟨c6, i6, h6⟩ := u_known (C := RX8) (T := TX8) (N := 4) (n := 4) (ni_htb hts) ni_uX8 (hts _ (List.mem_of_getElem? (i := 70) (by decide +kernel)))
  obtain ⟨c7, i7, h7⟩ := u_known (C := RX9) (T := TX9) (N := 6) (n := 6) (ni_htb hts) ni_uX9 (hts _ (List.mem_of_getElem? (i := 304) (by decide +kernel)))
  obtain ⟨c8, i8, h8⟩ := u_known (C := RX10) (T := TX10) (N := 4) (n := 4) (ni_htb hts) ni_uX10 (hts _ (List.mem_of_getElem? (i := 339) (by decide +kernel)))
  obtain ⟨c9, i9, h9⟩ := u_known (C := RX11) (T := TX11) (N := 2) (n := 2) (ni_htb hts) ni_uX11 (hts _ (List.mem_of_getElem? (i := 50) (by decide +kernel)))
  refine ⟨fun k => match k with | 0 => c0 | 1 => c1 | 2 => c2 | 3 => c3 | 4 => c4 | 5 => c5 | 6 => c6 | 7 => c7 | 8 => c8 | _ => c9, fun k => match k with | 0 => i0 | 1 => i1 | 2 => i2 | 3 => i3 | 4 => i4 | 5 => i5 | 6 => i6 | 7 => i7 | 8 => i8 | _ => i9, ?_⟩
  intro k q hq
  match k, hq with
  | 0, hq => cases hq; exact h0
  | 1, hq => cases hq; exact h1
  | 2, hq => cases hq; exact h2
  | 3, hq => cases hq; exact h3
  | 4, hq => cases hq; exact h4
  | 5, hq => cases hq; exact h5
  | 6, hq => cases hq; exact h6
  | 7, hq => cases hq; exact h7
  | 8, hq => cases hq; exact h8
  | 9, hq => cases hq; exact h9
  | k + 10, hq =>
    have hl := (List.getElem?_eq_some_iff.mp hq).1
    have h2 : vwCl.length = 10 := rfl
    omega
theorem ni_arrs {s : State} {args : Array Value} (hts : ∀ w ∈ lw_tbl, w.before args s = true) : ∃ dA : Nat → ClassId, (∀ (k : Nat) (ty : FieldType), ni_aks[k]? = some ty → ArrOfT s (dA k) ty ∧ va_RA s (dA k) ty) ∧ (∃ kk, s.vm.classes[dA 5]? = some kk ∧ kk.kind = .array (dA 0) (.array .int)) ∧ ∃ k2, s.vm.classes[dA 0]? = some k2 := by
  obtain ⟨c0, k0, m0, e0, b0, d0⟩ := Cond.arrayClass_spec (type := .int) (hts _ (List.mem_of_getElem? (i := 93) (by decide +kernel)))
  have h0 : ArrOfT s c0 .int ∧ va_RA s c0 .int := ⟨fun n z => ⟨fun k h => (by cases h), k0, b0, m0, d0⟩, e0⟩
  obtain ⟨m1, c1, k1, a1, -, b1, d1, e1⟩ := Cond.arrayOver_spec (n := "Switchyard$Router") (hts _ (List.mem_of_getElem? (i := 64) (by decide +kernel)))
  have h1 : ArrOfT s c1 (.object "Switchyard$Router") ∧ va_RA s c1 (.object "Switchyard$Router") := ⟨fun n z => ⟨fun k h => (by cases h), k1, b1, m1, d1⟩, ⟨k1, m1, b1, d1, a1, e1⟩⟩
  obtain ⟨m2, c2, k2, a2, -, b2, d2, e2⟩ := Cond.arrayOver_spec (n := "Switchyard$Link") (hts _ (List.mem_of_getElem? (i := 66) (by decide +kernel)))
  have h2 : ArrOfT s c2 (.object "Switchyard$Link") ∧ va_RA s c2 (.object "Switchyard$Link") := ⟨fun n z => ⟨fun k h => (by cases h), k2, b2, m2, d2⟩, ⟨k2, m2, b2, d2, a2, e2⟩⟩
  obtain ⟨m3, c3, k3, a3, -, b3, d3, e3⟩ := Cond.arrayOver_spec (n := "Switchyard$Flow") (hts _ (List.mem_of_getElem? (i := 68) (by decide +kernel)))
  have h3 : ArrOfT s c3 (.object "Switchyard$Flow") ∧ va_RA s c3 (.object "Switchyard$Flow") := ⟨fun n z => ⟨fun k h => (by cases h), k3, b3, m3, d3⟩, ⟨k3, m3, b3, d3, a3, e3⟩⟩
  obtain ⟨m4, c4, k4, a4, -, b4, d4, e4⟩ := Cond.arrayOver_spec (n := "Switchyard$Letter") (hts _ (List.mem_of_getElem? (i := 196) (by decide +kernel)))
  have h4 : ArrOfT s c4 (.object "Switchyard$Letter") ∧ va_RA s c4 (.object "Switchyard$Letter") := ⟨fun n z => ⟨fun k h => (by cases h), k4, b4, m4, d4⟩, ⟨k4, m4, b4, d4, a4, e4⟩⟩
  obtain ⟨m5, c5, k5, a5, -, b5, d5, e5⟩ := arrayOverA_spec (t := .int) (hts _ (List.mem_of_getElem? (i := 1042) (by decide +kernel)))
  have h5 : ArrOfT s c5 (.array .int) ∧ va_RA s c5 (.array .int) := ⟨fun n z => ⟨fun k h => (by cases h), k5, b5, m5, d5⟩, e5⟩
  have em : m5 = c0 := Option.some.inj (a5.symm.trans e0)
  subst em
  refine ⟨fun k => match k with | 0 => m5 | 1 => c1 | 2 => c2 | 3 => c3 | 4 => c4 | _ => c5, ?_, ⟨k5, b5, d5⟩, ⟨k0, b0⟩⟩
  intro k ty hk
  match k, hk with
  | 0, hk => cases hk; exact h0
  | 1, hk => cases hk; exact h1
  | 2, hk => cases hk; exact h2
  | 3, hk => cases hk; exact h3
  | 4, hk => cases hk; exact h4
  | 5, hk => cases hk; exact h5
  | k + 6, hk =>
    have hl := (List.getElem?_eq_some_iff.mp hk).1
    have h2 : ni_aks.length = 6 := rfl
    omega
theorem ni_start {s : State} {b : Nat} {X : List Int32} (hts : ∀ w ∈ lw_tbl, w.before #[Value.ref b] s = true) (hX : va_X b X.length (fun j => X.getD j 0) s s.heap) (hbl : b < s.heap.size) (hgv : (Jvm.Cond.and given_1 narrow_1).before #[Value.ref b] s = true) : ∃ w : ni_W, ni_B w = s.heap.size ∧ w.2.2.2.2 0 = b ∧ ni_Kn w s ∧ ni_Ev w X s s.heap := by
  have hs := flat_of_before _ hgv
  obtain ⟨dC, dI, hC⟩ := ni_clss hts
  obtain ⟨dA, hA, ⟨kk, hk1, hk2⟩, k2, hk3⟩ := ni_arrs hts
  have hu1 : (Cond.isRef (.static Bundle.tN "UNASSIGNED_STACK" Bundle.steD)).before #[Value.ref b] s = true := hs _ (by decide +kernel)
  have hu2 : (Cond.isRef (.static Bundle.tN "SUPPRESSED_SENTINEL" Bundle.listD)).before #[Value.ref b] s = true := hs _ (by decide +kernel)
  refine ⟨(dC, dI, dA, s.heap.size, fun _ => b), rfl, rfl, ⟨⟨hC, fun k q hq => ?_⟩, ?_, ?_, ?_, ?_, ?_, ?_⟩, hX, hbl, ?_, ?_, ?_, trivial⟩
  · simp only [ni_tys, List.getElem?_mapIdx] at hq
    cases hty : ni_aks[k]? with
    | none => rw [hty] at hq; cases hq
    | some ty =>
      rw [hty] at hq
      cases hq
      exact hA k ty hty
  · exact List.forall_mem_cons.mpr ⟨va_Nw.of rfl (hts _ (List.mem_of_getElem? (i := 95) (by decide +kernel))), List.forall_mem_cons.mpr ⟨va_Nw.of rfl (hts _ (List.mem_of_getElem? (i := 179) (by decide +kernel))), List.forall_mem_cons.mpr ⟨va_Nw.of rfl (hts _ (List.mem_of_getElem? (i := 340) (by decide +kernel))), fun _ h => absurd h List.not_mem_nil⟩⟩⟩
  · exact List.forall_mem_cons.mpr ⟨va_AO.of (hts _ (List.mem_of_getElem? (i := 64) (by decide +kernel))), List.forall_mem_cons.mpr ⟨va_AO.of (hts _ (List.mem_of_getElem? (i := 66) (by decide +kernel))), List.forall_mem_cons.mpr ⟨va_AO.of (hts _ (List.mem_of_getElem? (i := 68) (by decide +kernel))), List.forall_mem_cons.mpr ⟨va_AO.of (hts _ (List.mem_of_getElem? (i := 196) (by decide +kernel))), fun _ h => absurd h List.not_mem_nil⟩⟩⟩⟩
  · exact fun _ h => absurd h List.not_mem_nil
  · exact fun _ h => absurd h List.not_mem_nil
  · exact List.forall_mem_cons.mpr ⟨⟨kk, _, rfl, hk1, hk2, k2, hk3⟩, fun _ h => absurd h List.not_mem_nil⟩
  · exact List.forall_mem_cons.mpr ⟨(show ni_AOA .int s from (hts (Cond.arrayOver (.array .int)) (List.mem_of_getElem? (i := 1042) (by decide +kernel)) : (Cond.arrayOver (.array .int)).before #[Value.ref b] s = true)), fun _ h => absurd h List.not_mem_nil⟩
  · exact vx_Zqof (hts _ (List.mem_of_getElem? (i := 469) (by decide +kernel))) (hts _ (List.mem_of_getElem? (i := 38) (by decide +kernel))) hu1 (fun a h1 h2 => absurd h1 (Nat.not_lt.mpr h2))
  · exact vx_Zqof (hts _ (List.mem_of_getElem? (i := 471) (by decide +kernel))) (hts _ (List.mem_of_getElem? (i := 38) (by decide +kernel))) hu2 (fun a h1 h2 => absurd h1 (Nat.not_lt.mpr h2))
  · exact fun _ h => absurd h List.not_mem_nil
end NSTA
