/-! WHAT THE STATEMENT GIVES OF THE START -/
section NSTA
set_option maxRecDepth 100000
set_option maxHeartbeats 4000000
theorem ni_htb {s : State} {args : Array Value} (hts : ∀ w ∈ lw_tbl, w.before args s = true) : ∀ w ∈ ni_tb, w.before args s = true := fun w h => hts w (List.mem_filter.mp h).1
theorem ni_clss {s : State} {args : Array Value} (hts : ∀ w ∈ lw_tbl, w.before args s = true) : ∃ (dC : Nat → ClassId) (dI : Nat → Nat → Nat), ∀ (k : Nat) (q : vw_C), vwCl[k]? = some q → u_Kn s q.1 q.2.1 q.2.2 (dC k) (dI k) := by
  obtain ⟨c0, i0, h0⟩ := u_known (C := RJx4a65c) (T := TJx4a65c) (N := 3) (n := 3) (ni_htb hts) ni_uJx4a65c (hts _ (List.mem_of_getElem? (i := 1380) (by decide +kernel)))
  obtain ⟨c1, i1, h1⟩ := u_known (C := RX0) (T := TX0) (N := 19) (n := 19) (ni_htb hts) ni_uX0 (hts _ (List.mem_of_getElem? (i := 144) (by decide +kernel)))
  obtain ⟨c2, i2, h2⟩ := u_known (C := RX1) (T := TX1) (N := 5) (n := 5) (ni_htb hts) ni_uX1 (hts _ (List.mem_of_getElem? (i := 356) (by decide +kernel)))
  obtain ⟨c3, i3, h3⟩ := u_known (C := RX2) (T := TX2) (N := 5) (n := 5) (ni_htb hts) ni_uX2 (hts _ (List.mem_of_getElem? (i := 240) (by decide +kernel)))
  obtain ⟨c4, i4, h4⟩ := u_known (C := RX3) (T := TX3) (N := 8) (n := 8) (ni_htb hts) ni_uX3 (hts _ (List.mem_of_getElem? (i := 228) (by decide +kernel)))
  obtain ⟨c5, i5, h5⟩ := u_known (C := RX4) (T := TX4) (N := 9) (n := 9) (ni_htb hts) ni_uX4 (hts _ (List.mem_of_getElem? (i := 106) (by decide +kernel)))
  obtain ⟨c6, i6, h6⟩ := u_known (C := RX6) (T := TX6) (N := 14) (n := 14) (ni_htb hts) ni_uX6 (hts _ (List.mem_of_getElem? (i := 234) (by decide +kernel)))
  obtain ⟨c7, i7, h7⟩ := u_known (C := RX8) (T := TX8) (N := 4) (n := 4) (ni_htb hts) ni_uX8 (hts _ (List.mem_of_getElem? (i := 118) (by decide +kernel)))
  obtain ⟨c8, i8, h8⟩ := u_known (C := RX9) (T := TX9) (N := 6) (n := 6) (ni_htb hts) ni_uX9 (hts _ (List.mem_of_getElem? (i := 354) (by decide +kernel)))
  obtain ⟨c9, i9, h9⟩ := u_known (C := RX10) (T := TX10) (N := 4) (n := 4) (ni_htb hts) ni_uX10 (hts _ (List.mem_of_getElem? (i := 389) (by decide +kernel)))
  obtain ⟨c10, i10, h10⟩ := u_known (C := RX11) (T := TX11) (N := 2) (n := 2) (ni_htb hts) ni_uX11 (hts _ (List.mem_of_getElem? (i := 98) (by decide +kernel)))
  obtain ⟨c11, i11, h11⟩ := u_known (C := RX12) (T := TX12) (N := 4) (n := 4) (ni_htb hts) ni_uX12 (hts _ (List.mem_of_getElem? (i := 2075) (by decide +kernel)))
  obtain ⟨c12, i12, h12⟩ := u_known (C := RX13) (T := TX13) (N := 20) (n := 20) (ni_htb hts) ni_uX13 (hts _ (List.mem_of_getElem? (i := 1851) (by decide +kernel)))
  obtain ⟨c13, i13, h13⟩ := u_known (C := RX14) (T := TX14) (N := 6) (n := 6) (ni_htb hts) ni_uX14 (hts _ (List.mem_of_getElem? (i := 1689) (by decide +kernel)))
  obtain ⟨c14, i14, h14⟩ := u_known (C := RX15) (T := TX15) (N := 24) (n := 24) (ni_htb hts) ni_uX15 (hts _ (List.mem_of_getElem? (i := 1372) (by decide +kernel)))
  obtain ⟨c15, i15, h15⟩ := u_known (C := RX16) (T := TX16) (N := 5) (n := 5) (ni_htb hts) ni_uX16 (hts _ (List.mem_of_getElem? (i := 2027) (by decide +kernel)))
  obtain ⟨c16, i16, h16⟩ := u_known (C := RX17) (T := TX17) (N := 13) (n := 13) (ni_htb hts) ni_uX17 (hts _ (List.mem_of_getElem? (i := 1608) (by decide +kernel)))
  obtain ⟨c17, i17, h17⟩ := u_known (C := RX18) (T := TX18) (N := 2) (n := 2) (ni_htb hts) ni_uX18 (hts _ (List.mem_of_getElem? (i := 1734) (by decide +kernel)))
  obtain ⟨c18, i18, h18⟩ := u_known (C := RX19) (T := TX19) (N := 2) (n := 2) (ni_htb hts) ni_uX19 (hts _ (List.mem_of_getElem? (i := 1366) (by decide +kernel)))
  refine ⟨fun k => match k with | 0 => c0 | 1 => c1 | 2 => c2 | 3 => c3 | 4 => c4 | 5 => c5 | 6 => c6 | 7 => c7 | 8 => c8 | 9 => c9 | 10 => c10 | 11 => c11 | 12 => c12 | 13 => c13 | 14 => c14 | 15 => c15 | 16 => c16 | 17 => c17 | _ => c18, fun k => match k with | 0 => i0 | 1 => i1 | 2 => i2 | 3 => i3 | 4 => i4 | 5 => i5 | 6 => i6 | 7 => i7 | 8 => i8 | 9 => i9 | 10 => i10 | 11 => i11 | 12 => i12 | 13 => i13 | 14 => i14 | 15 => i15 | 16 => i16 | 17 => i17 | _ => i18, ?_⟩
  intro k q hq
  match k, hq with
  | 0, hq => cases hq; exact h0
  | 1, hq => cases hq; exact h1
  | 2, hq => cases hq; exact h2
  | 3, hq => cases hq; exact h3
  | 4, hq => cases hq; exact h4
  | 5, hq => cases hq; exact h5
  | 6, hq => cases hq; exact h6
  | 7, hq => cases hq; exact h7
  | 8, hq => cases hq; exact h8
  | 9, hq => cases hq; exact h9
  | 10, hq => cases hq; exact h10
  | 11, hq => cases hq; exact h11
  | 12, hq => cases hq; exact h12
  | 13, hq => cases hq; exact h13
  | 14, hq => cases hq; exact h14
  | 15, hq => cases hq; exact h15
  | 16, hq => cases hq; exact h16
  | 17, hq => cases hq; exact h17
  | 18, hq => cases hq; exact h18
  | k + 19, hq =>
    have hl := (List.getElem?_eq_some_iff.mp hq).1
    have h2 : vwCl.length = 19 := rfl
    omega
theorem ni_arrs {s : State} {args : Array Value} (hts : ∀ w ∈ lw_tbl, w.before args s = true) : ∃ dA : Nat → ClassId, (∀ (k : Nat) (ty : FieldType), ni_aks[k]? = some ty → ArrOfT s (dA k) ty ∧ va_RA s (dA k) ty) ∧ (∃ kk, s.vm.classes[dA 11]? = some kk ∧ kk.kind = .array (dA 0) (.array .int)) ∧ ∃ k2, s.vm.classes[dA 0]? = some k2 := by
  obtain ⟨c0, k0, m0, e0, b0, d0⟩ := Cond.arrayClass_spec (type := .int) (hts _ (List.mem_of_getElem? (i := 143) (by decide +kernel)))
  have h0 : ArrOfT s c0 .int ∧ va_RA s c0 .int := ⟨fun n z => ⟨fun k h => (by cases h), k0, b0, m0, d0⟩, e0⟩
  obtain ⟨c1, k1, m1, e1, b1, d1⟩ := Cond.arrayClass_spec (type := .long) (hts _ (List.mem_of_getElem? (i := 2367) (by decide +kernel)))
  have h1 : ArrOfT s c1 .long ∧ va_RA s c1 .long := ⟨fun n z => ⟨fun k h => (by cases h), k1, b1, m1, d1⟩, e1⟩
  obtain ⟨c2, k2, m2, e2, b2, d2⟩ := Cond.arrayClass_spec (type := .double) (hts _ (List.mem_of_getElem? (i := 2368) (by decide +kernel)))
  have h2 : ArrOfT s c2 .double ∧ va_RA s c2 .double := ⟨fun n z => ⟨fun k h => (by cases h), k2, b2, m2, d2⟩, e2⟩
  obtain ⟨c3, k3, m3, e3, b3, d3⟩ := Cond.arrayClass_spec (type := .boolean) (hts _ (List.mem_of_getElem? (i := 1405) (by decide +kernel)))
  have h3 : ArrOfT s c3 .boolean ∧ va_RA s c3 .boolean := ⟨fun n z => ⟨fun k h => (by cases h), k3, b3, m3, d3⟩, e3⟩
  obtain ⟨m4, c4, k4, a4, -, b4, d4, e4⟩ := Cond.arrayOver_spec (n := "Switchyard$Router") (hts _ (List.mem_of_getElem? (i := 112) (by decide +kernel)))
  have h4 : ArrOfT s c4 (.object "Switchyard$Router") ∧ va_RA s c4 (.object "Switchyard$Router") := ⟨fun n z => ⟨fun k h => (by cases h), k4, b4, m4, d4⟩, ⟨k4, m4, b4, d4, a4, e4⟩⟩
  obtain ⟨m5, c5, k5, a5, -, b5, d5, e5⟩ := Cond.arrayOver_spec (n := "Switchyard$Link") (hts _ (List.mem_of_getElem? (i := 114) (by decide +kernel)))
  have h5 : ArrOfT s c5 (.object "Switchyard$Link") ∧ va_RA s c5 (.object "Switchyard$Link") := ⟨fun n z => ⟨fun k h => (by cases h), k5, b5, m5, d5⟩, ⟨k5, m5, b5, d5, a5, e5⟩⟩
  obtain ⟨m6, c6, k6, a6, -, b6, d6, e6⟩ := Cond.arrayOver_spec (n := "Switchyard$Flow") (hts _ (List.mem_of_getElem? (i := 116) (by decide +kernel)))
  have h6 : ArrOfT s c6 (.object "Switchyard$Flow") ∧ va_RA s c6 (.object "Switchyard$Flow") := ⟨fun n z => ⟨fun k h => (by cases h), k6, b6, m6, d6⟩, ⟨k6, m6, b6, d6, a6, e6⟩⟩
  obtain ⟨m7, c7, k7, a7, -, b7, d7, e7⟩ := Cond.arrayOver_spec (n := "Switchyard$Letter") (hts _ (List.mem_of_getElem? (i := 246) (by decide +kernel)))
  have h7 : ArrOfT s c7 (.object "Switchyard$Letter") ∧ va_RA s c7 (.object "Switchyard$Letter") := ⟨fun n z => ⟨fun k h => (by cases h), k7, b7, m7, d7⟩, ⟨k7, m7, b7, d7, a7, e7⟩⟩
  obtain ⟨m8, c8, k8, a8, -, b8, d8, e8⟩ := Cond.arrayOver_spec (n := "SwitchyardModel$Port") (hts _ (List.mem_of_getElem? (i := 1378) (by decide +kernel)))
  have h8 : ArrOfT s c8 (.object "SwitchyardModel$Port") ∧ va_RA s c8 (.object "SwitchyardModel$Port") := ⟨fun n z => ⟨fun k h => (by cases h), k8, b8, m8, d8⟩, ⟨k8, m8, b8, d8, a8, e8⟩⟩
  obtain ⟨m9, c9, k9, a9, -, b9, d9, e9⟩ := Cond.arrayOver_spec (n := "SwitchyardModel$Letter") (hts _ (List.mem_of_getElem? (i := 1407) (by decide +kernel)))
  have h9 : ArrOfT s c9 (.object "SwitchyardModel$Letter") ∧ va_RA s c9 (.object "SwitchyardModel$Letter") := ⟨fun n z => ⟨fun k h => (by cases h), k9, b9, m9, d9⟩, ⟨k9, m9, b9, d9, a9, e9⟩⟩
  obtain ⟨m10, c10, k10, a10, -, b10, d10, e10⟩ := Cond.arrayOver_spec (n := "java/lang/Object") (hts _ (List.mem_of_getElem? (i := 1467) (by decide +kernel)))
  have h10 : ArrOfT s c10 (.object "java/lang/Object") ∧ va_RA s c10 (.object "java/lang/Object") := ⟨fun n z => ⟨fun k h => (by cases h), k10, b10, m10, d10⟩, ⟨k10, m10, b10, d10, a10, e10⟩⟩
  obtain ⟨m11, c11, k11, a11, -, b11, d11, e11⟩ := arrayOverA_spec (t := .int) (hts _ (List.mem_of_getElem? (i := 1409) (by decide +kernel)))
  have h11 : ArrOfT s c11 (.array .int) ∧ va_RA s c11 (.array .int) := ⟨fun n z => ⟨fun k h => (by cases h), k11, b11, m11, d11⟩, e11⟩
  have em : m11 = c0 := Option.some.inj (a11.symm.trans e0)
  subst em
  refine ⟨fun k => match k with | 0 => m11 | 1 => c1 | 2 => c2 | 3 => c3 | 4 => c4 | 5 => c5 | 6 => c6 | 7 => c7 | 8 => c8 | 9 => c9 | 10 => c10 | _ => c11, ?_, ⟨k11, b11, d11⟩, ⟨k0, b0⟩⟩
  intro k ty hk
  match k, hk with
  | 0, hk => cases hk; exact h0
  | 1, hk => cases hk; exact h1
  | 2, hk => cases hk; exact h2
  | 3, hk => cases hk; exact h3
  | 4, hk => cases hk; exact h4
  | 5, hk => cases hk; exact h5
  | 6, hk => cases hk; exact h6
  | 7, hk => cases hk; exact h7
  | 8, hk => cases hk; exact h8
  | 9, hk => cases hk; exact h9
  | 10, hk => cases hk; exact h10
  | 11, hk => cases hk; exact h11
  | k + 12, hk =>
    have hl := (List.getElem?_eq_some_iff.mp hk).1
    have h2 : ni_aks.length = 12 := rfl
    omega
theorem ni_start {s : State} {b : Nat} {X : List Int32} (hts : ∀ w ∈ lw_tbl, w.before #[Value.ref b] s = true) (hX : va_X b X.length (fun j => X.getD j 0) s s.heap) (hbl : b < s.heap.size) (hgv : (Jvm.Cond.and given_1 narrow_1).before #[Value.ref b] s = true) : ∃ w : ni_W, ni_B w = s.heap.size ∧ w.2.2.2.2 0 = b ∧ ni_Kn w s ∧ ni_Ev w X s s.heap := by
  have hs := flat_of_before _ hgv
  obtain ⟨dC, dI, hC⟩ := ni_clss hts
  obtain ⟨dA, hA, ⟨kk, hk1, hk2⟩, k2, hk3⟩ := ni_arrs hts
  have hal : (Cond.castable "java/util/ArrayList" "java/util/ArrayList").before #[Value.ref b] s = true := by
    have h1 := (hC 0 _ rfl).2
    have h2 := va_assign h1
    have h3 : s.vm.findClass "java/util/ArrayList" = some (dC 0) := h1.1
    simp [Cond.before, Cond.holds, Cond.value, h3, h2]
  have hex : (Cond.exactly (Term.static "java/util/ArrayList" "DEFAULTCAPACITY_EMPTY_ELEMENTDATA" "[Ljava/lang/Object;") "[Ljava/lang/Object;").before #[Value.ref b] s = true := hs _ (by decide +kernel)
  have hao : (Cond.arrayOf (Term.static "java/util/ArrayList" "DEFAULTCAPACITY_EMPTY_ELEMENTDATA" "[Ljava/lang/Object;") (.object "java/lang/Object")).before #[Value.ref b] s = true := hs _ (by decide +kernel)
  have hle : (Cond.eq (.length (Term.static "java/util/ArrayList" "DEFAULTCAPACITY_EMPTY_ELEMENTDATA" "[Ljava/lang/Object;")) (.int 0)).before #[Value.ref b] s = true := hs _ (by decide +kernel)
  have hmi : (Cond.isRef (Term.mirror "[Ljava/lang/Object;")).before #[Value.ref b] s = true := hs _ (by decide +kernel)
  have hu1 : (Cond.isRef (.static Bundle.tN "UNASSIGNED_STACK" Bundle.steD)).before #[Value.ref b] s = true := hs _ (by decide +kernel)
  have hu2 : (Cond.isRef (.static Bundle.tN "SUPPRESSED_SENTINEL" Bundle.listD)).before #[Value.ref b] s = true := hs _ (by decide +kernel)
  have hx1 : (Cond.exactly (.string "Switchyard" 330) "java/lang/String").before #[Value.ref b] s = true := hs _ (by decide +kernel)
  have hx2 : (Cond.exactly (.string "Switchyard" 333) "java/lang/String").before #[Value.ref b] s = true := hs _ (by decide +kernel)
  obtain ⟨z, cz, cell, kz, z1, z2, z3, z4, z5, z6, -⟩ := Cond.exactly_spec hex
  obtain ⟨t, t1, t2⟩ := va_Tof (N := 0) (f := fun _ => .null) (A := fun q => s.heap.size ≤ q) (by decide) hao (va_eqt hle) (fun j hj => by omega) (fun a h1 h2 => by omega)
  obtain ⟨v, v1, v2⟩ := Cond.isRef_spec hmi
  obtain ⟨cm, km, y, m1, m2, m3, rfl⟩ := Term.mirror_spec v1
  obtain ⟨s1, -, -, -, p1, -⟩ := Cond.exactly_spec hx1
  obtain ⟨s2, -, -, -, p2, -⟩ := Cond.exactly_spec hx2
  have etz : t = z := by
    have := t1.symm.trans z1
    cases this
    rfl
  subst etz
  refine ⟨(dC, dI, dA, s.heap.size, fun k => match k with | 0 => b | 1 => t | _ => y), rfl, rfl, ⟨⟨hC, fun k q hq => ?_⟩, ?_, ?_, ?_, ?_, ?_, ?_⟩, hX, hbl, ?_, ?_, ?_, ?_, ?_, ?_⟩
  · simp only [ni_tys, List.getElem?_mapIdx] at hq
    cases hty : ni_aks[k]? with
    | none => rw [hty] at hq; cases hq
    | some ty =>
      rw [hty] at hq
      cases hq
      exact hA k ty hty
  · exact List.forall_mem_cons.mpr ⟨va_Nw.of rfl (hts _ (List.mem_of_getElem? (i := 145) (by decide +kernel))), List.forall_mem_cons.mpr ⟨va_Nw.of rfl (hts _ (List.mem_of_getElem? (i := 229) (by decide +kernel))), List.forall_mem_cons.mpr ⟨va_Nw.of rfl (hts _ (List.mem_of_getElem? (i := 390) (by decide +kernel))), fun _ h => absurd h List.not_mem_nil⟩⟩⟩
  · exact List.forall_mem_cons.mpr ⟨va_AO.of (hts _ (List.mem_of_getElem? (i := 112) (by decide +kernel))), List.forall_mem_cons.mpr ⟨va_AO.of (hts _ (List.mem_of_getElem? (i := 114) (by decide +kernel))), List.forall_mem_cons.mpr ⟨va_AO.of (hts _ (List.mem_of_getElem? (i := 116) (by decide +kernel))), List.forall_mem_cons.mpr ⟨va_AO.of (hts _ (List.mem_of_getElem? (i := 246) (by decide +kernel))), List.forall_mem_cons.mpr ⟨va_AO.of (hts _ (List.mem_of_getElem? (i := 1378) (by decide +kernel))), List.forall_mem_cons.mpr ⟨va_AO.of (hts _ (List.mem_of_getElem? (i := 1407) (by decide +kernel))), List.forall_mem_cons.mpr ⟨va_AO.of (hts _ (List.mem_of_getElem? (i := 1467) (by decide +kernel))), fun _ h => absurd h List.not_mem_nil⟩⟩⟩⟩⟩⟩⟩
  · exact List.forall_mem_cons.mpr ⟨va_Nw.of rfl (hts _ (List.mem_of_getElem? (i := 721) (by decide +kernel))), List.forall_mem_cons.mpr ⟨va_Nw.of rfl (hts _ (List.mem_of_getElem? (i := 737) (by decide +kernel))), List.forall_mem_cons.mpr ⟨va_Nw.of rfl (hts _ (List.mem_of_getElem? (i := 633) (by decide +kernel))), List.forall_mem_cons.mpr ⟨va_Nw.of rfl hal, List.forall_mem_cons.mpr ⟨va_Nw.of rfl (hts _ (List.mem_of_getElem? (i := 2384) (by decide +kernel))), List.forall_mem_cons.mpr ⟨va_Nw.of rfl (hts _ (List.mem_of_getElem? (i := 2335) (by decide +kernel))), fun _ h => absurd h List.not_mem_nil⟩⟩⟩⟩⟩⟩
  · exact List.forall_mem_cons.mpr ⟨va_Nw.of rfl (hts _ (List.mem_of_getElem? (i := 635) (by decide +kernel))), List.forall_mem_cons.mpr ⟨va_Nw.of rfl (hts _ (List.mem_of_getElem? (i := 637) (by decide +kernel))), List.forall_mem_cons.mpr ⟨va_Nw.of rfl (hts _ (List.mem_of_getElem? (i := 639) (by decide +kernel))), fun _ h => absurd h List.not_mem_nil⟩⟩⟩
  · exact List.forall_mem_cons.mpr ⟨⟨kk, _, rfl, hk1, hk2, k2, hk3⟩, fun _ h => absurd h List.not_mem_nil⟩
  · exact List.forall_mem_cons.mpr ⟨(show ni_AOA .int s from (hts (Cond.arrayOver (.array .int)) (List.mem_of_getElem? (i := 1409) (by decide +kernel)) : (Cond.arrayOver (.array .int)).before #[Value.ref b] s = true)), fun _ h => absurd h List.not_mem_nil⟩
  · exact vx_Zqof (hts _ (List.mem_of_getElem? (i := 658) (by decide +kernel))) (hts _ (List.mem_of_getElem? (i := 80) (by decide +kernel))) hu1 (fun a h1 h2 => absurd h1 (Nat.not_lt.mpr h2))
  · exact vx_Zqof (hts _ (List.mem_of_getElem? (i := 660) (by decide +kernel))) (hts _ (List.mem_of_getElem? (i := 80) (by decide +kernel))) hu2 (fun a h1 h2 => absurd h1 (Nat.not_lt.mpr h2))
  · exact List.forall_mem_cons.mpr ⟨⟨s1, vk_R.of (A := #[Value.ref b]) (hts _ (List.mem_of_getElem? (i := 728) (by decide +kernel))) p1⟩, List.forall_mem_cons.mpr ⟨⟨s2, vk_R.of (A := #[Value.ref b]) (hts _ (List.mem_of_getElem? (i := 754) (by decide +kernel))) p2⟩, fun _ h => absurd h List.not_mem_nil⟩⟩
  · exact va_Zof (hts _ (List.mem_of_getElem? (i := 1392) (by decide +kernel))) (hts _ (List.mem_of_getElem? (i := 75) (by decide +kernel))) z1 (fun a h1 h2 => absurd h1 (Nat.not_lt.mpr h2))
  · exact t2
  · exact ⟨⟨cell, z3, fun k h => (by rw [h] at z5; cases z5), by rw [z6]; exact z2, fun h => absurd (Array.getElem?_eq_some_iff.mp z3).1 (Nat.not_lt.mpr h)⟩, ⟨cm, km, m1, m2, m3⟩, va_Fw.of (A := #[Value.ref b]) (hts _ (List.mem_of_getElem? (i := 2334) (by decide +kernel))) (hts _ (List.mem_of_getElem? (i := 2333) (by decide +kernel))) (hts _ (List.mem_of_getElem? (i := 2339) (by decide +kernel))) (hts _ (List.mem_of_getElem? (i := 2337) (by decide +kernel))) (hts _ (List.mem_of_getElem? (i := 2335) (by decide +kernel)))⟩
end NSTA
