/-! THE BEGINNING -/
section NBG
variable {xs : List Int32} {St St' : Nat → Option ni_C} {M M' : ni_H} {A A' B : Nat → Nat → Int} {own : Nat → Int} {c z : Nat}
section X
variable {d y pc q : Nat} {ls st : List Value} {Q : Option Value → ni_H → Prop}
theorem wp_QlA {a b : Nat} {i : Int} {vs : List Value} (hp : ni_prog xs y pc = ni_sQlA q) (ha : M.1[a]? = some (105, vs)) (hi : 0 ≤ i ∧ i ≤ 1000000) (hv : vs[i.toNat]? = some (.ref b)) (k : wp_G xs d y q ls (.ref b :: st) M Q) : wp_G xs d y pc ls (ni_z i :: .ref a :: st) M Q := by
  have hz := ni_clZ (x := i) (by omega)
  obtain ⟨u, M', ⟨f, h1⟩, h2⟩ := k
  refine ⟨u, M', ⟨f + 1, ?_⟩, h2⟩
  rw [ni_exS, hp]
  unfold ni_sQlA
  simp only [ha]
  rw [if_pos ⟨by decide, hz.1⟩, hz.2, hv]
  exact h1
theorem wp_QsA {a b : Nat} {i : Int} {vs ws : List Value} (hp : ni_prog xs y pc = ni_sQsA q) (ha : M.1[a]? = some (105, vs)) (hi : 0 ≤ i ∧ i ≤ 1000000) (hlt : i.toNat < vs.length) (hb : M.1[b]? = some (100, ws)) (k : ∀ M', wp_wr M a (105, vs.set i.toNat (.ref b)) M' → wp_G xs d y q ls st M' Q) : wp_G xs d y pc ls (.ref b :: ni_z i :: .ref a :: st) M Q := by
  have hz := ni_clZ (x := i) (by omega)
  obtain ⟨u, M', ⟨f, h1⟩, h2⟩ := k _ (wp_wrS ha)
  refine ⟨u, M', ⟨f + 1, ?_⟩, h2⟩
  rw [ni_exS, hp]
  unfold ni_sQsA
  simp only [ha, hb]
  rw [if_pos ⟨by decide, by decide, by decide +kernel, hz.1, by rw [hz.2]; omega⟩, hz.2]
  exact h1
end X
/-- letters stay letters, whatever else is told -/
theorem lz_LW {b : Nat} (hs : ∀ a c, c.1 = 1 ∨ c.1 = 100 → St a = some c → St' a = some c) (h : ni_LW St b) : ni_LW St' b ∧ ni_lno St' b = ni_lno St b ∧ ni_lof St' b = ni_lof St b := by
  obtain ⟨o, n, s, ca, na, cs, ns, h1, h2, h3, h4, h5, h6, h7, h8⟩ := h
  have g := hs _ _ (Or.inl rfl) h1
  refine ⟨⟨o, n, s, ca, na, cs, ns, g, h2, h3, h4, hs _ _ (Or.inr rfl) h5, h6, hs _ _ (Or.inr rfl) h7, h8⟩, ?_, ?_⟩
  · unfold ni_lno
    rw [h1, g]
  · unfold ni_lof
    rw [h1, g]
theorem lz_GL {b : Nat} (hs : ∀ a c, c.1 = 1 ∨ c.1 = 100 → St a = some c → St' a = some c) (h : ni_GL St own b) : ni_GL St' own b := by
  obtain ⟨e1, e2, e3⟩ := lz_LW hs h.1
  refine ⟨e1, ?_⟩
  rw [e2, e3]
  exact h.2
theorem lz_Inv {e : Int} (hs : ∀ a c, c.1 = 1 ∨ c.1 = 100 → St a = some c → St' a = some c) (h : nq_Inv St own A e) : nq_Inv St' own A e := by
  have hLA := h.2.2.2.2.2.2.1
  have hRK := h.2.2.2.2.2.2.2.1
  have hRT := h.2.2.2.2.2.2.2.2.1
  refine nx_InvW h nq_fr1r (fun _ _ _ => rfl) (fun p hp => ⟨(hLA p hp).1, fun j hj => ⟨((hLA p hp).2 j hj).1, lz_GL hs ((hLA p hp).2 j hj).2.1, ((hLA p hp).2 j hj).2.2⟩⟩) (fun r hr hrc => ⟨fun o ho => ?_, ?_⟩) (fun r hr hrc => (hRT r hr hrc).2.1)
  · obtain ⟨a1, a2, a3⟩ := (hRK r hr hrc).1 o ho
    obtain ⟨e1, e2, e3⟩ := lz_LW hs a2.1
    exact ⟨a1, lz_GL hs a2, by rw [e2, e3]; exact a3⟩
  · have := ((hRK r hr hrc).1 r hr).2.1.1
    rw [(lz_LW hs this).2.1]
    exact (hRK r hr hrc).2
/-- letters change nothing at places that aren't in use -/
theorem nx_dd (h1 : 0 ≤ A 0 1) (hf : nq_fr1 A A') (hd : ∀ q, ni_ln0 q → 48 + 17 * A 0 2 ≤ q → A' q 2 = A q 2) {s j : Nat} (h : nq_dead A s) : A' s j = A s j := by
  unfold nq_dead at h
  by_cases c : ni_isL s j
  · unfold ni_isL at c
    have hj : j = 2 := by omega
    subst hj
    exact hd s (by unfold ni_ln0; omega) (by omega)
  · exact hf s j c (fun r hr hrc => by omega)
theorem nx_ddF (h1 : 0 ≤ A 0 1) (hf : nq_fr1 A A') (hd : ∀ q, ni_ln0 q → 48 + 17 * A 0 2 ≤ q → A' q 2 = A q 2) (h : na_Fr A) : na_Fr A' := fun s j hs => by
  have f0 := (nx_fl hf).1
  have hs' : nq_dead A s := by
    unfold nq_dead at hs ⊢
    rw [f0, f0, f0] at hs
    exact hs
  rw [nx_dd h1 hf hd hs']
  exact h s j hs'
theorem nx_ddH (h1 : 0 ≤ A 0 1) (hf : nq_fr1 A A') (hd : ∀ q, ni_ln0 q → 48 + 17 * A 0 2 ≤ q → A' q 2 = A q 2) (h : np_H A B) : np_H A' B := by
  have f0 := (nx_fl hf).1
  exact np_Hk h (f0 1) (f0 2) (f0 3) (fun s j hs => nx_dd h1 hf hd hs)
/-- the cells that a new object's letters are -/
def na_S0 (a : Nat) : Option ni_C := if a = 0 then some (9, [.ref 1, .ref 375]) else if a < 288 ∨ 376 ≤ a then none else if (a - 288) % 11 = 0 then some (1, [ni_z (((a - 288) / 11 : Nat) : Int), ni_z 0, ni_z 0, .ref (a + 1), .ref (a + 2)]) else if (a - 288) % 11 = 1 then some (100, List.replicate 14 (.int 0)) else if (a - 288) % 11 = 2 then some (100, []) else none
theorem na_S0S : na_St na_S0 := fun r hr => by
  unfold na_S0
  refine ⟨?_, ?_, ?_⟩
  · rw [if_neg (by omega), if_neg (by omega), if_pos (by omega), show (288 + 11 * r - 288) / 11 = r by omega, show 288 + 11 * r + 1 = 289 + 11 * r by omega, show 288 + 11 * r + 2 = 290 + 11 * r by omega]
  · rw [if_neg (by omega), if_neg (by omega), if_neg (by omega), if_pos (by omega)]
  · rw [if_neg (by omega), if_neg (by omega), if_neg (by omega), if_neg (by omega), if_pos (by omega)]
theorem na_us : ∀ r : Nat, r < 8 → ni_us (287 + 11 * r) = false ∧ ni_us (288 + 11 * r) = false ∧ ni_us (289 + 11 * r) = false := by decide +kernel
theorem na_lt {R0 : List ni_C} (hl : R0.length = 374) (hck : na_all R0 0 = true) {r : Nat} (hr : r < 8) : R0[287 + 11 * r]? = some (1, [ni_z (r : Int), .int 0, .int 0, .ref (288 + 11 * r), .ref (289 + 11 * r)]) ∧ R0[288 + 11 * r]? = some (100, List.replicate 14 (.int 0)) ∧ R0[289 + 11 * r]? = some (100, []) := by
  have hu := na_us r hr
  have get : ∀ s, s < 374 → ∃ t vs, R0[s]? = some (t, vs) ∧ na_ck (t, vs) s = true := fun s hs => by
    have hc : R0[s]? = some R0[s] := List.getElem?_eq_getElem (by omega)
    have := na_allS R0 0 s _ hck hc
    rw [Nat.zero_add] at this
    exact ⟨R0[s].1, R0[s].2, hc, this⟩
  refine ⟨?_, ?_, ?_⟩
  · obtain ⟨t, vs, h1, h2⟩ := get (287 + 11 * r) (by omega)
    unfold na_ck at h2
    dsimp only at h2
    rw [hu.1, cond_false, na_nblt (by omega), cond_false, na_beq (a := (287 + 11 * r - 286) % 11) (by omega), cond_true, Bool.and_eq_true] at h2
    have e := eq_of_beq h2.2
    rw [show (287 + 11 * r - 286) / 11 = r by omega, show 287 + 11 * r + 1 = 288 + 11 * r by omega, show 287 + 11 * r + 2 = 289 + 11 * r by omega] at e
    rw [h1, Nat.eq_of_beq_eq_true h2.1, e]
  · obtain ⟨t, vs, h1, h2⟩ := get (288 + 11 * r) (by omega)
    unfold na_ck at h2
    dsimp only at h2
    rw [hu.2.1, cond_false, na_nblt (by omega), cond_false, na_nbeq (a := (288 + 11 * r - 286) % 11) (b := 1) (by omega), cond_false, na_beq (a := (288 + 11 * r - 286) % 11) (by omega), cond_true, Bool.and_eq_true] at h2
    have e := eq_of_beq h2.2
    rw [h1, Nat.eq_of_beq_eq_true h2.1, e]
  · obtain ⟨t, vs, h1, h2⟩ := get (289 + 11 * r) (by omega)
    unfold na_ck at h2
    dsimp only at h2
    rw [hu.2.2, cond_false, na_nblt (by omega), cond_false, na_nbeq (a := (289 + 11 * r - 286) % 11) (b := 1) (by omega), cond_false, na_nbeq (a := (289 + 11 * r - 286) % 11) (b := 2) (by omega), cond_false, Bool.and_eq_true] at h2
    have e := eq_of_beq h2.2
    rw [h1, Nat.eq_of_beq_eq_true h2.1, e]
/-- a new object, and some routers -/
def lz_1 (n : Nat) (M : ni_H) : Prop := ∃ A : Nat → Nat → Int, (∀ s j, ¬ (s = 0 ∧ j = 1) → A s j = na_A 1 s j) ∧ A 0 1 = n ∧ ni_Rep na_S0 M na_1 na_1 na_cp A (na_L 1000) ∧ ni_Rep na_S0 M na_2 na_2 na_cp (na_A 1) (na_L 0) ∧ M.1.length = 749 ∧ ni_zs M ≤ 41000
theorem na_pl {ad : Nat → Nat} {s : Nat} : ni_pl ad ad s = ad s := by
  unfold ni_pl
  cases ni_lr s <;> rfl
theorem na_dj : np_dj na_1 na_1 na_2 na_2 := fun s t hs ht e => by
  rw [na_pl, na_pl] at e
  have h1 := (ni_usT hs).1
  unfold na_1 na_2 at e
  omega
theorem na_first {R0 : List ni_C} (hl : R0.length = 374) (hck : na_all R0 0 = true) (hz : (R0.map (fun c => c.2.length)).sum ≤ 20000) : lz_1 0 (((9, [.ref 1, .ref 375]) :: (R0.map (ni_sc (fun k => 1 + k)) ++ R0.map (ni_sc (fun k => 375 + k))), 0) : ni_H) := by
  obtain ⟨H, hH⟩ : ∃ H : ni_H, H = ((9, [.ref 1, .ref 375]) :: (R0.map (ni_sc (fun k => 1 + k)) ++ R0.map (ni_sc (fun k => 375 + k))), 0) := ⟨_, rfl⟩
  rw [← hH]
  have m1 : ∀ s c, R0[s]? = some c → H.1[1 + s]? = some (ni_sc (fun k => 1 + k) c) := fun s c hs => by
    have hlt := (List.getElem?_eq_some_iff.mp hs).1
    rw [hH, Nat.add_comm 1 s]
    show (R0.map (ni_sc (fun k => 1 + k)) ++ R0.map (ni_sc (fun k => 375 + k)))[s]? = _
    rw [List.getElem?_append_left (by rw [List.length_map]; exact hlt), List.getElem?_map, hs]
    rfl
  have m2 : ∀ s c, R0[s]? = some c → H.1[375 + s]? = some (ni_sc (fun k => 375 + k) c) := fun s c hs => by
    rw [hH, show 375 + s = (374 + s) + 1 by omega]
    show (R0.map (ni_sc (fun k => 1 + k)) ++ R0.map (ni_sc (fun k => 375 + k)))[374 + s]? = _
    rw [List.getElem?_append_right (by rw [List.length_map, hl]; omega), List.length_map, hl, show 374 + s - 374 = s by omega, List.getElem?_map, hs]
    rfl
  have hbig : 1000 < ni_big := by decide
  have hlet : ∀ a c, na_S0 a = some c → H.1[a]? = some c ∧ (∀ s, ni_us s = true → 1 + s ≠ a) ∧ ∀ s, ni_us s = true → 375 + s ≠ a := fun a c ha => by
    unfold na_S0 at ha
    by_cases c0 : a = 0
    · rw [if_pos c0] at ha
      cases ha
      subst c0
      exact ⟨by rw [hH]; rfl, fun s _ => by omega, fun s _ => by omega⟩
    rw [if_neg c0] at ha
    by_cases c1 : a < 288 ∨ 376 ≤ a
    · rw [if_pos c1] at ha
      cases ha
    rw [if_neg c1] at ha
    obtain ⟨r, hr, hr2⟩ : ∃ r : Nat, r = (a - 288) / 11 ∧ r < 8 := ⟨_, rfl, by omega⟩
    have hu := na_us r hr2
    obtain ⟨t1, t2, t3⟩ := na_lt hl hck hr2
    by_cases k0 : (a - 288) % 11 = 0
    · rw [if_pos k0] at ha
      have ea : a = 1 + (287 + 11 * r) := by omega
      cases ha
      refine ⟨?_, fun s hs e => ?_, fun s hs => by omega⟩
      · rw [ea, m1 _ _ t1]
        unfold ni_sc
        simp only [List.map_cons, List.map_nil]
        rw [ni_shR (by omega), ni_shR (by omega), show (1 + (287 + 11 * r) - 288) / 11 = r by omega, show 1 + (288 + 11 * r) = 1 + (287 + 11 * r) + 1 by omega, show 1 + (289 + 11 * r) = 1 + (287 + 11 * r) + 2 by omega]
        rfl
      · have : s = 287 + 11 * r := by omega
        rw [this, hu.1] at hs
        cases hs
    rw [if_neg k0] at ha
    by_cases k1 : (a - 288) % 11 = 1
    · rw [if_pos k1] at ha
      have ea : a = 1 + (288 + 11 * r) := by omega
      cases ha
      refine ⟨?_, fun s hs e => ?_, fun s hs => by omega⟩
      · rw [ea, m1 _ _ t2]
        rfl
      · have : s = 288 + 11 * r := by omega
        rw [this, hu.2.1] at hs
        cases hs
    rw [if_neg k1] at ha
    by_cases k2 : (a - 288) % 11 = 2
    · rw [if_pos k2] at ha
      have ea : a = 1 + (289 + 11 * r) := by omega
      cases ha
      refine ⟨?_, fun s hs e => ?_, fun s hs => by omega⟩
      · rw [ea, m1 _ _ t3]
        rfl
      · have : s = 289 + 11 * r := by omega
        rw [this, hu.2.2] at hs
        cases hs
    rw [if_neg k2] at ha
    cases ha
  have hlen : H.1.length = 749 := by
    rw [hH]
    show ((9, [.ref 1, .ref 375]) :: (R0.map (ni_sc (fun k => 1 + k)) ++ R0.map (ni_sc (fun k => 375 + k))) : List ni_C).length = 749
    rw [List.length_cons, List.length_append, List.length_map, List.length_map, hl]
  have h2 : H.2 = 0 := by rw [hH]
  refine ⟨na_A 1, fun _ _ _ => rfl, by rw [na_e (show ni_kd 0 = 4 by decide +kernel)]; rfl, na_Rep (u := 1000) hl hck m1 h2 (by omega) (Or.inr rfl) (fun a c ha => ⟨(hlet a c ha).1, (hlet a c ha).2.1⟩), na_Rep (u := 0) hl hck m2 h2 (by omega) (Or.inl rfl) (fun a c ha => ⟨(hlet a c ha).1, (hlet a c ha).2.2⟩), hlen, ?_⟩
  have sm : ∀ E : Nat → Nat, ((R0.map (ni_sc E)).map (fun c => c.2.length)).sum = (R0.map (fun c => c.2.length)).sum := by
    intro E
    rw [List.map_map]
    congr 1
    apply List.map_congr_left
    intro c _
    show (c.2.map (ni_sh E)).length = c.2.length
    rw [List.length_map]
  unfold ni_zs
  rw [hH]
  show (((9, [.ref 1, .ref 375]) :: (R0.map (ni_sc (fun k => 1 + k)) ++ R0.map (ni_sc (fun k => 375 + k))) : List ni_C).map (fun c => c.2.length)).sum ≤ 41000
  rw [List.map_cons, List.map_append, List.sum_cons, List.sum_append, sm, sm]
  show 2 + _ ≤ _
  omega
theorem na_cl1 : ((List.range 374).all fun s => !(ni_us s) || cond (Nat.beq (ni_ct s).1 999 || Nat.beq (ni_ct s).1 998) (!(ni_lr s && Nat.beq (ni_kd s) 104)) (Nat.blt 0 (ni_ct s).1 && decide (na_v (ni_kd (ni_ct s).1) 1 (ni_ct s).1 (ni_ct s).2 = 0))) = true := by decide +kernel
theorem na_Cl {u : Nat} (h : ∀ s j, ¬ (s = 0 ∧ j = 1) → A s j = na_A 1 s j) (hu : u = 1000 ∨ A 0 1 ≤ 0) : ni_Cl A (na_L u) := fun s hs => by
  have g := List.all_eq_true.mp na_cl1 s (List.mem_range.mpr (ni_usT hs).1)
  rw [hs, Bool.not_true, Bool.false_or] at g
  unfold ni_live na_L
  cases h9 : Nat.beq (ni_ct s).1 999 with
  | true =>
    rw [h9, Bool.true_or, cond_true, Bool.not_eq_true'] at g
    rw [g, cond_true, cond_false, Nat.eq_of_beq_eq_true h9]
    exact Nat.le_refl _
  | false =>
    rw [h9, Bool.false_or] at g
    rw [cond_false]
    cases h8 : Nat.beq (ni_ct s).1 998 with
    | true =>
      rw [h8, cond_true, Bool.not_eq_true'] at g
      rw [g, cond_true, cond_false, cond_true]
      rcases hu with z | z
      · rw [z]
        split <;> omega
      · rw [if_neg (by omega)]
        omega
    | false =>
      rw [h8, cond_false, Bool.and_eq_true] at g
      have g1 := Nat.le_of_ble_eq_true g.1
      have g2 := of_decide_eq_true g.2
      have e : A (ni_ct s).1 (ni_ct s).2 = 0 := by
        rw [h _ _ (by omega)]
        exact g2
      rw [cond_false, e]
      exact Nat.zero_le _
/-- routers come -/
theorem lz_1R {m : Nat} (h : lz_1 m M) (h8 : m < 8) : wp_C xs 25 4 [.ref 0] M (fun u M' => (∃ x : Int, u = some (ni_z x)) ∧ lz_1 (m + 1) M') := by
  obtain ⟨A, g1, g2, g3, g4, g5, g6⟩ := h
  refine wp_mono (fx_addRouter (xs := xs) (m := 0) (n1 := 375) (n := m) (ad := na_1) rfl g3 g2 h8) ?_
  rintro u M' ⟨hu, hR, hK⟩
  obtain ⟨k1, k2, k3, k4, k5⟩ := hK
  obtain ⟨r1, r2, r3, r4, r5, r6, r7, r8⟩ := g4
  have hlen : M'.1.length = 749 := by omega
  refine ⟨hu, _, fun s j hs => ?_, ni_u2e, hR, ⟨r1, fun s hs => ?_, r3, r4, fun a c ha => ⟨(hR.2.2.2.2.1 a c ha).1, (r5 a c ha).2⟩, hR.2.2.2.2.2.1, by omega, r8⟩, hlen, by omega⟩
  · rw [ni_u2n (by omega)]
    exact g1 s j hs
  · obtain ⟨vs, w1, w2, w3⟩ := r2 s hs
    refine ⟨vs, ?_, w2, w3⟩
    rw [k1 _ (List.getElem?_eq_some_iff.mp w1).1 (fun t ht => na_dj t s ht hs)]
    exact w1
/-- what stands behind the routers -/
theorem lz_1E {m : Nat} (h : lz_1 m M) (h8 : m ≤ 8) : ∃ A : Nat → Nat → Int, lz_R na_S0 M A (na_A 1) 301 42000 ∧ nq_Inv na_S0 (fun _ => 0) A 0 ∧ nq_CO A ∧ na_Fr A ∧ A 0 0 = 0 ∧ A 0 1 = m ∧ A 0 2 = 0 ∧ A 0 3 = 0 ∧ A 8 3 = 0 ∧ A 4 3 = 0 := by
  obtain ⟨A, g1, g2, g3, g4, g5, g6⟩ := h
  have k0 : ni_kd 0 = 4 := by decide +kernel
  have k4 : ni_kd 4 = 6 := by decide +kernel
  have k8 : ni_kd 8 = 6 := by decide +kernel
  have z0 : ∀ j, j ≠ 1 → A 0 j = 0 := fun j hj => (g1 0 j (by omega)).trans ((na_e k0).trans rfl)
  have hgz := na_gz
  refine ⟨A, ⟨na_1, na_cp, na_2, na_cp, ni_RepC g3 (na_Cl g1 (Or.inl rfl)), ni_RepC g4 (na_Cl (fun _ _ _ => rfl) (Or.inr (by rw [na_e k0]; exact Int.le_refl 0))), na_dj, by omega, by omega, rfl⟩, na_Inv na_S0S g1 (by omega), fun l hl hl2 => by rw [z0 2 (by omega)] at hl2; omega, na_Fr0 g1 (by omega) (z0 2 (by omega)) (z0 3 (by omega)), z0 0 (by omega), g2, z0 2 (by omega), z0 3 (by omega), (g1 8 3 (by omega)).trans ((na_e k8).trans rfl), (g1 4 3 (by omega)).trans ((na_e k4).trans rfl)⟩
end NBG
