/-! RULES OF A WALK OVER THE PLACES OF A NET -/
section NWS
variable {xs : List Int32} {St : Nat → Option ni_C} {M0 : ni_H} {ad rw0 cp0 : Nat → Nat}
/-- another whole number at a field -/
def ni_u2 (A : Nat → Nat → Int) (s j : Nat) (x : Int) : Nat → Nat → Int := fun s' j' => if s' = s ∧ j' = j then x else A s' j'
def ni_u1 (L : Nat → Nat) (s n : Nat) : Nat → Nat := fun s' => if s' = s then n else L s'
def ni_Sx (St : Nat → Option ni_C) (M0 : ni_H) (ad rw0 cp0 : Nat → Nat) (M : ni_H) (rw cp : Nat → Nat) (A : Nat → Nat → Int) (L : Nat → Nat) : Prop := ni_Rep St M ad rw cp A L ∧ ni_Kp M0 ad rw0 cp0 M rw cp
theorem ni_usT {s : Nat} (h : ni_us s = true) : s < 374 ∧ ni_kd s ≠ 99 := by
  unfold ni_us at h
  rw [Bool.and_eq_true] at h
  refine ⟨by have := h.1; simpa [Nat.blt_eq] using this, fun z => ?_⟩
  have h2 := h.2
  rw [z] at h2
  exact absurd h2 (by decide)
def ni_ob (c : Nat) : Bool := !(Nat.beq c 100) && !(Nat.beq c 104) && !(Nat.beq c 99)
theorem ni_obA : ((List.range 374).all fun s => !(ni_ob (ni_kd s)) || (Nat.beq (ni_ln s) (ni_lk (ni_kd s)) && !(ni_lr s) && Nat.beq (ni_ct s).1 999)) = true := by decide +kernel
theorem ni_objS {s c : Nat} (hs : ni_us s = true) (hk : ni_kd s = c) (hc : ni_ob c = true) : ni_ln s = ni_lk c ∧ ni_lr s = false ∧ (ni_ct s).1 = 999 := by
  have h := List.all_eq_true.mp ni_obA s (List.mem_range.mpr (ni_usT hs).1)
  rw [hk, hc, Bool.not_true, Bool.false_or, Bool.and_eq_true, Bool.and_eq_true] at h
  refine ⟨Nat.eq_of_beq_eq_true h.1.1, by simpa using h.1.2, Nat.eq_of_beq_eq_true h.2⟩
theorem ni_lnsA : (ni_lns.all fun p => ni_us p && Nat.beq (ni_kd p) 2 && ni_us (p + 1) && ni_us (p + 2) && ni_lr (p + 1) && ni_lr (p + 2) && Nat.beq (ni_kd (p + 1)) 104 && Nat.beq (ni_kd (p + 2)) 100 && Nat.beq (ni_ct (p + 1)).1 p && Nat.beq (ni_ct (p + 1)).2 2 && Nat.beq (ni_ct (p + 2)).1 p && Nat.beq (ni_ct (p + 2)).2 2) = true := by decide +kernel
theorem ni_lns2 {p : Nat} (h : p ∈ ni_lns) : ni_kd p = 2 := by
  have h := List.all_eq_true.mp ni_lnsA p h
  simp only [Bool.and_eq_true] at h
  exact Nat.eq_of_beq_eq_true h.1.1.1.1.1.1.1.1.1.1.2
theorem ni_lnsB : ((List.range 374).all fun s => !(Nat.beq (ni_kd s) 2) || ni_lns.contains s) = true := by decide +kernel
theorem ni_lnsC {s : Nat} (hs : ni_us s = true) (hk : ni_kd s = 2) : s ∈ ni_lns := by
  have h := List.all_eq_true.mp ni_lnsB s (List.mem_range.mpr (ni_usT hs).1)
  rw [hk] at h
  simpa using h
theorem ni_zsW {M M' : ni_H} {a : Nat} {c c0 : ni_C} (h0 : M.1[a]? = some c0) (h : wp_wr M a c M') (hl : c.2.length = c0.2.length) : ni_zs M' = ni_zs M := by
  obtain ⟨h1, h2, h3, h4⟩ := h
  unfold ni_zs
  rw [h4]
  have : M'.1.map (fun c => c.2.length) = M.1.map (fun c => c.2.length) := by
    refine List.ext_getElem? fun i => ?_
    rw [List.getElem?_map, List.getElem?_map]
    by_cases hi : i = a
    · rw [hi, h1, h0]
      simp [hl]
    · rw [h2 i hi]
  rw [this]
theorem ni_vkU {c : Nat} {rw : Nat → Nat} {A : Nat → Nat → Int} {s j t i : Nat} {x : Int} (h : ¬ (t = s ∧ i = j)) : ni_vk c ad rw (ni_u2 A s j x) t i = ni_vk c ad rw A t i := by
  unfold ni_vk ni_u2
  rw [if_neg h]
theorem ni_repW {M M' : ni_H} {rw cp : Nat → Nat} {A : Nat → Nat → Int} {L L' : Nat → Nat} {s j : Nat} {x : Int} {vs : List Value} {w : Value} (h : ni_Rep St M ad rw cp A L) (hs : ni_us s = true) (hvs : M.1[ni_pl ad rw s]? = some (ni_kd s, vs)) (hj : j < cp s) (hw : w = ni_vk (ni_kd s) ad rw (ni_u2 A s j x) s j) (hM : wp_wr M (ni_pl ad rw s) (ni_kd s, vs.set j w) M') (hL : L' = L ∨ (L' = ni_u1 L s (j + 1) ∧ j = L s)) (hc : ni_kd s = 2 → j = 2 → x ≤ cp (s + 1)) : ni_Rep St M' ad rw cp (ni_u2 A s j x) L' := by
  obtain ⟨h1, h2, h3, h4, h5, h6, h7, h8⟩ := h
  obtain ⟨m1, m2, m3, m4⟩ := hM
  refine ⟨h1, fun t ht => ?_, h3, fun p hp => ?_, fun a c hac => ?_, by rw [m4]; exact h6, by rw [m3]; exact h7, fun t ht ht9 => ?_⟩
  · by_cases e : t = s
    · subst e
      obtain ⟨vs0, g1, g2, g3⟩ := h2 t ht
      rw [hvs] at g1
      have ev : vs = vs0 := by injection g1 with g; exact congrArg Prod.snd g
      subst ev
      refine ⟨vs.set j w, m1, by rw [List.length_set]; exact g2, fun i hi hiL => ?_⟩
      by_cases ei : i = j
      · subst ei
        rw [List.getElem?_set_self (by rw [g2]; exact hj), hw]
      · rw [List.getElem?_set_ne (fun z => ei z.symm), ni_vkU (fun z => ei z.2)]
        refine g3 i hi ?_
        rcases hL with hL | ⟨hL, hL2⟩
        · rw [hL] at hiL
          exact hiL
        · rw [hL] at hiL
          unfold ni_u1 at hiL
          rw [if_pos rfl] at hiL
          omega
    · obtain ⟨vs0, g1, g2, g3⟩ := h2 t ht
      refine ⟨vs0, ?_, g2, fun i hi hiL => ?_⟩
      · rw [m2 _ (fun z => e (h1 t s ht hs z))]
        exact g1
      · rw [ni_vkU (fun z => e z.1)]
        refine g3 i hi ?_
        rcases hL with hL | ⟨hL, _⟩
        · rw [hL] at hiL
          exact hiL
        · rw [hL] at hiL
          unfold ni_u1 at hiL
          rw [if_neg e] at hiL
          exact hiL
  · unfold ni_u2
    by_cases e : p = s ∧ 2 = j
    · rw [if_pos e]
      have := hc (by rw [← e.1]; exact ni_lns2 hp) e.2.symm
      rw [e.1]
      exact this
    · rw [if_neg e]
      exact h4 p hp
  · refine ⟨?_, (h5 a c hac).2⟩
    rw [m2 _ (fun z => (h5 a c hac).2 s hs z.symm)]
    exact (h5 a c hac).1
  · rcases hL with hL | ⟨hL, hL2⟩
    · rw [hL]
      exact h8 t ht ht9
    · rw [hL]
      unfold ni_u1
      by_cases e : t = s
      · rw [if_pos e]
        have := h8 t ht ht9
        rw [e] at this
        omega
      · rw [if_neg e]
        exact h8 t ht ht9
theorem ni_kpW {M M' : ni_H} {rw cp : Nat → Nat} {s : Nat} {c c0 : ni_C} (h : ni_Kp M0 ad rw0 cp0 M rw cp) (hs : ni_us s = true) (h0 : M.1[ni_pl ad rw s]? = some c0) (hM : wp_wr M (ni_pl ad rw s) c M') (hl : c.2.length = c0.2.length) : ni_Kp M0 ad rw0 cp0 M' rw cp := by
  obtain ⟨h1, h2, h3, h4, h5⟩ := h
  have hz := ni_zsW h0 hM hl
  obtain ⟨m1, m2, m3, m4⟩ := hM
  refine ⟨fun b hb hn => ?_, h2, by rw [m3]; exact h3, by rw [hz]; exact h4, by rw [m3]; exact h5⟩
  rw [m2 b ?_]
  · exact h1 b hb hn
  · intro e
    rcases h2 s hs with r | r
    · refine hn s hs ?_
      rw [e]
      unfold ni_pl
      rw [r]
    · unfold ni_pl at e
      cases hlr : ni_lr s with
      | true =>
        rw [hlr, cond_true] at e
        omega
      | false =>
        refine hn s hs ?_
        rw [e]
        unfold ni_pl
        rw [hlr, cond_false, cond_false]
section X
variable {d y pc q : Nat} {ls st : List Value} {M : ni_H} {rw cp : Nat → Nat} {A : Nat → Nat → Int} {L : Nat → Nat} {Q : Option Value → ni_H → Prop}
theorem ni_cpL (h : ni_cpO cp) {s n : Nat} (hs : ni_us s = true) (hl : ni_ln s = n) (hn : 0 < n) : cp s = n ∧ ni_lr s = false := by
  have : ni_lr s = false := by
    unfold ni_lr
    rw [hl]
    cases n with
    | zero => omega
    | succ n => rfl
  exact ⟨by rw [h.1 s hs this, hl], this⟩
theorem ws_Get {ci j s : Nat} {v : Value} (hp : ni_prog xs y pc = ni_sGet ci j q) (h : ni_Sx St M0 ad rw0 cp0 M rw cp A L) (hs : ni_us s = true) (hk : ni_kd s = ci) (ho : ni_ob ci = true) (hj : Nat.blt j (ni_lk ci) = true) (hv : ni_vk ci ad rw A s j = v) (k : wp_G xs d y q ls (v :: st) M Q) : wp_G xs d y pc ls (.ref (ad s) :: st) M Q := by
  obtain ⟨o1, o2, o3⟩ := ni_objS hs hk ho
  obtain ⟨r1, r2, r3, r4, r5, r6, r7, r8⟩ := h.1
  obtain ⟨vs, g1, g2, g3⟩ := r2 s hs
  have hj' : j < cp s := by
    rw [r3.1 s hs o2, o1]
    simpa [Nat.blt_eq] using hj
  have hpl : ni_pl ad rw s = ad s := by
    unfold ni_pl
    rw [o2, cond_false]
  have hg := g3 j hj' (Nat.lt_of_lt_of_le (show j < 1000 from ?_) (r8 s hs o3))
  · rw [hk] at g1 hg
    rw [hpl] at g1
    rw [hv] at hg
    exact wp_Get hp g1 hg k
  · have h1 : j < ni_lk ci := by simpa [Nat.blt_eq] using hj
    have h2 : ni_lk ci ≤ 19 := by
      unfold ni_lk
      split <;> omega
    omega
theorem ws_Put {ci j s : Nat} {ty : FieldType} {x : Int} (hp : ni_prog xs y pc = ni_sPut ci j ty q) (h : ni_Sx St M0 ad rw0 cp0 M rw cp A L) (hs : ni_us s = true) (hk : ni_kd s = ci) (ho : ni_ob ci = true) (hj : Nat.blt j (ni_lk ci) = true) (hv : ∀ A : Nat → Nat → Int, ni_vk ci ad rw A s j = ni_z (A s j)) (hf : ni_fit ty (ni_z x) = true) (hc : ci = 2 → j = 2 → x ≤ cp (s + 1)) (k : ∀ M', ni_Sx St M0 ad rw0 cp0 M' rw cp (ni_u2 A s j x) L → wp_G xs d y q ls st M' Q) : wp_G xs d y pc ls (ni_z x :: .ref (ad s) :: st) M Q := by
  obtain ⟨o1, o2, o3⟩ := ni_objS hs hk ho
  obtain ⟨vs, g1, g2, g3⟩ := h.1.2.1 s hs
  have hj' : j < cp s := by
    rw [h.1.2.2.1.1 s hs o2, o1]
    simpa [Nat.blt_eq] using hj
  have hpl : ni_pl ad rw s = ad s := by
    unfold ni_pl
    rw [o2, cond_false]
  have g1' := g1
  rw [hpl, hk] at g1
  refine wp_Put hp g1 (by rw [g2]; exact hj') hf rfl fun M' hM => k M' ⟨?_, ?_⟩
  · refine ni_repW (vs := vs) (w := ni_z x) h.1 hs g1' hj' ?_ (by rw [hpl, hk]; exact hM) (Or.inl rfl) (by rw [hk]; exact hc)
    rw [hk, hv]
    unfold ni_u2
    rw [if_pos ⟨rfl, rfl⟩]
  · refine ni_kpW (c0 := (ni_kd s, vs)) h.2 hs g1' (by rw [hpl]; exact hM) ?_
    exact List.length_set
theorem ws_Len {s n t : Nat} (hp : ni_prog xs y pc = ni_sLen q) (h : ni_Sx St M0 ad rw0 cp0 M rw cp A L) (hs : ni_us s = true) (hk : ni_kd s = t) (hl : ni_ln s = n) (hn : 0 < n) (ht : 100 ≤ t ∧ t - 100 < ni_aks.length) (k : wp_G xs d y q ls (ni_z n :: st) M Q) : wp_G xs d y pc ls (.ref (ad s) :: st) M Q := by
  obtain ⟨c1, c2⟩ := ni_cpL h.1.2.2.1 hs hl hn
  obtain ⟨vs, g1, g2, g3⟩ := h.1.2.1 s hs
  have hpl : ni_pl ad rw s = ad s := by
    unfold ni_pl
    rw [c2, cond_false]
  rw [hpl, hk] at g1
  refine wp_Len hp g1 ht ?_ k
  rw [g2, c1]
  rfl
theorem ws_Ald {ty : FieldType} {s n t j : Nat} {i : Int} {tv : Nat} {v : Value} (hp : ni_prog xs y pc = ni_sAld ty tv q) (h : ni_Sx St M0 ad rw0 cp0 M rw cp A L) (hs : ni_us s = true) (hk : ni_kd s = t) (hl : ni_ln s = n) (ht : 100 ≤ t ∧ ni_aks[t - 100]? = some ty) (hi : i = j) (hj : j < n) (hn : n ≤ 1000) (hL : j < L s) (hv : ni_vk t ad rw A s j = v) (hy : ni_ty v = tv) (k : wp_G xs d y q ls (v :: st) M Q) : wp_G xs d y pc ls (ni_z i :: .ref (ad s) :: st) M Q := by
  subst hi
  obtain ⟨c1, c2⟩ := ni_cpL h.1.2.2.1 hs hl (by omega)
  obtain ⟨vs, g1, g2, g3⟩ := h.1.2.1 s hs
  have hpl : ni_pl ad rw s = ad s := by
    unfold ni_pl
    rw [c2, cond_false]
  have hz := ni_clZ (x := (j : Int)) (by omega)
  have hg := g3 j (by omega) hL
  rw [hk, hv] at hg
  rw [hpl, hk] at g1
  refine wp_Ald hp g1 ⟨ht.1, ht.2, hz.1⟩ ?_ hy k
  rw [hz.2, Int.toNat_natCast]
  exact hg
theorem ws_Ast {ty : FieldType} {s n t j : Nat} {i x : Int} {tv : Nat} {L' : Nat → Nat} {w : Value} (hp : ni_prog xs y pc = ni_sAst ty tv q) (h : ni_Sx St M0 ad rw0 cp0 M rw cp A L) (hs : ni_us s = true) (hk : ni_kd s = t) (hl : ni_ln s = n) (ht : 100 ≤ t ∧ ni_aks[t - 100]? = some ty) (hi : i = j) (hj : j < n) (hn : n ≤ 1000) (hL : L' = L ∨ (L' = ni_u1 L s (j + 1) ∧ j = L s)) (hw : w = ni_vk t ad rw (ni_u2 A s j x) s j) (hy : ni_ty w = tv ∧ ni_fit ty w = true) (k : ∀ M', ni_Sx St M0 ad rw0 cp0 M' rw cp (ni_u2 A s j x) L' → wp_G xs d y q ls st M' Q) : wp_G xs d y pc ls (w :: ni_z i :: .ref (ad s) :: st) M Q := by
  subst hi
  obtain ⟨c1, c2⟩ := ni_cpL h.1.2.2.1 hs hl (by omega)
  obtain ⟨vs, g1, g2, g3⟩ := h.1.2.1 s hs
  have hpl : ni_pl ad rw s = ad s := by
    unfold ni_pl
    rw [c2, cond_false]
  have hz := ni_clZ (x := (j : Int)) (by omega)
  have g1' := g1
  rw [hpl, hk] at g1
  refine wp_Ast hp g1 ⟨ht.1, ht.2, hz.1, by rw [hz.2, Int.toNat_natCast]; omega, hy.1, hy.2⟩ rfl fun M' hM => k M' ⟨?_, ?_⟩
  · rw [hz.2, Int.toNat_natCast] at hM
    exact ni_repW (vs := vs) (w := w) h.1 hs g1' (by omega) (by rw [hk]; exact hw) (by rw [hpl, hk]; exact hM) hL (fun z => absurd z (by rw [hk]; omega))
  · refine ni_kpW (c0 := (ni_kd s, vs)) h.2 hs g1' (by rw [hpl]; exact hM) ?_
    exact List.length_set
end X
end NWS
