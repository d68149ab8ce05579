/-! TWO NETS IN ONE HEAP -/
section NPR
variable {xs : List Int32} {St : Nat → Option ni_C} {A B : Nat → Nat → Int} {M M' : ni_H} {ad rw cp ad' rw' cp' rw2 cp2 : Nat → Nat}
/-- apart -/
def np_dj (ad rw ad' rw' : Nat → Nat) : Prop := ∀ s t, ni_us s = true → ni_us t = true → ni_pl ad rw s ≠ ni_pl ad' rw' t
/-- two nets, and room for both -/
def np_R (St : Nat → Option ni_C) (M : ni_H) (ad rw cp ad' rw' cp' : Nat → Nat) (A B : Nat → Nat → Int) : Prop := ni_Rep St M ad rw cp A (ni_live A) ∧ ni_Rep St M ad' rw' cp' B (ni_live B) ∧ np_dj ad rw ad' rw' ∧ M.1.length + 114688 ≤ 900000 + ni_gz cp + ni_gz cp'
theorem np_sw (h : np_R St M ad rw cp ad' rw' cp' A B) : np_R St M ad' rw' cp' ad rw cp B A := ⟨h.2.1, h.1, fun s t hs ht e => h.2.2.1 t s ht hs e.symm, by have := h.2.2.2; omega⟩
theorem np_gz (h : ni_cpO cp) : ni_gz cp ≤ 57344 := by
  have : ∀ L : List Nat, (∀ p ∈ L, p ∈ ni_lns) → (L.map fun p => cp (p + 1)).sum ≤ 2048 * L.length := by
    intro L
    induction L with
    | nil => intro _; exact Nat.le_refl _
    | cons a L ih =>
      intro hh
      rw [List.map_cons, List.sum_cons, List.length_cons]
      have h1 := ih (fun p hp => hh p (List.mem_cons_of_mem _ hp))
      have h2 := (ni_cpB h (hh a List.mem_cons_self)).2.2
      omega
  have g := this ni_lns (fun _ h => h)
  have e : ni_lns.length = 28 := by decide +kernel
  rw [e] at g
  unfold ni_gz
  omega
theorem np_lt {L : Nat → Nat} (h : ni_Rep St M ad rw cp A L) {s : Nat} (hs : ni_us s = true) : ni_pl ad rw s < M.1.length := by
  obtain ⟨vs, g, _⟩ := h.2.1 s hs
  exact (List.getElem?_eq_some_iff.mp g).1
/-- the one goes on, the other stays -/
theorem np_go {A' : Nat → Nat → Int} (h : np_R St M ad rw cp ad' rw' cp' A B) (hR : ni_Rep St M' ad rw2 cp2 A' (ni_live A')) (hK : ni_Kp M ad rw cp M' rw2 cp2) : np_R St M' ad rw2 cp2 ad' rw' cp' A' B := by
  obtain ⟨h1, h2, h3, h4⟩ := h
  obtain ⟨k1, k2, k3, k4, k5⟩ := hK
  have hdj : np_dj ad rw2 ad' rw' := fun s t hs ht e => by
    have hlt := np_lt h2 ht
    have h3s := h3 s t hs ht
    unfold ni_pl at e h3s hlt
    cases hl : ni_lr s with
    | false =>
      rw [hl, cond_false] at e h3s
      exact h3s e
    | true =>
      rw [hl, cond_true] at e h3s
      rcases k2 s hs with z | z
      · rw [z] at e
        exact h3s e
      · omega
  obtain ⟨r1, r2, r3, r4, r5, r6, r7, r8⟩ := h2
  have g1 := np_gz h1.2.2.1
  have g2 := np_gz hR.2.2.1
  have g3 := np_gz r3
  refine ⟨hR, ⟨r1, fun s hs => ?_, r3, r4, fun a c hac => ⟨(hR.2.2.2.2.1 a c hac).1, (r5 a c hac).2⟩, hR.2.2.2.2.2.1, by omega, r8⟩, hdj, by omega⟩
  obtain ⟨vs, w1, w2, w3⟩ := r2 s hs
  refine ⟨vs, ?_, w2, w3⟩
  rw [k1 _ ((List.getElem?_eq_some_iff.mp w1).1) (fun t ht => h3 t s ht hs)]
  exact w1
/-- cells of a net as cells that stay -/
theorem np_cells {L : Nat → Nat} (h : ni_Rep St M ad rw cp A L) : ∃ St' : Nat → Option ni_C, (∀ a c, St a = some c → St' a = some c) ∧ (∀ s, ni_us s = true → St' (ni_pl ad rw s) = M.1[ni_pl ad rw s]?) ∧ ∀ a c, St' a = some c → M.1[a]? = some c ∧ (St a = some c ∨ ∃ s, ni_us s = true ∧ ni_pl ad rw s = a) := by
  classical
  refine ⟨fun a => if ∃ s, ni_us s = true ∧ ni_pl ad rw s = a then M.1[a]? else St a, fun a c hac => ?_, fun s hs => ?_, fun a c hac => ?_⟩
  · show (if _ then _ else _) = _
    rw [if_neg ?_]
    · exact hac
    · rintro ⟨s, hs, e⟩
      exact (h.2.2.2.2.1 a c hac).2 s hs e
  · show (if (∃ s', ni_us s' = true ∧ ni_pl ad rw s' = ni_pl ad rw s) then _ else _) = _
    exact if_pos ⟨s, hs, rfl⟩
  · dsimp only at hac
    by_cases g : ∃ s, ni_us s = true ∧ ni_pl ad rw s = a
    · rw [if_pos g] at hac
      exact ⟨hac, Or.inr g⟩
    · rw [if_neg g] at hac
      exact ⟨(h.2.2.2.2.1 a c hac).1, Or.inl hac⟩
theorem nk_okS {St' : Nat → Option ni_C} (hSt : ∀ a c, St a = some c → St' a = some c) (h : nk_ok St A) : nk_ok St' A := by
  obtain ⟨h1, h2, h3, h4, h5, h6, h7, h8⟩ := h
  refine ⟨h1, h2, h3, h4, h5, fun r hr hr1 => ?_, fun l hl hl1 => ?_, h8⟩
  · obtain ⟨g1, g2, g3, g4⟩ := h6 r hr hr1
    refine ⟨g1, g2, g3, fun i hi => ?_⟩
    obtain ⟨z, c, c1, c2⟩ := g4 i hi
    exact ⟨z, c, hSt _ _ c1, c2⟩
  · obtain ⟨g1, ⟨a1, a2, a3, a4⟩, b1, b2, b3, b4⟩ := h7 l hl hl1
    refine ⟨g1, ⟨a1, a2, a3, fun i hi => ?_⟩, b1, b2, b3, fun i hi => ?_⟩
    · obtain ⟨z, c, c1, c2⟩ := a4 i hi
      exact ⟨z, c, hSt _ _ c1, c2⟩
    · obtain ⟨z, c, c1, c2⟩ := b4 i hi
      exact ⟨z, c, hSt _ _ c1, c2⟩
theorem nk_lrPA : ((List.range 374).all fun s => !(ni_us s) || !(ni_lr s) || (decide (s - 1 ∈ ni_lns ∧ 1 ≤ s ∧ ni_ct s = (s - 1, 2)) || decide (s - 2 ∈ ni_lns ∧ 2 ≤ s ∧ ni_ct s = (s - 2, 2)))) = true := by decide +kernel
theorem nk_lrP {s : Nat} (hs : ni_us s = true) (hl : ni_lr s = true) : ∃ p, p ∈ ni_lns ∧ ((s = p + 1 ∧ ni_ct s = (p, 2)) ∨ (s = p + 2 ∧ ni_ct s = (p, 2))) := by
  have e := List.all_eq_true.mp nk_lrPA s (List.mem_range.mpr (ni_usT hs).1)
  rw [hs, hl] at e
  simp only [Bool.not_true, Bool.false_or, Bool.or_eq_true, decide_eq_true_eq] at e
  rcases e with ⟨e1, e2, e3⟩ | ⟨e1, e2, e3⟩
  · exact ⟨s - 1, e1, Or.inl ⟨by omega, e3⟩⟩
  · exact ⟨s - 2, e1, Or.inr ⟨by omega, e3⟩⟩
theorem np_src {St' : Nat → Option ni_C} (h : ni_Rep St M ad rw cp A (ni_live A)) (hS : ∀ s, ni_us s = true → St' (ni_pl ad rw s) = M.1[ni_pl ad rw s]?) : nk_src St' ad rw A := by
  intro s hs
  obtain ⟨vs, w1, w2, w3⟩ := h.2.1 s hs
  refine ⟨vs, (hS s hs).trans w1, fun hl => ?_, fun hl => ?_, fun j hj hjL => w3 j (by omega) hjL⟩
  · rw [w2]
    exact h.2.2.1.1 s hs hl
  · obtain ⟨p, hp, hp2⟩ := nk_lrP hs hl
    have hb := ni_cpB h.2.2.1 hp
    obtain ⟨c1, k, k1, k2⟩ := h.2.2.1.2 p hp
    have h4 := h.2.2.2.1 p hp
    rcases hp2 with ⟨e, ec⟩ | ⟨e, ec⟩
    · rw [e] at w2 ec ⊢
      have hp374 := (ni_lnP hp).2.1
      rw [ni_liveC ec (by omega), w2]
      exact ⟨by omega, k, k1, k2⟩
    · rw [e] at w2 ec ⊢
      have hp374 := (ni_lnP hp).2.1
      rw [ni_liveC ec (by omega), w2, c1]
      exact ⟨by omega, k, k1, k2⟩
/-- THE COPY: ahead becomes what the net is -/
theorem np_copy (h : np_R St M ad rw cp ad' rw' cp' A B) (hok : nk_ok St A) (hid : ∀ r : Nat, r < 8 → B (286 + 11 * r) 0 = r) (hdead : ∀ s j, nq_dead A s → B s j = A s j) : wp_C xs 6 77 [.ref (ad' 0), .ref (ad 0)] M (fun u M' => u = none ∧ ∃ rw2 cp2, np_R St M' ad rw cp ad' rw2 cp2 A A ∧ ni_Kp M ad' rw' cp' M' rw2 cp2) := by
  obtain ⟨St', s1, s2, s3⟩ := np_cells h.1
  obtain ⟨h1, h2, h3, h4⟩ := h
  have hX := np_src h1 s2
  have g := mt_cpNet (xs := xs) hX (nk_okS s1 hok) hid hdead
  obtain ⟨r1, r2, r3, r4, r5, r6, r7, r8⟩ := h2
  have hB : ni_Rep St' M ad' rw' cp' B (ni_live B) := ⟨r1, r2, r3, r4, fun a c hac => ⟨(s3 a c hac).1, fun t ht e => ?_⟩, r6, r7, r8⟩
  · have g := g M ad' rw' cp' hB
    obtain ⟨u, M2, c1, hu, rw2, cp2, hR2, hK2⟩ := g
    refine ⟨u, M2, c1, ?_⟩
    obtain ⟨q1, q2, q3, q4, q5, q6, q7, q8⟩ := hR2
    obtain ⟨p1, p2, p3, p4, p5, p6, p7, p8⟩ := h1
    obtain ⟨k1, k2, k3, k4, k5⟩ := hK2
    have g1 := np_gz p3
    have g2 := np_gz q3
    have g3 := np_gz r3
    refine ⟨hu, rw2, cp2, ⟨⟨p1, fun s hs => ?_, p3, p4, fun a c hac => ⟨(q5 a c (s1 a c hac)).1, (p5 a c hac).2⟩, q6, by omega, p8⟩, ⟨q1, q2, q3, q4, fun a c hac => q5 a c (s1 a c hac), q6, q7, q8⟩, fun s t hs ht e => ?_, by omega⟩, k1, k2, k3, k4, k5⟩
    · obtain ⟨vs, w1, w2, w3⟩ := p2 s hs
      exact ⟨vs, (q5 _ _ ((s2 s hs).trans w1)).1, w2, w3⟩
    · obtain ⟨vs, w1, w2, w3⟩ := p2 s hs
      exact (q5 _ _ ((s2 s hs).trans w1)).2 t ht e.symm
  · rcases (s3 a c hac).2 with z | ⟨s, hs, z⟩
    · exact (r5 a c z).2 t ht e
    · exact h3 s t hs ht (z.trans e.symm)
end NPR
