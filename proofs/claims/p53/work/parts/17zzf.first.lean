/-! A NEW OBJECT: WHAT ITS NETS HOLD -/
section NFI
variable {M : ni_H} {A : Nat → Nat → Int} {St : Nat → Option ni_C}
theorem na_rk {c s j t : Nat} (h : ni_rk c s j = some (.inl t) ∨ ni_rk c s j = some (.inr t)) (hs : s < 400) (hj : j < 1000) : t < ni_big := by
  have hb : 20000 < ni_big := by decide
  have key : t < 20000 := by
    unfold ni_rk at h
    rcases h with h | h
    · repeat' split at h
      all_goals (first | (cases h; done) | (cases h; omega))
    · repeat' split at h
      all_goals (first | (cases h; done) | (cases h; omega))
  omega
theorem na_sh {t b s j : Nat} (hs : s < 400) (hj : j < 1000) (ht : t = 104 → 286 ≤ s) : ni_sh (fun k => b + k) (ni_vk t (fun k => k) (fun k => k) (fun s j => na_v t 0 s j) s j) = ni_vk t (fun k => b + k) (fun k => b + k) (fun s j => na_v t b s j) s j := by
  have hk := fun u => na_rk (c := t) (s := s) (j := j) (t := u)
  unfold ni_vk
  generalize ni_rk t s j = o at hk ⊢
  match o, hk with
  | some (.inl u), hk => exact ni_shR (hk u (Or.inl rfl) hs hj)
  | some (.inr u), hk => exact ni_shR (hk u (Or.inr rfl) hs hj)
  | none, hk =>
    dsimp only
    by_cases c : t = 104
    · subst c
      have h286 := ht rfl
      have e : ∀ b : Nat, na_v 104 b s j = ((b + s - 3 : Nat) : Int) := fun b => by
        have : Nat.blt s 286 = false := by
          cases hh : Nat.blt s 286 with
          | false => rfl
          | true => have := Nat.le_of_ble_eq_true hh; omega
        show cond (Nat.blt s 286) 0 ((b + s - 3 : Nat) : Int) = _
        rw [this, cond_false]
      rw [e, e, show Nat.beq 104 104 = true from rfl, cond_true, cond_true, Int.toNat_natCast, Int.toNat_natCast]
      have hbig : 1000 < ni_big := by decide
      rw [ni_shR (by omega)]
      show Value.ref (b + (0 + s - 3)) = Value.ref (b + s - 3)
      rw [show b + (0 + s - 3) = b + s - 3 by omega]
    · have hbq : Nat.beq t 104 = false := by
        cases hh : Nat.beq t 104 with
        | false => rfl
        | true => exact absurd (Nat.eq_of_beq_eq_true hh) c
      rw [hbq, cond_false, cond_false]
      have e : na_v t 0 s j = na_v t b s j := by
        unfold na_v
        split <;> first | rfl | exact absurd rfl c
      rw [e]
      rfl
def na_cp (s : Nat) : Nat := cond (ni_lr s) 8 (ni_ln s)
def na_L (u s : Nat) : Nat := cond (ni_lr s && Nat.beq (ni_kd s) 104) 0 (cond (Nat.beq (ni_ct s).1 998) u 1000)
theorem na_f1 : ((List.range 374).all fun s => !(ni_us s) || ((!(ni_lr s) || (!(Nat.beq (ni_kd s) 104) || !(Nat.beq (ni_ct s).1 999))) && (!(ni_lr s) || (Nat.beq (ni_kd s) 104 || (Nat.beq (ni_kd s) 100 && Nat.ble 48 s && Nat.blt s 286 && !(Nat.beq ((s - 48) % 17) 5 || Nat.beq ((s - 48) % 17) 13) && !(Nat.beq ((s - 48) % 17) 6 || Nat.beq ((s - 48) % 17) 14)))) && (ni_lr s || !(Nat.beq (ni_kd s) 104) || (Nat.ble 286 s && Nat.beq (ni_ct s).1 998)) && Nat.ble (ni_ln s) 999)) = true := by decide +kernel
theorem na_f2 : (ni_lns.all fun p => ni_lr (p + 1) && ni_lr (p + 2) && Nat.beq (ni_kd p) 2) = true := by decide +kernel
theorem na_gz : ni_gz na_cp = 224 := by decide +kernel
theorem na_Rep {R0 : List ni_C} {b u : Nat} (hl : R0.length = 374) (hck : na_all R0 0 = true) (hM : ∀ s c, R0[s]? = some c → M.1[b + s]? = some (ni_sc (fun k => b + k) c)) (h2 : M.2 = 0) (hlen : M.1.length ≤ 1000) (hu : u = 0 ∨ b = 1) (hSt : ∀ a c, St a = some c → M.1[a]? = some c ∧ ∀ s, ni_us s = true → b + s ≠ a) : ni_Rep St M (fun s => b + s) (fun s => b + s) na_cp (na_A 1) (na_L u) := by
  have hpl : ∀ s, ni_pl (fun s => b + s) (fun s => b + s) s = b + s := fun s => by
    unfold ni_pl
    cases ni_lr s <;> rfl
  have hF : ∀ s, ni_us s = true → _ := fun s hs => List.all_eq_true.mp na_f1 s (List.mem_range.mpr (ni_usT hs).1)
  refine ⟨fun s t _ _ h => ?_, fun s hs => ?_, ⟨fun s hs hr => ?_, fun p hp => ?_⟩, fun p hp => ?_, fun a c ha => ?_, h2, by rw [na_gz]; omega, fun s hs h9 => ?_⟩
  · rw [hpl, hpl] at h
    omega
  · have h374 := (ni_usT hs).1
    obtain ⟨c, hc⟩ : ∃ c, R0[s]? = some c := ⟨R0[s], List.getElem?_eq_getElem (by omega)⟩
    have hk := na_allS R0 0 s c hck hc
    rw [Nat.zero_add] at hk
    obtain ⟨t, vs⟩ := c
    have g := hF s hs
    unfold na_ck at hk
    dsimp only at hk
    rw [hs, cond_true, Bool.and_eq_true] at hk
    obtain ⟨k1, k2⟩ := hk
    have k1 := Nat.eq_of_beq_eq_true k1
    subst k1
    rw [hs] at g
    simp only [Bool.not_true, Bool.false_or, Bool.and_eq_true] at g
    obtain ⟨⟨⟨g1, g2⟩, g3⟩, g4⟩ := g
    rw [hpl]
    refine ⟨vs.map (ni_sh (fun k => b + k)), hM s _ hc, ?_, fun j hj hjL => ?_⟩
    · rw [List.length_map]
      unfold na_cp
      cases hr : ni_lr s with
      | true =>
        rw [hr, cond_true, Bool.and_eq_true] at k2
        exact Nat.eq_of_beq_eq_true k2.1
      | false =>
        rw [hr, cond_false, Bool.and_eq_true] at k2
        exact Nat.eq_of_beq_eq_true k2.1
    · rw [List.getElem?_map]
      cases hr : ni_lr s with
      | true =>
        rw [hr, cond_true, Bool.and_eq_true] at k2
        unfold na_cp at hj
        rw [hr, cond_true] at hj
        unfold na_L at hjL
        rw [hr, Bool.true_and] at hjL
        cases h4 : Nat.beq (ni_kd s) 104 with
        | true =>
          rw [h4, cond_true] at hjL
          omega
        | false =>
          rw [h4, Bool.false_or] at k2
          have e8 := eq_of_beq k2.2
          rw [e8, List.getElem?_replicate_of_lt hj]
          rw [hr, h4] at g2
          simp only [Bool.not_true, Bool.false_or, Bool.and_eq_true] at g2
          obtain ⟨⟨⟨⟨w1, w2⟩, w3⟩, w4⟩, w5⟩ := g2
          have e100 := Nat.eq_of_beq_eq_true w1
          have w2 := Nat.le_of_ble_eq_true w2
          have n48 : Nat.blt s 48 = false := by
            cases hh : Nat.blt s 48 with
            | false => rfl
            | true => have := Nat.le_of_ble_eq_true hh; omega
          have ev : na_A 1 s j = 0 := by
            unfold na_A
            rw [e100]
            show cond (Nat.blt s 286) (cond (Nat.blt s 48) 0 (cond (Nat.beq ((s - 48) % 17) 5 || Nat.beq ((s - 48) % 17) 13) (-1) (cond (Nat.beq ((s - 48) % 17) 6 || Nat.beq ((s - 48) % 17) 14) 1 0))) _ = 0
            rw [w3, cond_true, n48, cond_false, Bool.not_eq_true' _ |>.mp w4, cond_false, Bool.not_eq_true' _ |>.mp w5, cond_false]
          rw [e100]
          show some (Value.int 0) = some (ni_z (na_A 1 s j))
          rw [ev]
          rfl
      | false =>
        rw [hr, cond_false, Bool.and_eq_true] at k2
        unfold na_cp at hj
        rw [hr, cond_false] at hj
        have ev := eq_of_beq k2.2
        have g4 := Nat.le_of_ble_eq_true g4
        rw [ev, List.getElem?_map, List.getElem?_range hj, Option.map_some, Option.map_some]
        have h104 : ni_kd s = 104 → 286 ≤ s ∧ Nat.beq (ni_ct s).1 998 = true := fun e => by
          rw [hr, e] at g3
          simp only [Bool.false_or, show Nat.beq 104 104 = true from rfl, Bool.not_true, Bool.and_eq_true] at g3
          exact ⟨Nat.le_of_ble_eq_true g3.1, g3.2⟩
        rw [na_sh (by omega) (by omega) (fun e => (h104 e).1)]
        have e2 : na_v (ni_kd s) b s j = na_v (ni_kd s) 1 s j := by
          by_cases c : ni_kd s = 104
          · rcases hu with z | z
            · unfold na_L at hjL
              rw [hr, Bool.false_and, cond_false, (h104 c).2, cond_true] at hjL
              omega
            · rw [z]
          · generalize ni_kd s = t at c ⊢
            unfold na_v
            split <;> first | rfl | exact absurd rfl c
        show some (ni_vk (ni_kd s) _ _ (fun s' j' => na_v (ni_kd s) b s' j') s j) = some (ni_vk (ni_kd s) _ _ (na_A 1) s j)
        have e3 : (fun s' j' => na_v (ni_kd s) b s' j') s j = na_A 1 s j := e2
        unfold ni_vk
        rw [e3]
  · unfold na_cp
    rw [hr, cond_false]
  · have g := List.all_eq_true.mp na_f2 p hp
    simp only [Bool.and_eq_true] at g
    unfold na_cp
    rw [g.1.1, g.1.2]
    exact ⟨rfl, 0, by omega, rfl⟩
  · have g := List.all_eq_true.mp na_f2 p hp
    simp only [Bool.and_eq_true] at g
    have e : na_A 1 p 2 = 0 := by
      unfold na_A
      rw [Nat.eq_of_beq_eq_true g.2]
      rfl
    rw [e]
    exact Int.natCast_nonneg _
  · obtain ⟨z1, z2⟩ := hSt a c ha
    exact ⟨z1, fun s hs => by rw [hpl]; exact z2 s hs⟩
  · have g := hF s hs
    rw [hs] at g
    simp only [Bool.not_true, Bool.false_or, Bool.and_eq_true] at g
    obtain ⟨⟨⟨g1, g2⟩, g3⟩, g4⟩ := g
    unfold na_L
    rw [h9]
    cases hr : ni_lr s with
    | false =>
      rw [Bool.false_and, cond_false]
      exact Nat.le_refl _
    | true =>
      rw [hr, h9] at g1
      cases h4 : Nat.beq (ni_kd s) 104 with
      | true =>
        rw [h4] at g1
        cases g1
      | false => exact Nat.le_refl _
end NFI
