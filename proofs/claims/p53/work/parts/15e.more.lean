/-! READS OVER WRITES, COUNTS -/
section NZM
theorem ni_u2e {A : Nat → Nat → Int} {s j : Nat} {x : Int} : ni_u2 A s j x s j = x := by
  unfold ni_u2
  rw [if_pos ⟨rfl, rfl⟩]
theorem ni_u2n {A : Nat → Nat → Int} {s j s' j' : Nat} {x : Int} (h : s' ≠ s ∨ j' ≠ j) : ni_u2 A s j x s' j' = A s' j' := by
  unfold ni_u2
  rw [if_neg (fun z => h.elim (fun g => g z.1) (fun g => g z.2))]
theorem ni_liveC {A : Nat → Nat → Int} {s u k : Nat} (h : ni_ct s = (u, k)) (hu : u < 998) : ni_live A s = (A u k).toNat := by
  unfold ni_live
  rw [h]
  dsimp only
  have e1 : Nat.beq u 999 = false := by
    cases e : Nat.beq u 999 with
    | false => rfl
    | true =>
      have := Nat.eq_of_beq_eq_true e
      omega
  have e2 : Nat.beq u 998 = false := by
    cases e : Nat.beq u 998 with
    | false => rfl
    | true =>
      have := Nat.eq_of_beq_eq_true e
      omega
  rw [e1, e2, cond_false, cond_false]
theorem ni_LQ {A : Nat → Nat → Int} {s u k j : Nat} (h : ni_ct s = (u, k)) (hu : u < 998) (hj : (j : Int) < A u k) : j < ni_live A s := by
  rw [ni_liveC h hu]
  omega
theorem ni_LR {St : Nat → Option ni_C} {M0 M : ni_H} {ad rw0 cp0 rw cp : Nat → Nat} {A : Nat → Nat → Int} {L : Nat → Nat} {s j : Nat} (h : ni_Sx St M0 ad rw0 cp0 M rw cp A L) (hs : ni_us s = true) (hc : (ni_ct s).1 = 999) (hj : j < 1000) : j < L s := Nat.lt_of_lt_of_le hj (h.1.2.2.2.2.2.2.2 s hs hc)
theorem ni_fitB {x : Int} (h : x = 0 ∨ x = 1) : ni_fit .boolean (ni_z x) = true := by
  rcases h with h | h <;> subst h <;> rfl
/-- the row of a port, one longer -/
theorem ni_inc5 {L : Nat → Nat} {p n s' : Nat} {x : Int} (hs : ni_us p = true) (hk : ni_kd p = 5) (hs' : ni_us s' = true) (e : ni_ct s' = (p, 10)) (hx : x.toNat ≤ n) : x.toNat ≤ ni_u1 L (p + 7) n s' := by
  have hp := (ni_usT hs).1
  obtain ⟨g1, g2, g3⟩ := ni_ctS hs' e (by omega)
  rw [hk] at g3
  have : s' = p + 7 := by omega
  unfold ni_u1
  rw [if_pos this]
  exact hx
theorem wp_I0 {f : Int32 → Int32 → Int32} {a b c : Int} {q : Nat} {r : List Value} (h : ¬ Int32.ofInt b = 0 ∧ f (Int32.ofInt a) (Int32.ofInt b) = Int32.ofInt c) : ni_gI0 f q (ni_z b :: ni_z a :: r) = some (q, ni_z c :: r) := by
  show (if Int32.ofInt b = 0 then none else some (q, Value.int (f (Int32.ofInt a) (Int32.ofInt b)) :: r)) = _
  rw [if_neg h.1, h.2]
theorem wp_IM {f : Int32 → Int32 → Int32} {a b c : Int} {q : Nat} {r : List Value} (h : ni_cs r ≤ 8 ∧ f (Int32.ofInt a) (Int32.ofInt b) = Int32.ofInt c) : ni_gIM f q (ni_z b :: ni_z a :: r) = some (q, ni_z c :: r) := by
  show (if ni_cs r ≤ 8 then some (q, Value.int (f (Int32.ofInt a) (Int32.ofInt b)) :: r) else none) = _
  rw [if_pos h.1, h.2]
theorem zi_div {a b : Int} (ha : ni_R32 a) (hb : 0 < b ∧ b ≤ 2147483647) (h0 : 0 ≤ a) : ¬ Int32.ofInt b = 0 ∧ Int32.ofInt a / Int32.ofInt b = Int32.ofInt (a / b) := by
  have hbr : ni_R32 b := ⟨by omega, by omega⟩
  refine ⟨fun z => ?_, ?_⟩
  · have := (ni_eqZ hbr zz_0).mp z
    omega
  · have g1 : 0 ≤ a / b := Int.ediv_nonneg h0 (by omega)
    have g2 : a / b ≤ a := Int.ediv_le_self b h0
    rw [← Int32.toInt_inj, Int32.toInt_div, ni_toZ ha, ni_toZ hbr, ni_toZ ⟨by omega, by omega⟩, Int.tdiv_eq_ediv_of_nonneg h0]
    exact Int.bmod_eq_of_le (by omega) (by omega)
theorem zi_rem {a b : Int} (ha : ni_R32 a) (hb : 0 < b ∧ b ≤ 2147483647) (h0 : 0 ≤ a) : ¬ Int32.ofInt b = 0 ∧ Int32.ofInt a - Int32.ofInt a / Int32.ofInt b * Int32.ofInt b = Int32.ofInt (a % b) := by
  obtain ⟨h1, h2⟩ := zi_div ha hb h0
  refine ⟨h1, ?_⟩
  rw [h2, ← Int32.ofInt_mul, ← Int32.ofInt_sub]
  congr 1
  have := Int.emod_def a b
  rw [this, Int.mul_comm]
theorem zi_min {a b : Int} (ha : ni_R32 a) (hb : ni_R32 b) : (fun x y : Int32 => if y < x then y else x) (Int32.ofInt a) (Int32.ofInt b) = Int32.ofInt (min a b) := by
  show (if Int32.ofInt b < Int32.ofInt a then Int32.ofInt b else Int32.ofInt a) = _
  by_cases h : b < a
  · rw [if_pos ((ni_ltZ hb ha).mpr h), Int.min_eq_right (by omega)]
  · rw [if_neg (fun z => h ((ni_ltZ hb ha).mp z)), Int.min_eq_left (by omega)]
theorem zi_max {a b : Int} (ha : ni_R32 a) (hb : ni_R32 b) : (fun x y : Int32 => if x < y then y else x) (Int32.ofInt a) (Int32.ofInt b) = Int32.ofInt (max a b) := by
  show (if Int32.ofInt a < Int32.ofInt b then Int32.ofInt b else Int32.ofInt a) = _
  by_cases h : a < b
  · rw [if_pos ((ni_ltZ ha hb).mpr h), Int.max_eq_right (by omega)]
  · rw [if_neg (fun z => h ((ni_ltZ ha hb).mp z)), Int.max_eq_left (by omega)]
end NZM
