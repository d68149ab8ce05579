/-! COUNTS OF PACKETS -/
section NCT
def ni_sw (w : Int → Int) (g : Nat → Int) : Nat → Int
  | 0 => 0
  | n + 1 => ni_sw w g n + w (g n)
theorem ni_swC {w : Int → Int} {g g' : Nat → Int} : ∀ n : Nat, (∀ j, j < n → g j = g' j) → ni_sw w g n = ni_sw w g' n := by
  intro n
  induction n with
  | zero => intro _; rfl
  | succ n ih =>
    intro h
    show ni_sw w g n + w (g n) = ni_sw w g' n + w (g' n)
    rw [ih (fun j hj => h j (by omega)), h n (by omega)]
theorem ni_swS {w : Int → Int} {g g' : Nat → Int} {i : Nat} : ∀ n : Nat, i < n → (∀ j, j < n → j ≠ i → g' j = g j) → ni_sw w g' n = ni_sw w g n - w (g i) + w (g' i) := by
  intro n
  induction n with
  | zero => intro h; omega
  | succ n ih =>
    intro hi h
    show ni_sw w g' n + w (g' n) = ni_sw w g n + w (g n) - w (g i) + w (g' i)
    by_cases e : i = n
    · subst e
      rw [ni_swC (g' := g) i (fun j hj => h j (by omega) (by omega))]
      omega
    · rw [ih (by omega) (fun j hj hn => h j (by omega) hn), h n (by omega) (by omega)]
      omega
theorem ni_swH {w : Int → Int} {g g' : Nat → Int} {v : Nat} : ∀ n : Nat, v ≤ n → (∀ j, j < n → g' j = if j < v then g j else g (j + 1)) → ni_sw w g' n = ni_sw w g (n + 1) - w (g v) := by
  intro n
  induction n with
  | zero =>
    intro hv _
    have : v = 0 := by omega
    subst this
    show (0 : Int) = 0 + w (g 0) - w (g 0)
    omega
  | succ n ih =>
    intro hv h
    show ni_sw w g' n + w (g' n) = ni_sw w g (n + 1) + w (g (n + 1)) - w (g v)
    by_cases e : v = n + 1
    · have h1 : ni_sw w g' n + w (g' n) = ni_sw w g (n + 1) := ni_swC (w := w) (g := g') (g' := g) (n + 1) (fun j hj => by
        have := h j hj
        rw [if_pos (by omega)] at this
        exact this)
      rw [h1, e]
      omega
    · rw [ih (by omega) (fun j hj => h j (by omega)), h n (by omega), if_neg (by omega)]
      omega
theorem ni_swB {w : Int → Int} {g : Nat → Int} {c : Int} : ∀ n : Nat, (∀ j, j < n → 0 ≤ w (g j) ∧ w (g j) ≤ c) → 0 ≤ ni_sw w g n ∧ ni_sw w g n ≤ c * n := by
  intro n
  induction n with
  | zero => intro _; exact ⟨Int.le_refl _, by show (0 : Int) ≤ c * 0; omega⟩
  | succ n ih =>
    intro h
    have h1 := ih (fun j hj => h j (by omega))
    have h2 := h n (by omega)
    show 0 ≤ ni_sw w g n + w (g n) ∧ ni_sw w g n + w (g n) ≤ c * ((n + 1 : Nat) : Int)
    have e : c * ((n + 1 : Nat) : Int) = c * (n : Int) + c := by rw [Int.natCast_add, Int.mul_add]; simp
    rw [e]
    omega
theorem ni_swZ {w : Int → Int} {g : Nat → Int} : ∀ n : Nat, (∀ j, j < n → w (g j) = 0) → ni_sw w g n = 0 := by
  intro n
  induction n with
  | zero => intro _; rfl
  | succ n ih =>
    intro h
    show ni_sw w g n + w (g n) = 0
    rw [ih (fun j hj => h j (by omega)), h n (by omega)]
    rfl
theorem ni_swP {w : Int → Int} {g : Nat → Int} : ∀ n : Nat, (∀ j, j < n → 0 ≤ w (g j)) → 0 ≤ ni_sw w g n ∧ ∀ j, j < n → w (g j) ≤ ni_sw w g n := by
  intro n
  induction n with
  | zero => intro _; exact ⟨Int.le_refl _, fun j hj => by omega⟩
  | succ n ih =>
    intro h
    obtain ⟨h1, h2⟩ := ih (fun j hj => h j (by omega))
    have h3 := h n (by omega)
    show 0 ≤ ni_sw w g n + w (g n) ∧ ∀ j, j < n + 1 → w (g j) ≤ ni_sw w g n + w (g n)
    refine ⟨by omega, fun j hj => ?_⟩
    by_cases e : j = n
    · rw [e]
      omega
    · have := h2 j (by omega)
      omega
/-- is it a packet of the flow; its bytes; is it one at all -/
def ni_is (f : Nat) (x : Int) : Int := if x % 16 = f then 1 else 0
def ni_by (x : Int) : Int := x / 4096 % 512
def ni_an (x : Int) : Int := if x = -1 then 0 else 1
theorem ni_is01 {f : Nat} {x : Int} : 0 ≤ ni_is f x ∧ ni_is f x ≤ 1 := by
  unfold ni_is
  split <;> omega
theorem ni_isN {f : Nat} (h : f < 12) : ni_is f (-1) = 0 := by
  unfold ni_is
  rw [if_neg (by omega)]
/-- how many packets of a flow are at a port -/
def nq_W (A : Nat → Nat → Int) (p f : Nat) : Int := ni_sw (ni_is f) (A (p + 7)) (A p 10).toNat + ni_is f (A p 12) + ni_sw (ni_is f) (A (p + 4)) 21
def ni_In (A : Nat → Nat → Int) (f : Nat) : Nat → Int
  | 0 => 0
  | l + 1 => ni_In A f l + nq_W A (49 + 17 * l) f + nq_W A (57 + 17 * l) f
/-- a port's place -/
def ni_po (p : Nat) : Prop := 49 ≤ p ∧ p < 286 ∧ ((p - 49) % 17 = 0 ∨ (p - 49) % 17 = 8)
/-- its link -/
def ni_li (p : Nat) : Nat := 48 + 17 * ((p - 48) / 17)
theorem ni_InC {A A' : Nat → Nat → Int} {f : Nat} : ∀ n : Nat, (∀ l, l < n → nq_W A' (49 + 17 * l) f = nq_W A (49 + 17 * l) f ∧ nq_W A' (57 + 17 * l) f = nq_W A (57 + 17 * l) f) → ni_In A' f n = ni_In A f n := by
  intro n
  induction n with
  | zero => intro _; rfl
  | succ n ih =>
    intro h
    show ni_In A' f n + nq_W A' (49 + 17 * n) f + nq_W A' (57 + 17 * n) f = ni_In A f n + nq_W A (49 + 17 * n) f + nq_W A (57 + 17 * n) f
    rw [ih (fun l hl => h l (by omega)), (h n (by omega)).1, (h n (by omega)).2]
/-- one port alone is another -/
theorem ni_InU {A A' : Nat → Nat → Int} {f p : Nat} {d : Int} (hp : ni_po p) (hd : nq_W A' p f = nq_W A p f + d) (ho : ∀ q, ni_po q → q ≠ p → nq_W A' q f = nq_W A q f) : ni_In A' f 14 = ni_In A f 14 + d := by
  have key : ∀ n : Nat, n ≤ 14 → ni_In A' f n = ni_In A f n + if p < 49 + 17 * n then d else 0 := by
    unfold ni_po at hp ho
    intro n
    induction n with
    | zero =>
      intro _
      rw [if_neg (by omega)]
      show (0 : Int) = 0 + 0
      rfl
    | succ n ih =>
      intro hn
      have h1 := ih (by omega)
      show ni_In A' f n + nq_W A' (49 + 17 * n) f + nq_W A' (57 + 17 * n) f = ni_In A f n + nq_W A (49 + 17 * n) f + nq_W A (57 + 17 * n) f + _
      rw [h1]
      by_cases e1 : p = 49 + 17 * n
      · rw [← e1, hd, ho (57 + 17 * n) (by omega) (by omega), if_neg (by omega), if_pos (by omega)]
        omega
      · by_cases e2 : p = 57 + 17 * n
        · rw [← e2, hd, ho (49 + 17 * n) (by omega) (by omega), if_neg (by omega), if_pos (by omega)]
          omega
        · rw [ho (49 + 17 * n) (by omega) (by omega), ho (57 + 17 * n) (by omega) (by omega)]
          by_cases g : p < 49 + 17 * n
          · rw [if_pos g, if_pos (by omega)]
            omega
          · rw [if_neg g, if_neg (by omega)]
            omega
  have := key 14 (Nat.le_refl _)
  unfold ni_po at hp
  rw [if_pos (by omega)] at this
  exact this
theorem ni_WC {A A' : Nat → Nat → Int} {p f : Nat} (h10 : A' p 10 = A p 10) (h7 : ∀ j, A' (p + 7) j = A (p + 7) j) (h12 : A' p 12 = A p 12) (h4 : ∀ j, A' (p + 4) j = A (p + 4) j) : nq_W A' p f = nq_W A p f := by
  unfold nq_W
  rw [h10, h12, ni_swC (g := A' (p + 7)) (g' := A (p + 7)) _ (fun j _ => h7 j), ni_swC (g := A' (p + 4)) (g' := A (p + 4)) _ (fun j _ => h4 j)]
/-- a packet in order -/
def ni_PK (A : Nat → Nat → Int) (x : Int) : Prop := (0 ≤ x ∧ x ≤ 2147483647) ∧ x % 16 < A 0 3 ∧ (20 ≤ x / 4096 % 512) ∧ 1 ≤ x / 2097152 ∧ 0 ≤ A (12 + 3 * (x % 16).toNat) 4 ∧ A (12 + 3 * (x % 16).toNat) 4 + (x / 16 % 64) * A (12 + 3 * (x % 16).toNat) 5 ≤ A 0 0
/-- what doesn't change in a tick but at its end -/
def ni_cs0 (A A' : Nat → Nat → Int) : Prop := A' 0 0 = A 0 0 ∧ A' 0 1 = A 0 1 ∧ A' 0 2 = A 0 2 ∧ A' 0 3 = A 0 3 ∧ (∀ f : Nat, f < 12 → ∀ j : Nat, j < 9 → A' (12 + 3 * f) j = A (12 + 3 * f) j) ∧ ∀ l : Nat, l < 14 → ∀ j : Nat, A' (48 + 17 * l) j = A (48 + 17 * l) j
theorem ni_PKc {A A' : Nat → Nat → Int} {x : Int} (h : ni_PK A x) (hc : ni_cs0 A A') (h3 : A 0 3 ≤ 12) : ni_PK A' x := by
  obtain ⟨c0, c1, c2, c3, cf, cl⟩ := hc
  obtain ⟨h1, h2, h4⟩ := h
  refine ⟨h1, by rw [c3]; exact h2, ?_⟩
  rw [c0, cf (x % 16).toNat (by omega) 4 (by omega), cf (x % 16).toNat (by omega) 5 (by omega)]
  exact h4
end NCT
