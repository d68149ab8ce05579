/-! ISSOUND SAYS TRUE -/
section NSQ
variable {Z : (Nat → Nat) → Prop} {m n0 n1 : Nat} {xs : List Int32} {St : Nat → Option ni_C} {A : Nat → Nat → Int}
theorem nz_Sa {g h : Nat → Int} : ∀ n : Nat, nz_S (fun f => g f + h f) n = nz_S g n + nz_S h n := by
  intro n
  induction n with
  | zero => rfl
  | succ n ih =>
    show nz_S _ n + (g n + h n) = (nz_S g n + g n) + (nz_S h n + h n)
    rw [ih]
    omega
theorem nz_Sc {g h : Nat → Int} : ∀ n : Nat, (∀ f : Nat, f < n → g f = h f) → nz_S g n = nz_S h n := by
  intro n
  induction n with
  | zero => intro _; rfl
  | succ n ih =>
    intro hh
    show nz_S g n + g n = nz_S h n + h n
    rw [ih (fun f hf => hh f (by omega)), hh n (by omega)]
theorem nz_S0 : ∀ n : Nat, nz_S (fun _ => 0) n = 0 := by
  intro n
  induction n with
  | zero => rfl
  | succ n ih =>
    show nz_S (fun _ => 0) n + 0 = 0
    rw [ih]
    rfl
/-- a packet is one flow's -/
theorem nz_is {x : Int} {nf : Nat} (hx : 0 ≤ x) (hn : x % 16 < nf) : nz_S (fun f => ni_is f x) nf = 1 := by
  have key : ∀ n : Nat, nz_S (fun f => ni_is f x) n = if x % 16 < n then 1 else 0 := by
    intro n
    induction n with
    | zero =>
      rw [if_neg (by omega)]
      rfl
    | succ n ih =>
      show nz_S (fun f => ni_is f x) n + ni_is n x = _
      rw [ih]
      unfold ni_is
      by_cases c : x % 16 = n
      · rw [if_neg (by omega), if_pos c, if_pos (by omega)]
        rfl
      · rw [if_neg c]
        by_cases c2 : x % 16 < n
        · rw [if_pos c2, if_pos (by omega)]
          rfl
        · rw [if_neg c2, if_neg (by omega)]
          rfl
  rw [key, if_pos hn]
theorem nz_isN {nf : Nat} (hn : nf ≤ 12) : nz_S (fun f => ni_is f (-1)) nf = 0 := by
  rw [nz_Sc (h := fun _ => 0) nf (fun f hf => ni_isN (by omega)), nz_S0]
theorem nz_sw {g : Nat → Int} {nf : Nat} : ∀ n : Nat, nz_S (fun f => ni_sw (ni_is f) g n) nf = ni_sw (fun x => nz_S (fun f => ni_is f x) nf) g n := by
  intro n
  induction n with
  | zero => exact nz_S0 nf
  | succ n ih =>
    show nz_S (fun f => ni_sw (ni_is f) g n + ni_is f (g n)) nf = ni_sw _ g n + nz_S (fun f => ni_is f (g n)) nf
    rw [nz_Sa, ih]
theorem nz_sw1 {w : Int → Int} {g : Nat → Int} : ∀ n : Nat, (∀ i : Nat, i < n → w (g i) = 1) → ni_sw w g n = n := by
  intro n
  induction n with
  | zero => intro _; rfl
  | succ n ih =>
    intro h
    show ni_sw w g n + w (g n) = _
    rw [ih (fun i hi => h i (by omega)), h n (by omega)]
    omega
theorem nz_swC {w w' : Int → Int} {g : Nat → Int} : ∀ n : Nat, (∀ i : Nat, i < n → w (g i) = w' (g i)) → ni_sw w g n = ni_sw w' g n := by
  intro n
  induction n with
  | zero => intro _; rfl
  | succ n ih =>
    intro h
    show ni_sw w g n + w (g n) = ni_sw w' g n + w' (g n)
    rw [ih (fun i hi => h i (by omega)), h n (by omega)]
/-- the packets of a port, of all flows -/
theorem nz_W {p nf : Nat} {e : Int} (h : nq_PI A p 0 e) (hnf : A 0 3 = nf) (h12 : nf ≤ 12) : nz_S (fun f => nq_W A p f) nf = nz_P A p + A (p + 1) 4 := by
  obtain ⟨z1, z2, z3, z4, z5, z6, z7, z8, z9, z10, z11, z12⟩ := h
  have pk : ∀ x, ni_PK A x → nz_S (fun f => ni_is f x) nf = 1 := fun x hx => nz_is hx.1.1 (by have := hx.2.1; omega)
  unfold nq_W
  rw [nz_Sa, nz_Sa, nz_sw, nz_sw, nz_sw1 _ (fun i hi => pk _ (z7 i (by omega))), z11, nz_swC (w' := ni_an) 21 (fun i hi => ?_)]
  · unfold nz_P
    rcases z9 with z | z
    · rw [z.1, z.2, nz_isN h12, if_neg (by omega)]
      omega
    · rw [pk _ z.1, if_pos z.2.1]
      omega
  · rcases z10 i hi with z | z
    · rw [z, nz_isN h12]
      rfl
    · rw [pk _ z.1]
      have := z.1.1.1
      unfold ni_an
      rw [if_neg (by omega)]
/-- the packets at all links -/
theorem nz_In {nf : Nat} {e : Int} (hP : ∀ p, ni_po p → nq_PI A p 0 e) (hnf : A 0 3 = nf) (h12 : nf ≤ 12) : ∀ n : Nat, n ≤ 14 → nz_S (fun f => ni_In A f n) nf = nz_Ls A n := by
  intro n
  induction n with
  | zero => intro _; exact nz_S0 nf
  | succ n ih =>
    intro hn
    have p1 : ni_po (49 + 17 * n) := by unfold ni_po; omega
    have p9 : ni_po (57 + 17 * n) := by unfold ni_po; omega
    show nz_S (fun f => ni_In A f n + nq_W A (49 + 17 * n) f + nq_W A (57 + 17 * n) f) nf = nz_Ls A n + nz_l A n
    rw [nz_Sa, nz_Sa, ih (by omega), nz_W (hP _ p1) hnf h12, nz_W (hP _ p9) hnf h12]
    unfold nz_l
    rw [show 48 + 17 * n + 1 = 49 + 17 * n by omega, show 48 + 17 * n + 9 = 57 + 17 * n by omega]
    omega
theorem nz_Lz {n : Nat} : ∀ k : Nat, (∀ l : Nat, n ≤ l → l < n + k → nz_l A l = 0) → nz_Ls A (n + k) = nz_Ls A n := by
  intro k
  induction k with
  | zero => intro _; rfl
  | succ k ih =>
    intro h
    show nz_Ls A (n + k) + nz_l A (n + k) = nz_Ls A n
    rw [ih (fun l h1 h2 => h l h1 (by omega)), h (n + k) (by omega) (by omega)]
    omega
/-- what was offered is somewhere -/
theorem nz_bal {St : Nat → Option ni_C} {own : Nat → Int} {e : Int} {nf nl : Nat} (hI : nq_Inv St own A e) (hnf : A 0 3 = nf) (hnl : A 0 2 = nl) : nz_o A nf = nz_t A nf + nz_Ls A nl := by
  have h12 : nf ≤ 12 := by have := hI.1.1.2; omega
  have h14 : nl ≤ 14 := by have := hI.2.2.2.2.2.1.2; omega
  have hP := hI.1.2.2.2.2.1
  have hin := nz_In hP hnf h12 14 (Nat.le_refl _)
  have hz := nz_Lz (A := A) (n := nl) (14 - nl) (fun l h1 h2 => by
    have hd := hI.2.2.2.2.2.2.2.2.2.2 l (by omega) (by omega)
    have p1 : ni_po (48 + 17 * l + 1) := by unfold ni_po; omega
    have p9 : ni_po (48 + 17 * l + 9) := by unfold ni_po; omega
    have a := (nz_pf (hP _ p1)).2.2.2.2.2.2.2
    have b := (nz_pf (hP _ p9)).2.2.2.2.2.2.2
    rw [show ni_li (48 + 17 * l + 1) = 48 + 17 * l by unfold ni_li; omega] at a
    rw [show ni_li (48 + 17 * l + 9) = 48 + 17 * l by unfold ni_li; omega] at b
    have a := a hd.1
    have b := b hd.1
    unfold nz_l nz_P
    rw [if_neg (by omega), if_neg (by omega)]
    omega)
  rw [show nl + (14 - nl) = 14 by omega] at hz
  rw [← hz, ← hin]
  unfold nz_o nz_t
  rw [← nz_Sa]
  refine nz_Sc nf (fun f hf => ?_)
  have hb := hI.1.2.2.2.2.2 f (by omega) (by omega)
  have e7 : ni_sw (fun x => x) (A (12 + 3 * f + 2)) 7 = nq_dr A (12 + 3 * f) := by
    unfold nq_dr
    show 0 + A (12 + 3 * f + 2) 0 + A (12 + 3 * f + 2) 1 + A (12 + 3 * f + 2) 2 + A (12 + 3 * f + 2) 3 + A (12 + 3 * f + 2) 4 + A (12 + 3 * f + 2) 5 + A (12 + 3 * f + 2) 6 = _
    omega
  rw [e7]
  dsimp only at hb
  omega
theorem nz_In0 {f : Nat} {e : Int} (hP : ∀ p, ni_po p → nq_PI A p 0 e) : ∀ n : Nat, n ≤ 14 → 0 ≤ ni_In A f n := by
  intro n
  induction n with
  | zero => intro _; exact Int.le_refl _
  | succ n ih =>
    intro hn
    have p1 : ni_po (49 + 17 * n) := by unfold ni_po; omega
    have p9 : ni_po (57 + 17 * n) := by unfold ni_po; omega
    have a := nl_W (A := A) (p := 49 + 17 * n) (f := f) (nz_pf (hP _ p1)).1
    have b := nl_W (A := A) (p := 57 + 17 * n) (f := f) (nz_pf (hP _ p9)).1
    have := ih (by omega)
    show 0 ≤ ni_In A f n + nq_W A (49 + 17 * n) f + nq_W A (57 + 17 * n) f
    omega
theorem nz_oB {St : Nat → Option ni_C} {own : Nat → Int} {e : Int} (hI : nq_Inv St own A e) (he : e ≤ 600000) : ∀ n : Nat, n ≤ 12 → (n : Int) ≤ A 0 3 → 0 ≤ nz_o A n ∧ nz_o A n ≤ 600000 * n := by
  intro n
  induction n with
  | zero => intro _ _; exact ⟨Int.le_refl _, Int.le_refl _⟩
  | succ n ih =>
    intro h1 h2
    have := ih (by omega) (by omega)
    have h := (hI.1.2.2.2.1 n (by omega) (by omega)).2.2.2.1
    have e1 : nz_o A (n + 1) = nz_o A n + A (12 + 3 * n) 12 := rfl
    rw [e1]
    omega
/-- ISSOUND -/
theorem fx_sound (hm : St m = some (9, [.ref n0, .ref n1])) (hZ : ∀ ad, Z ad → ad 0 = n0) {e : Int} {own : Nat → Int} (hI : nq_Inv St own A e) (hLE : nq_LE2 A) (he : e ≤ 600000) (hT : A 0 0 ≤ 1000) {lk nf : Nat} {vs : List Value} (hlk : St lk = some (105, vs)) (hlkn : (vs.length : Int) = A 0 2) (hnf : A 0 3 = nf) : nf_F xs St Z 26 155 [ni_aL m, ni_aL lk, ni_aI (nf : Int)] A (fun v A' => v = some (ni_aI 1) ∧ A' = A) := by
  have hnl : A 0 2 = ((A 0 2).toNat : Int) := by have := hI.2.2.2.2.2.1; omega
  have hb := nz_oB hI he nf (by have := hI.1.1.2; omega) (by omega)
  have h12 := hI.1.1.2
  refine nf_Fin (ls := [ni_aL (m), ni_aL (lk), ni_aI ((nf : Int)), .inl ni_J, .inl ni_J, .inl ni_J, .inl ni_J, .inl ni_J, .inl ni_J, .inl ni_J]) (fun _ => Nat.le_of_ble_eq_true rfl) (fun _ _ => rfl) ?_
  refine E_push (q := 1) (c := 0) (z := 0) rfl rfl ?_
  refine E_St (q := 2) (ls' := [ni_aL (m), ni_aL (lk), ni_aI ((nf : Int)), ni_aI (0), .inl ni_J, .inl ni_J, .inl ni_J, .inl ni_J, .inl ni_J, .inl ni_J]) rfl (fun _ _ => rfl) (fun _ _ => rfl) ?_
  refine E_push (q := 3) (c := 0) (z := 0) rfl rfl ?_
  refine E_St (q := 5) (ls' := [ni_aL (m), ni_aL (lk), ni_aI ((nf : Int)), ni_aI (0), ni_aI (0), .inl ni_J, .inl ni_J, .inl ni_J, .inl ni_J, .inl ni_J]) rfl (fun _ _ => rfl) (fun _ _ => rfl) ?_
  refine E_push (q := 6) (c := 0) (z := 0) rfl rfl ?_
  refine E_St (q := 8) (ls' := [ni_aL (m), ni_aL (lk), ni_aI ((nf : Int)), ni_aI (0), ni_aI (0), ni_aI (0), .inl ni_J, .inl ni_J, .inl ni_J, .inl ni_J]) rfl (fun _ _ => rfl) (fun _ _ => rfl) ?_
  exact mt_soF hm hZ hI hLE he hT hlk hlkn hnl hnf ⟨hb.1, by omega⟩ (nz_bal hI hnf hnl) (fun f => nz_In0 hI.1.2.2.2.2.1 14 (Nat.le_refl _)) nf 0 (by omega) 0 0 ni_J ni_J ni_J ni_J rfl rfl
end NSQ
