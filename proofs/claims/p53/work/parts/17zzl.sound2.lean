/-! ISSOUND: LINKS, FLOWS, AND THAT NO PACKET IS LOST -/
section NSP
variable {Z : (Nat → Nat) → Prop} {m n0 n1 : Nat} {xs : List Int32} {St : Nat → Option ni_C} {A : Nat → Nat → Int}
def nz_P (A : Nat → Nat → Int) (p : Nat) : Int := A p 10 + (if 0 < A p 13 then 1 else 0)
def nz_l (A : Nat → Nat → Int) (l : Nat) : Int := A (48 + 17 * l + 1 + 1) 4 + A (48 + 17 * l + 9 + 1) 4 + nz_P A (48 + 17 * l + 1) + nz_P A (48 + 17 * l + 9)
def nz_Ls (A : Nat → Nat → Int) : Nat → Int
  | 0 => 0
  | n + 1 => nz_Ls A n + nz_l A n
set_option maxRecDepth 20000 in
theorem nz_by {g : Nat → Int} : ∀ n : Nat, (∀ i : Nat, i < n → 20 ≤ g i / 4096 % 512) → 20 * (n : Int) ≤ ni_sw ni_by g n ∧ ni_sw ni_by g n ≤ 511 * (n : Int) := by
  intro n
  induction n with
  | zero => intro _; exact ⟨Int.le_refl _, Int.le_refl _⟩
  | succ n ih =>
    intro h
    have a := ih (fun i hi => h i (by omega))
    have b := h n (by omega)
    have e : ni_sw ni_by g (n + 1) = ni_sw ni_by g n + ni_by (g n) := rfl
    rw [e]
    unfold ni_by at *
    omega
set_option maxRecDepth 20000 in
theorem nz_an {g : Nat → Int} : ∀ n : Nat, 0 ≤ ni_sw ni_an g n ∧ ni_sw ni_an g n ≤ n := by
  intro n
  induction n with
  | zero => exact ⟨Int.le_refl _, Int.le_refl _⟩
  | succ n ih =>
    have e : ni_sw ni_an g (n + 1) = ni_sw ni_an g n + ni_an (g n) := rfl
    have b : 0 ≤ ni_an (g n) ∧ ni_an (g n) ≤ 1 := by
      unfold ni_an
      split <;> omega
    rw [e]
    omega
set_option maxRecDepth 20000 in
theorem nz_an0 {g : Nat → Int} : ∀ n : Nat, (∀ i : Nat, i < n → g i = -1) → ni_sw ni_an g n = 0 := by
  intro n
  induction n with
  | zero => intro _; rfl
  | succ n ih =>
    intro h
    show ni_sw ni_an g n + ni_an (g n) = 0
    rw [ih (fun i hi => h i (by omega)), h n (by omega)]
    rfl
set_option maxRecDepth 20000 in
/-- what is asked of a port -/
theorem nz_pf {p : Nat} {e : Int} (h : nq_PI A p 0 e) : (0 ≤ A p 10 ∧ A p 10 ≤ 250) ∧ (∀ i : Nat, (i : Int) < A p 10 → 0 ≤ A (p + 7) i ∧ A (p + 7) i ≤ 2147483647) ∧ (∀ j : Nat, j < 4 → 0 ≤ A (p + 6) j ∧ A (p + 6) j ≤ 10000) ∧ (0 ≤ A p 11 ∧ A p 11 ≤ 1000000) ∧ ((A p 11 = 0 ∧ A p 10 = 0) ∨ (0 < A p 11 ∧ 0 < A p 10)) ∧ (0 ≤ A p 13 ∧ A p 13 ≤ 511) ∧ (0 ≤ A (p + 1) 4 ∧ A (p + 1) 4 ≤ 21) ∧ (A (ni_li p) 5 = 0 → A p 10 = 0 ∧ A p 13 = 0 ∧ A (p + 1) 4 = 0) := by
  obtain ⟨z1, z2, z3, z4, z5, z6, z7, z8, z9, z10, z11, z12⟩ := h
  have b := nz_by (g := A (p + 7)) (A p 10).toNat (fun i hi => (z7 i (by omega)).2.2.1)
  have a := nz_an (g := A (p + 4)) 21
  refine ⟨z6, fun i hi => (z7 i hi).1, fun j hj => ?_, by omega, by omega, by omega, by omega, fun c => ?_⟩
  · have := (z1.2.2 j hj).2
    refine ⟨this.1, Int.le_trans this.2 ?_⟩
    split <;> omega
  · obtain ⟨c1, c2, c3⟩ := z12 c
    have a0 := nz_an0 (g := A (p + 4)) 21 c3
    refine ⟨c1, ?_, by omega⟩
    rcases z9 with z | z
    · exact z.2
    · have := z.1.1
      omega
set_option maxRecDepth 20000 in
theorem mt_soL (hm : St m = some (9, [.ref n0, .ref n1])) (hZ : ∀ ad, Z ad → ad 0 = n0) {e : Int} {own : Nat → Int} (hI : nq_Inv St own A e) {lk nf nl : Nat} {off t0 : Int} {vs : List Value} (hlk : St lk = some (105, vs)) (hlkn : (vs.length : Int) = A 0 2) (hnl : A 0 2 = nl) (hof : 0 ≤ off ∧ off ≤ 2000000000) (hfin : off = t0 + nz_Ls A nl) : ∀ k i : Nat, i + k = nl → ∀ (th : Int) (w6 w7 w8 w9 : Value), th = t0 + nz_Ls A i → ni_E xs St Z 25 155 180 [ni_aL (m), ni_aL (lk), ni_aI ((nf : Int)), ni_aI (off), ni_aI (th), ni_aI ((i : Int)), .inl w6, .inl w7, .inl w8, .inl w9] [] A (ni_live A) (fun v A' => v = some (ni_aI 1) ∧ A' = A) := by
  have h2 := hI.2.2.2.2.2.1.2
  have hPI := hI.1.2.2.2.2.1
  intro k
  induction k with
  | zero =>
    intro i hi th w6 w7 w8 w9 ht
    refine E_Ld (q := 182) rfl rfl (fun _ _ => rfl) ?_
    refine E_Ld (q := 183) rfl rfl (fun _ _ => rfl) ?_
    refine E_LenT (q := 184) (x := A 0 2) rfl hlk ⟨by decide, by decide⟩ hlkn ?_
    refine E_Ic true rfl (zc_ge_t ⟨by omega, by omega⟩ ⟨by omega, by omega⟩ (by omega)) ?_
    refine E_push (q := 370) (c := 0) (z := 0) rfl rfl ?_
    refine E_St (q := 372) (ls' := [ni_aL (m), ni_aL (lk), ni_aI ((nf : Int)), ni_aI (off), ni_aI (th), ni_aI (0), .inl w6, .inl w7, .inl w8, .inl w9]) rfl (fun _ _ => rfl) (fun _ _ => rfl) ?_
    exact mt_soR hm hZ hI (by rw [hfin, ht, show i = nl by omega]) hof (A 0 1).toNat 0 (by have := hI.2.1.2.2.1; omega) _
  | succ k ih =>
    intro i hi th w6 w7 w8 w9 ht
    have hl : i < 14 := by omega
    have hlc : (i : Int) < A 0 2 := by omega
    have hB := hI.2.1.1 i hl
    have p1 : ni_po (48 + 17 * i + 1) := by unfold ni_po; omega
    have p9 : ni_po (48 + 17 * i + 9) := by unfold ni_po; omega
    obtain ⟨a1, a2, a3, a4, a5, a6, a7, a8⟩ := nz_pf (hPI _ p1)
    obtain ⟨b1, b2, b3, b4, b5, b6, b7, b8⟩ := nz_pf (hPI _ p9)
    rw [show ni_li (48 + 17 * i + 1) = 48 + 17 * i by unfold ni_li; omega] at a8
    rw [show ni_li (48 + 17 * i + 9) = 48 + 17 * i by unfold ni_li; omega] at b8
    have m0 := nz_cn (A := A) (p := 48 + 17 * i + 1) (A (48 + 17 * i + 1) 10).toNat
    have m1 := nz_cn (A := A) (p := 48 + 17 * i + 9) (A (48 + 17 * i + 9) 10).toNat
    refine E_Ld (q := 182) rfl rfl (fun _ _ => rfl) ?_
    refine E_Ld (q := 183) rfl rfl (fun _ _ => rfl) ?_
    refine E_LenT (q := 184) (x := A 0 2) rfl hlk ⟨by decide, by decide⟩ hlkn ?_
    refine E_Ic false rfl (zc_ge_f ⟨by omega, by omega⟩ ⟨by omega, by omega⟩ (by omega)) ?_
    refine E_Ld (q := 189) rfl rfl (fun _ _ => rfl) ?_
    refine E_Ld (q := 190) rfl rfl (fun _ _ => rfl) ?_
    refine E_Ld (q := 192) rfl rfl (fun _ _ => rfl) ?_
    obtain ⟨v192_1, A192_1, ⟨hv192_1, hA192_1⟩, hF192_1⟩ := fc_onLink (xs := xs) (A := A) hm hZ hl hlc h2
    subst hv192_1
    rw [hA192_1] at hF192_1
    refine E_VT (q := 195) (v := some (ni_aI (A (48 + 17 * i + 1 + 1) 4 + A (48 + 17 * i + 9 + 1) 4))) rfl rfl rfl hm (Nat.le_of_ble_eq_true rfl) (fun _ _ _ => rfl) (hF192_1) (fun _ _ => rfl) (fun _ _ => rfl) ?_
    refine E_add (q := 196) rfl ?_
    refine E_St (q := 198) (ls' := [ni_aL (m), ni_aL (lk), ni_aI ((nf : Int)), ni_aI (off), ni_aI (th + (A (48 + 17 * i + 1 + 1) 4 + A (48 + 17 * i + 9 + 1) 4)), ni_aI ((i : Int)), .inl w6, .inl w7, .inl w8, .inl w9]) rfl (fun _ _ => rfl) (fun _ _ => rfl) ?_
    refine E_push (q := 199) (c := 0) (z := 0) rfl rfl ?_
    refine E_St (q := 201) (ls' := [ni_aL (m), ni_aL (lk), ni_aI ((nf : Int)), ni_aI (off), ni_aI (th + (A (48 + 17 * i + 1 + 1) 4 + A (48 + 17 * i + 9 + 1) 4)), ni_aI ((i : Int)), ni_aI (0), .inl w7, .inl w8, .inl w9]) rfl (fun _ _ => rfl) (fun _ _ => rfl) ?_
    refine E_Ld (q := 203) rfl rfl (fun _ _ => rfl) ?_
    refine E_push (q := 204) (c := 2) (z := 2) rfl rfl ?_
    refine E_Ic false rfl (zc_ge_f ⟨by omega, by omega⟩ ⟨by omega, by omega⟩ (by omega)) ?_
    refine E_Ld (q := 209) rfl rfl (fun _ _ => rfl) ?_
    refine E_push (q := 210) (c := 1) (z := 1) rfl rfl ?_
    refine E_Ic true rfl (zc_ne_t ⟨by omega, by omega⟩ ⟨by omega, by omega⟩ (by omega)) ?_
    refine E_push (q := 218) (c := 0) (z := 0) rfl rfl ?_
    refine E_St (q := 220) (ls' := [ni_aL (m), ni_aL (lk), ni_aI ((nf : Int)), ni_aI (off), ni_aI (th + (A (48 + 17 * i + 1 + 1) 4 + A (48 + 17 * i + 9 + 1) 4)), ni_aI ((i : Int)), ni_aI (0), ni_aI (0), .inl w8, .inl w9]) rfl (fun _ _ => rfl) (fun _ _ => rfl) ?_
    refine E_push (q := 221) (c := 0) (z := 0) rfl rfl ?_
    refine E_St (q := 223) (ls' := [ni_aL (m), ni_aL (lk), ni_aI ((nf : Int)), ni_aI (off), ni_aI (th + (A (48 + 17 * i + 1 + 1) 4 + A (48 + 17 * i + 9 + 1) 4)), ni_aI ((i : Int)), ni_aI (0), ni_aI (0), ni_aI (0), .inl w9]) rfl (fun _ _ => rfl) (fun _ _ => rfl) ?_
    refine E_push (q := 224) (c := 0) (z := 0) rfl rfl ?_
    refine E_St (q := 226) (ls' := [ni_aL (m), ni_aL (lk), ni_aI ((nf : Int)), ni_aI (off), ni_aI (th + (A (48 + 17 * i + 1 + 1) 4 + A (48 + 17 * i + 9 + 1) 4)), ni_aI ((i : Int)), ni_aI (0), ni_aI (0), ni_aI (0), ni_aI (0)]) rfl (fun _ _ => rfl) (fun _ _ => rfl) ?_
    have f0 : True := trivial
    refine mt_so00 hm hZ hl hlc h2 a1 a2 a3 (mt_so01 hm hZ hl hlc h2 a1 a2 a3 (mt_so02 hm hZ hl hlc h2 a1 a2 a3 (mt_so03 hm hZ hl hlc h2 a1 a2 a3 (mt_so04 hm hZ hl hlc h2 a1 a2 a3 (mt_soX0 hm hZ hl hlc h2 hB.2.2 (by omega) (by omega) a4 (by omega) a6 (by omega) (fun c => by have := a8 c; have := b8 c; omega) (fun t2 ht2 => ?_))))))
    refine E_Ld (q := 203) rfl rfl (fun _ _ => rfl) ?_
    refine E_push (q := 204) (c := 2) (z := 2) rfl rfl ?_
    refine E_Ic false rfl (zc_ge_f ⟨by omega, by omega⟩ ⟨by omega, by omega⟩ (by omega)) ?_
    refine E_Ld (q := 209) rfl rfl (fun _ _ => rfl) ?_
    refine E_push (q := 210) (c := 1) (z := 1) rfl rfl ?_
    refine E_Ic false rfl (zc_ne_f ⟨by omega, by omega⟩ ⟨by omega, by omega⟩ (by omega)) ?_
    refine E_push (q := 214) (c := 1) (z := 1) rfl rfl ?_
    refine E_Go (q := 218) rfl ?_
    refine E_St (q := 220) (ls' := [ni_aL (m), ni_aL (lk), ni_aI ((nf : Int)), ni_aI (off), ni_aI (t2), ni_aI ((i : Int)), ni_aI (0 + 1), ni_aI (1), ni_aI (0 + ni_cn A (48 + 17 * i + 1) 0 (A (48 + 17 * i + 1) 10).toNat + ni_cn A (48 + 17 * i + 1) 1 (A (48 + 17 * i + 1) 10).toNat + ni_cn A (48 + 17 * i + 1) 2 (A (48 + 17 * i + 1) 10).toNat + ni_cn A (48 + 17 * i + 1) 3 (A (48 + 17 * i + 1) 10).toNat), ni_aI (4)]) rfl (fun _ _ => rfl) (fun _ _ => rfl) ?_
    refine E_push (q := 221) (c := 0) (z := 0) rfl rfl ?_
    refine E_St (q := 223) (ls' := [ni_aL (m), ni_aL (lk), ni_aI ((nf : Int)), ni_aI (off), ni_aI (t2), ni_aI ((i : Int)), ni_aI (0 + 1), ni_aI (1), ni_aI (0), ni_aI (4)]) rfl (fun _ _ => rfl) (fun _ _ => rfl) ?_
    refine E_push (q := 224) (c := 0) (z := 0) rfl rfl ?_
    refine E_St (q := 226) (ls' := [ni_aL (m), ni_aL (lk), ni_aI ((nf : Int)), ni_aI (off), ni_aI (t2), ni_aI ((i : Int)), ni_aI (0 + 1), ni_aI (1), ni_aI (0), ni_aI (0)]) rfl (fun _ _ => rfl) (fun _ _ => rfl) ?_
    refine mt_so10 hm hZ hl hlc h2 b1 b2 b3 (mt_so11 hm hZ hl hlc h2 b1 b2 b3 (mt_so12 hm hZ hl hlc h2 b1 b2 b3 (mt_so13 hm hZ hl hlc h2 b1 b2 b3 (mt_so14 hm hZ hl hlc h2 b1 b2 b3 (mt_soX1 hm hZ hl hlc h2 hB.2.2 (by omega) (by omega) b4 (by omega) b6 (by omega) (fun c => by have := a8 c; have := b8 c; omega) (fun t3 ht3 => ?_))))))
    refine E_Ld (q := 203) rfl rfl (fun _ _ => rfl) ?_
    refine E_push (q := 204) (c := 2) (z := 2) rfl rfl ?_
    refine E_Ic true rfl (zc_ge_t ⟨by omega, by omega⟩ ⟨by omega, by omega⟩ (by omega)) ?_
    refine E_Inc (q := 366) (ls' := [ni_aL (m), ni_aL (lk), ni_aI ((nf : Int)), ni_aI (off), ni_aI (t3), ni_aI ((i : Int) + 1), ni_aI (0 + 1 + 1), ni_aI (1), ni_aI (0 + ni_cn A (48 + 17 * i + 9) 0 (A (48 + 17 * i + 9) 10).toNat + ni_cn A (48 + 17 * i + 9) 1 (A (48 + 17 * i + 9) 10).toNat + ni_cn A (48 + 17 * i + 9) 2 (A (48 + 17 * i + 9) 10).toNat + ni_cn A (48 + 17 * i + 9) 3 (A (48 + 17 * i + 9) 10).toNat), ni_aI (4)]) (z := 1) rfl rfl rfl (fun _ _ => rfl) ?_
    refine E_Go (q := 180) rfl ?_
    refine ih (i + 1) (by omega) _ _ _ _ _ ?_
    show t3 = t0 + (nz_Ls A i + nz_l A i)
    unfold nz_l nz_P
    generalize (if 0 < A (48 + 17 * i + 1) 13 then (1 : Int) else 0) = s0 at ht2 ⊢
    generalize (if 0 < A (48 + 17 * i + 9) 13 then (1 : Int) else 0) = s1 at ht3 ⊢
    omega
set_option maxRecDepth 20000 in
theorem mt_soD (hm : St m = some (9, [.ref n0, .ref n1])) (hZ : ∀ ad, Z ad → ad 0 = n0) {lk nf f : Nat} {off t0 : Int} {w7 w8 w9 : Value} (hf : f < 12) (hfc : (f : Int) < A 0 3) (h3 : A 0 3 ≤ 12) (hK : ∀ th : Int, th = t0 + ni_sw (fun x => x) (A (12 + 3 * f + 2)) 7 → ni_E xs St Z 25 155 70 [ni_aL (m), ni_aL (lk), ni_aI ((nf : Int)), ni_aI (off), ni_aI (th), ni_aI ((f : Int)), ni_aI ((7 : Nat) : Int), .inl w7, .inl w8, .inl w9] [] A (ni_live A) (fun v A' => v = some (ni_aI 1) ∧ A' = A)) : ∀ k i : Nat, i + k = 7 → ∀ th : Int, th = t0 + ni_sw (fun x => x) (A (12 + 3 * f + 2)) i → ni_E xs St Z 25 155 44 [ni_aL (m), ni_aL (lk), ni_aI ((nf : Int)), ni_aI (off), ni_aI (th), ni_aI ((f : Int)), ni_aI ((i : Int)), .inl w7, .inl w8, .inl w9] [] A (ni_live A) (fun v A' => v = some (ni_aI 1) ∧ A' = A) := by
  intro k
  induction k with
  | zero =>
    intro i hi th ht
    refine E_Ld (q := 46) rfl rfl (fun _ _ => rfl) ?_
    refine E_push (q := 48) (c := 7) (z := 7) rfl rfl ?_
    refine E_Ic true rfl (zc_ge_t ⟨by omega, by omega⟩ ⟨by omega, by omega⟩ (by omega)) ?_
    have ei : i = 7 := by omega
    subst ei
    exact hK th ht
  | succ k ih =>
    intro i hi th ht
    refine E_Ld (q := 46) rfl rfl (fun _ _ => rfl) ?_
    refine E_push (q := 48) (c := 7) (z := 7) rfl rfl ?_
    refine E_Ic false rfl (zc_ge_f ⟨by omega, by omega⟩ ⟨by omega, by omega⟩ (by omega)) ?_
    refine E_Ld (q := 53) rfl rfl (fun _ _ => rfl) ?_
    refine E_Ld (q := 54) rfl rfl (fun _ _ => rfl) ?_
    refine E_Ld (q := 56) rfl rfl (fun _ _ => rfl) ?_
    refine E_Ld (q := 58) rfl rfl (fun _ _ => rfl) ?_
    obtain ⟨v58_1, A58_1, ⟨hv58_1, hA58_1⟩, hF58_1⟩ := fc_dropped (xs := xs) (A := A) hm hZ hf hfc h3 (k := i) (by omega)
    subst hv58_1
    rw [hA58_1] at hF58_1
    refine E_VT (q := 61) (v := some (ni_aI (A (12 + 3 * f + 2) i))) rfl rfl rfl hm (Nat.le_of_ble_eq_true rfl) (fun _ _ _ => rfl) (hF58_1) (fun _ _ => rfl) (fun _ _ => rfl) ?_
    refine E_add (q := 62) rfl ?_
    refine E_St (q := 64) (ls' := [ni_aL (m), ni_aL (lk), ni_aI ((nf : Int)), ni_aI (off), ni_aI (th + (A (12 + 3 * f + 2) i)), ni_aI ((f : Int)), ni_aI ((i : Int)), .inl w7, .inl w8, .inl w9]) rfl (fun _ _ => rfl) (fun _ _ => rfl) ?_
    refine E_Inc (q := 67) (ls' := [ni_aL (m), ni_aL (lk), ni_aI ((nf : Int)), ni_aI (off), ni_aI (th + (A (12 + 3 * f + 2) i)), ni_aI ((f : Int)), ni_aI ((i : Int) + 1), .inl w7, .inl w8, .inl w9]) (z := 1) rfl rfl rfl (fun _ _ => rfl) ?_
    refine E_Go (q := 44) rfl ?_
    refine ih (i + 1) (by omega) _ ?_
    show th + A (12 + 3 * f + 2) i = t0 + (ni_sw (fun x => x) (A (12 + 3 * f + 2)) i + A (12 + 3 * f + 2) i)
    omega
def nz_S (g : Nat → Int) : Nat → Int
  | 0 => 0
  | n + 1 => nz_S g n + g n
def nz_o (A : Nat → Nat → Int) : Nat → Int := nz_S (fun f => A (12 + 3 * f) 12)
def nz_t (A : Nat → Nat → Int) : Nat → Int := nz_S (fun f => A (12 + 3 * f) 13 + A (12 + 3 * f) 11 + ni_sw (fun x => x) (A (12 + 3 * f + 2)) 7)
set_option maxRecDepth 20000 in
theorem mt_soF (hm : St m = some (9, [.ref n0, .ref n1])) (hZ : ∀ ad, Z ad → ad 0 = n0) {e : Int} {own : Nat → Int} (hI : nq_Inv St own A e) (hLE : nq_LE2 A) (he : e ≤ 600000) (hT : A 0 0 ≤ 1000) {lk nf nl : Nat} {vs : List Value} (hlk : St lk = some (105, vs)) (hlkn : (vs.length : Int) = A 0 2) (hnl : A 0 2 = nl) (hnf : A 0 3 = nf) (hof : 0 ≤ nz_o A nf ∧ nz_o A nf ≤ 2000000000) (hfin : nz_o A nf = nz_t A nf + nz_Ls A nl) (hin : ∀ f : Nat, 0 ≤ ni_In A f 14) : ∀ k i : Nat, i + k = nf → ∀ (off th : Int) (w6 w7 w8 w9 : Value), off = nz_o A i → th = nz_t A i → ni_E xs St Z 25 155 8 [ni_aL (m), ni_aL (lk), ni_aI ((nf : Int)), ni_aI (off), ni_aI (th), ni_aI ((i : Int)), .inl w6, .inl w7, .inl w8, .inl w9] [] A (ni_live A) (fun v A' => v = some (ni_aI 1) ∧ A' = A) := by
  have h3 := hI.1.1.2
  have ht0 := hI.1.2.1
  have h8 := hI.2.1.2.2.1
  intro k
  induction k with
  | zero =>
    intro i hi off th w6 w7 w8 w9 ho ht
    refine E_Ld (q := 10) rfl rfl (fun _ _ => rfl) ?_
    refine E_Ld (q := 11) rfl rfl (fun _ _ => rfl) ?_
    refine E_Ic true rfl (zc_ge_t ⟨by omega, by omega⟩ ⟨by omega, by omega⟩ (by omega)) ?_
    refine E_push (q := 178) (c := 0) (z := 0) rfl rfl ?_
    refine E_St (q := 180) (ls' := [ni_aL (m), ni_aL (lk), ni_aI ((nf : Int)), ni_aI (off), ni_aI (th), ni_aI (0), .inl w6, .inl w7, .inl w8, .inl w9]) rfl (fun _ _ => rfl) (fun _ _ => rfl) ?_
    exact mt_soL (t0 := nz_t A nf) hm hZ hI hlk hlkn hnl (by rw [ho, show i = nf by omega]; exact hof) (by rw [ho, show i = nf by omega]; exact hfin) nl 0 (by omega) _ _ _ _ _ (by rw [ht, show i = nf by omega]; show _ = _ + (0 : Int); omega)
  | succ k ih =>
    intro i hi off th w6 w7 w8 w9 ho ht
    have hf : i < 12 := by omega
    have hfc : (i : Int) < A 0 3 := by omega
    obtain ⟨a1, a2, a3, a4, a5, a6, a7⟩ := hI.1.2.2.2.1 i hf hfc
    have hbal := hI.1.2.2.2.2.2 i hf hfc
    have d0 := a6 0 (by omega)
    have d1 := a6 1 (by omega)
    have d2 := a6 2 (by omega)
    have d3 := a6 3 (by omega)
    have d4 := a6 4 (by omega)
    have d5 := a6 5 (by omega)
    have d6 := a6 6 (by omega)
    have hini := hin i
    dsimp only at hbal
    unfold nq_dr at hbal
    have hDO : A (12 + 3 * i) 13 ≤ A (12 + 3 * i) 12 := by omega
    clear hbal d0 d1 d2 d3 d4 d5 d6 a3 a6 hini
    unfold nq_FS at a7
    have hMS : (A (12 + 3 * i) 13 = 0 ∧ A (12 + 3 * i) 16 = -1) ∨ (1 ≤ A (12 + 3 * i) 13 ∧ A (12 + 3 * i) 13 ≤ 1000000 ∧ 0 ≤ A (12 + 3 * i) 15 ∧ A (12 + 3 * i) 15 ≤ 2147483647 ∧ A (12 + 3 * i) 15 ≤ A (12 + 3 * i) 13 * A (12 + 3 * i) 16 ∧ 0 ≤ A (12 + 3 * i) 16 ∧ A (12 + 3 * i) 16 ≤ 1000000) := by
      rcases a7 with z | ⟨z1, z2, z3, z4, z5, _⟩
      · exact Or.inl ⟨z.1, z.2.2.1⟩
      · refine Or.inr ⟨z1, by omega, z2, ?_, z3, z4, by omega⟩
        have hm := Int.mul_le_mul (show A (12 + 3 * i) 13 ≤ 600000 by omega) (show A (12 + 3 * i) 16 ≤ 1000 by omega) z4 (by omega)
        omega
    have hDS : (A (12 + 3 * i) 13 = 0 ∧ A (12 + 3 * i) 16 = -1 ∧ A (12 + 3 * i) 18 = 0) ∨ (1 ≤ A (12 + 3 * i) 13 ∧ 0 ≤ A (12 + 3 * i) 16 ∧ A (12 + 3 * i) 16 ≤ 900000 ∧ 0 ≤ A (12 + 3 * i) 18 ∧ A (12 + 3 * i) 18 + 1 ≤ A (12 + 3 * i) 13) := by
      rcases a7 with z | ⟨z1, z2, z3, z4, z5, z6, z7, z8, z9⟩
      · exact Or.inl ⟨z.1, z.2.2.1, z.2.2.2.2⟩
      · exact Or.inr ⟨z1, z4, by omega, z8, z9⟩
    clear a7
    refine E_Ld (q := 10) rfl rfl (fun _ _ => rfl) ?_
    refine E_Ld (q := 11) rfl rfl (fun _ _ => rfl) ?_
    refine E_Ic false rfl (zc_ge_f ⟨by omega, by omega⟩ ⟨by omega, by omega⟩ (by omega)) ?_
    refine E_Ld (q := 15) rfl rfl (fun _ _ => rfl) ?_
    refine E_Ld (q := 16) rfl rfl (fun _ _ => rfl) ?_
    refine E_Ld (q := 18) rfl rfl (fun _ _ => rfl) ?_
    obtain ⟨v18_1, A18_1, ⟨hv18_1, hA18_1⟩, hF18_1⟩ := fc_offered (xs := xs) (A := A) hm hZ hf hfc h3
    subst hv18_1
    rw [hA18_1] at hF18_1
    refine E_VT (q := 21) (v := some (ni_aI (A (12 + 3 * i) 12))) rfl rfl rfl hm (Nat.le_of_ble_eq_true rfl) (fun _ _ _ => rfl) (hF18_1) (fun _ _ => rfl) (fun _ _ => rfl) ?_
    refine E_add (q := 22) rfl ?_
    refine E_St (q := 23) (ls' := [ni_aL (m), ni_aL (lk), ni_aI ((nf : Int)), ni_aI (off + (A (12 + 3 * i) 12)), ni_aI (th), ni_aI ((i : Int)), .inl w6, .inl w7, .inl w8, .inl w9]) rfl (fun _ _ => rfl) (fun _ _ => rfl) ?_
    refine E_Ld (q := 25) rfl rfl (fun _ _ => rfl) ?_
    refine E_Ld (q := 26) rfl rfl (fun _ _ => rfl) ?_
    refine E_Ld (q := 28) rfl rfl (fun _ _ => rfl) ?_
    obtain ⟨v28_2, A28_2, ⟨hv28_2, hA28_2⟩, hF28_2⟩ := fc_delivered (xs := xs) (A := A) hm hZ hf hfc h3
    subst hv28_2
    rw [hA28_2] at hF28_2
    refine E_VT (q := 31) (v := some (ni_aI (A (12 + 3 * i) 13))) rfl rfl rfl hm (Nat.le_of_ble_eq_true rfl) (fun _ _ _ => rfl) (hF28_2) (fun _ _ => rfl) (fun _ _ => rfl) ?_
    refine E_Ld (q := 32) rfl rfl (fun _ _ => rfl) ?_
    refine E_Ld (q := 34) rfl rfl (fun _ _ => rfl) ?_
    obtain ⟨v34_3, A34_3, ⟨hv34_3, hA34_3⟩, hF34_3⟩ := fc_shaping (xs := xs) (A := A) hm hZ hf hfc h3
    subst hv34_3
    rw [hA34_3] at hF34_3
    refine E_VT (q := 37) (v := some (ni_aI (A (12 + 3 * i) 11))) rfl rfl rfl hm (Nat.le_of_ble_eq_true rfl) (fun _ _ _ => rfl) (hF34_3) (fun _ _ => rfl) (fun _ _ => rfl) ?_
    refine E_add (q := 38) rfl ?_
    refine E_add (q := 39) rfl ?_
    refine E_St (q := 41) (ls' := [ni_aL (m), ni_aL (lk), ni_aI ((nf : Int)), ni_aI (off + (A (12 + 3 * i) 12)), ni_aI (th + ((A (12 + 3 * i) 13) + (A (12 + 3 * i) 11))), ni_aI ((i : Int)), .inl w6, .inl w7, .inl w8, .inl w9]) rfl (fun _ _ => rfl) (fun _ _ => rfl) ?_
    refine E_push (q := 42) (c := 0) (z := 0) rfl rfl ?_
    refine E_St (q := 44) (ls' := [ni_aL (m), ni_aL (lk), ni_aI ((nf : Int)), ni_aI (off + (A (12 + 3 * i) 12)), ni_aI (th + ((A (12 + 3 * i) 13) + (A (12 + 3 * i) 11))), ni_aI ((i : Int)), ni_aI (0), .inl w7, .inl w8, .inl w9]) rfl (fun _ _ => rfl) (fun _ _ => rfl) ?_
    refine mt_soD hm hZ (t0 := th + (A (12 + 3 * i) 13 + A (12 + 3 * i) 11)) hf hfc h3 (fun th2 ht2 => ?_) 7 0 (by omega) _ (by show _ = _ + (0 : Int); omega)
    refine E_Ld (q := 71) rfl rfl (fun _ _ => rfl) ?_
    refine E_Ld (q := 73) rfl rfl (fun _ _ => rfl) ?_
    obtain ⟨v73_1, A73_1, ⟨hv73_1, hA73_1⟩, hF73_1⟩ := fc_delivered (xs := xs) (A := A) hm hZ hf hfc h3
    subst hv73_1
    rw [hA73_1] at hF73_1
    refine E_VT (q := 76) (v := some (ni_aI (A (12 + 3 * i) 13))) rfl rfl rfl hm (Nat.le_of_ble_eq_true rfl) (fun _ _ _ => rfl) (hF73_1) (fun _ _ => rfl) (fun _ _ => rfl) ?_
    refine E_Ld (q := 77) rfl rfl (fun _ _ => rfl) ?_
    refine E_Ld (q := 79) rfl rfl (fun _ _ => rfl) ?_
    obtain ⟨v79_2, A79_2, ⟨hv79_2, hA79_2⟩, hF79_2⟩ := fc_offered (xs := xs) (A := A) hm hZ hf hfc h3
    subst hv79_2
    rw [hA79_2] at hF79_2
    refine E_VT (q := 82) (v := some (ni_aI (A (12 + 3 * i) 12))) rfl rfl rfl hm (Nat.le_of_ble_eq_true rfl) (fun _ _ _ => rfl) (hF79_2) (fun _ _ => rfl) (fun _ _ => rfl) ?_
    refine E_Ic false rfl (zc_gt_f ⟨by omega, by omega⟩ ⟨by omega, by omega⟩ (by omega)) ?_
    refine E_Ld (q := 86) rfl rfl (fun _ _ => rfl) ?_
    refine E_Ld (q := 88) rfl rfl (fun _ _ => rfl) ?_
    obtain ⟨v88_3, A88_3, ⟨hv88_3, hA88_3⟩, hF88_3⟩ := fc_outOf (xs := xs) (A := A) hm hZ hf hfc h3
    subst hv88_3
    rw [hA88_3] at hF88_3
    refine E_VT (q := 91) (v := some (ni_aI (A (12 + 3 * i) 18))) rfl rfl rfl hm (Nat.le_of_ble_eq_true rfl) (fun _ _ _ => rfl) (hF88_3) (fun _ _ => rfl) (fun _ _ => rfl) ?_
    refine E_push (q := 92) (c := 1) (z := 1) rfl rfl ?_
    refine E_Ld (q := 93) rfl rfl (fun _ _ => rfl) ?_
    refine E_Ld (q := 95) rfl rfl (fun _ _ => rfl) ?_
    obtain ⟨v95_4, A95_4, ⟨hv95_4, hA95_4⟩, hF95_4⟩ := fc_delivered (xs := xs) (A := A) hm hZ hf hfc h3
    subst hv95_4
    rw [hA95_4] at hF95_4
    refine E_VT (q := 98) (v := some (ni_aI (A (12 + 3 * i) 13))) rfl rfl rfl hm (Nat.le_of_ble_eq_true rfl) (fun _ _ _ => rfl) (hF95_4) (fun _ _ => rfl) (fun _ _ => rfl) ?_
    refine E_IM (q := 101) (c := max (1) (A (12 + 3 * i) 13)) rfl (Nat.le_of_ble_eq_true rfl) (zi_max (by unfold ni_R32; omega) (by unfold ni_R32; omega)) ?_
    refine E_Ic false rfl (zc_ge_f ⟨by omega, by omega⟩ ⟨by omega, by omega⟩ (by omega)) ?_
    refine E_Ld (q := 105) rfl rfl (fun _ _ => rfl) ?_
    refine E_Ld (q := 107) rfl rfl (fun _ _ => rfl) ?_
    obtain ⟨v107_5, A107_5, ⟨hv107_5, hA107_5⟩, hF107_5⟩ := fc_latest (xs := xs) (A := A) hm hZ hf hfc h3
    subst hv107_5
    rw [hA107_5] at hF107_5
    refine E_VT (q := 110) (v := some (ni_aI (A (12 + 3 * i) 16))) rfl rfl rfl hm (Nat.le_of_ble_eq_true rfl) (fun _ _ _ => rfl) (hF107_5) (fun _ _ => rfl) (fun _ _ => rfl) ?_
    by_cases g110 : 0 ≤ (A (12 + 3 * i) 16)
    · refine E_If true rfl (zf_ge_t ⟨by omega, by omega⟩ g110) ?_
      refine E_push (q := 118) (c := 0) (z := 0) rfl rfl ?_
      refine E_Ld (q := 119) rfl rfl (fun _ _ => rfl) ?_
      refine E_Ld (q := 121) rfl rfl (fun _ _ => rfl) ?_
      obtain ⟨v121_6, A121_6, ⟨hv121_6, hA121_6⟩, hF121_6⟩ := fc_delivered (xs := xs) (A := A) hm hZ hf hfc h3
      subst hv121_6
      rw [hA121_6] at hF121_6
      refine E_VT (q := 124) (v := some (ni_aI (A (12 + 3 * i) 13))) rfl rfl rfl hm (Nat.le_of_ble_eq_true rfl) (fun _ _ _ => rfl) (hF121_6) (fun _ _ => rfl) (fun _ _ => rfl) ?_
      by_cases g124 : ¬ (A (12 + 3 * i) 13) = 0
      · refine E_If true rfl (zf_ne_t ⟨by omega, by omega⟩ g124) ?_
        refine E_push (q := 132) (c := 0) (z := 0) rfl rfl ?_
        refine E_Ic false rfl (zc_ne_f ⟨by omega, by omega⟩ ⟨by omega, by omega⟩ (by omega)) ?_
        refine E_Ld (q := 136) rfl rfl (fun _ _ => rfl) ?_
        refine E_Ld (q := 138) rfl rfl (fun _ _ => rfl) ?_
        obtain ⟨vm, Am, ⟨⟨xd, zd, hvm, hzd, hcm⟩, hAm⟩, hFm⟩ := fc_mean (xs := xs) (A := A) hm hZ hf hfc h3 hMS
        subst hvm
        rw [hAm] at hFm
        refine E_VT (q := 141) (v := some (.inl (.double (xd)))) rfl rfl rfl hm (Nat.le_of_ble_eq_true rfl) (fun _ _ _ => rfl) (hFm) (fun _ _ => rfl) (fun _ _ => rfl) ?_
        refine E_push (q := 142) (c := 0) (z := 0) rfl rfl ?_
        refine E_Ld (q := 143) rfl rfl (fun _ _ => rfl) ?_
        refine E_Ld (q := 145) rfl rfl (fun _ _ => rfl) ?_
        obtain ⟨v145_7, A145_7, ⟨hv145_7, hA145_7⟩, hF145_7⟩ := fc_latest (xs := xs) (A := A) hm hZ hf hfc h3
        subst hv145_7
        rw [hA145_7] at hF145_7
        refine E_VT (q := 148) (v := some (ni_aI (A (12 + 3 * i) 16))) rfl rfl rfl hm (Nat.le_of_ble_eq_true rfl) (fun _ _ _ => rfl) (hF145_7) (fun _ _ => rfl) (fun _ _ => rfl) ?_
        refine E_IM (q := 151) (c := max (0) (A (12 + 3 * i) 16)) rfl (Nat.le_of_ble_eq_true rfl) (zi_max (by unfold ni_R32; omega) (by unfold ni_R32; omega)) ?_
        refine E_P (q := 152) (st' := [.inl (.double (FP.i2d (Int32.ofInt (max (0) (A (12 + 3 * i) 16))))), .inl (.double (xd))]) rfl (fun _ _ => rfl) ?_
        refine E_P (q := 153) (st' := [ni_aI zd]) rfl (fun _ _ => congrArg (fun z => some (153, [z])) hcm) ?_
        refine E_If false rfl (zf_gt_f ⟨by omega, by omega⟩ (by omega)) ?_
        refine E_Ld (q := 157) rfl rfl (fun _ _ => rfl) ?_
        refine E_Ld (q := 159) rfl rfl (fun _ _ => rfl) ?_
        obtain ⟨vr, Ar, ⟨xr, hvr, hAr, hxr, hxr2⟩, hFr⟩ := fc_route2 (xs := xs) (A := A) hm hZ hf hfc h3 hI.2.1 hLE
        subst hvr
        rw [hAr] at hFr
        refine E_VT (q := 162) (v := some (ni_aI (xr))) rfl rfl rfl hm (Nat.le_of_ble_eq_true rfl) (fun _ _ _ => rfl) (hFr) (fun _ _ => rfl) (fun _ _ => rfl) ?_
        refine E_Ld (q := 163) rfl rfl (fun _ _ => rfl) ?_
        obtain ⟨v163_8, A163_8, ⟨hv163_8, hA163_8⟩, hF163_8⟩ := fc_routers (xs := xs) (A := A) hm hZ 
        subst hv163_8
        rw [hA163_8] at hF163_8
        refine E_VT (q := 166) (v := some (ni_aI (A 0 1))) rfl rfl rfl hm (Nat.le_of_ble_eq_true rfl) (fun _ _ _ => rfl) (hF163_8) (fun _ _ => rfl) (fun _ _ => rfl) ?_
        refine E_Ic true rfl (zc_le_t ⟨by omega, by omega⟩ ⟨by omega, by omega⟩ (by omega)) ?_
        refine E_Inc (q := 174) (ls' := [ni_aL (m), ni_aL (lk), ni_aI ((nf : Int)), ni_aI (off + A (12 + 3 * i) 12), ni_aI (th2), ni_aI ((i : Int) + 1), ni_aI (((7 : Nat) : Int)), .inl w7, .inl w8, .inl w9]) (z := 1) rfl rfl rfl (fun _ _ => rfl) ?_
        refine E_Go (q := 8) rfl ?_
        exact ih (i + 1) (by omega) _ _ _ _ _ _ (by show _ = nz_S _ i + A (12 + 3 * i) 12; rw [ho]; rfl) (by show _ = nz_S _ i + (A (12 + 3 * i) 13 + A (12 + 3 * i) 11 + ni_sw (fun x => x) (A (12 + 3 * i + 2)) 7); rw [ht2, ht]; show nz_S _ i + _ + _ = _; omega)
      · refine E_If false rfl (zf_ne_f ⟨by omega, by omega⟩ g124) ?_
        refine E_push (q := 128) (c := 1) (z := 1) rfl rfl ?_
        refine E_Go (q := 132) rfl ?_
        exfalso
        omega
    · refine E_If false rfl (zf_ge_f ⟨by omega, by omega⟩ g110) ?_
      refine E_push (q := 114) (c := 1) (z := 1) rfl rfl ?_
      refine E_Go (q := 118) rfl ?_
      refine E_Ld (q := 119) rfl rfl (fun _ _ => rfl) ?_
      refine E_Ld (q := 121) rfl rfl (fun _ _ => rfl) ?_
      obtain ⟨v121_6, A121_6, ⟨hv121_6, hA121_6⟩, hF121_6⟩ := fc_delivered (xs := xs) (A := A) hm hZ hf hfc h3
      subst hv121_6
      rw [hA121_6] at hF121_6
      refine E_VT (q := 124) (v := some (ni_aI (A (12 + 3 * i) 13))) rfl rfl rfl hm (Nat.le_of_ble_eq_true rfl) (fun _ _ _ => rfl) (hF121_6) (fun _ _ => rfl) (fun _ _ => rfl) ?_
      by_cases g124 : ¬ (A (12 + 3 * i) 13) = 0
      · refine E_If true rfl (zf_ne_t ⟨by omega, by omega⟩ g124) ?_
        refine E_push (q := 132) (c := 0) (z := 0) rfl rfl ?_
        exfalso
        omega
      · refine E_If false rfl (zf_ne_f ⟨by omega, by omega⟩ g124) ?_
        refine E_push (q := 128) (c := 1) (z := 1) rfl rfl ?_
        refine E_Go (q := 132) rfl ?_
        refine E_Ic false rfl (zc_ne_f ⟨by omega, by omega⟩ ⟨by omega, by omega⟩ (by omega)) ?_
        refine E_Ld (q := 136) rfl rfl (fun _ _ => rfl) ?_
        refine E_Ld (q := 138) rfl rfl (fun _ _ => rfl) ?_
        obtain ⟨vm, Am, ⟨⟨xd, zd, hvm, hzd, hcm⟩, hAm⟩, hFm⟩ := fc_mean (xs := xs) (A := A) hm hZ hf hfc h3 hMS
        subst hvm
        rw [hAm] at hFm
        refine E_VT (q := 141) (v := some (.inl (.double (xd)))) rfl rfl rfl hm (Nat.le_of_ble_eq_true rfl) (fun _ _ _ => rfl) (hFm) (fun _ _ => rfl) (fun _ _ => rfl) ?_
        refine E_push (q := 142) (c := 0) (z := 0) rfl rfl ?_
        refine E_Ld (q := 143) rfl rfl (fun _ _ => rfl) ?_
        refine E_Ld (q := 145) rfl rfl (fun _ _ => rfl) ?_
        obtain ⟨v145_7, A145_7, ⟨hv145_7, hA145_7⟩, hF145_7⟩ := fc_latest (xs := xs) (A := A) hm hZ hf hfc h3
        subst hv145_7
        rw [hA145_7] at hF145_7
        refine E_VT (q := 148) (v := some (ni_aI (A (12 + 3 * i) 16))) rfl rfl rfl hm (Nat.le_of_ble_eq_true rfl) (fun _ _ _ => rfl) (hF145_7) (fun _ _ => rfl) (fun _ _ => rfl) ?_
        refine E_IM (q := 151) (c := max (0) (A (12 + 3 * i) 16)) rfl (Nat.le_of_ble_eq_true rfl) (zi_max (by unfold ni_R32; omega) (by unfold ni_R32; omega)) ?_
        refine E_P (q := 152) (st' := [.inl (.double (FP.i2d (Int32.ofInt (max (0) (A (12 + 3 * i) 16))))), .inl (.double (xd))]) rfl (fun _ _ => rfl) ?_
        refine E_P (q := 153) (st' := [ni_aI zd]) rfl (fun _ _ => congrArg (fun z => some (153, [z])) hcm) ?_
        refine E_If false rfl (zf_gt_f ⟨by omega, by omega⟩ (by omega)) ?_
        refine E_Ld (q := 157) rfl rfl (fun _ _ => rfl) ?_
        refine E_Ld (q := 159) rfl rfl (fun _ _ => rfl) ?_
        obtain ⟨vr, Ar, ⟨xr, hvr, hAr, hxr, hxr2⟩, hFr⟩ := fc_route2 (xs := xs) (A := A) hm hZ hf hfc h3 hI.2.1 hLE
        subst hvr
        rw [hAr] at hFr
        refine E_VT (q := 162) (v := some (ni_aI (xr))) rfl rfl rfl hm (Nat.le_of_ble_eq_true rfl) (fun _ _ _ => rfl) (hFr) (fun _ _ => rfl) (fun _ _ => rfl) ?_
        refine E_Ld (q := 163) rfl rfl (fun _ _ => rfl) ?_
        obtain ⟨v163_8, A163_8, ⟨hv163_8, hA163_8⟩, hF163_8⟩ := fc_routers (xs := xs) (A := A) hm hZ 
        subst hv163_8
        rw [hA163_8] at hF163_8
        refine E_VT (q := 166) (v := some (ni_aI (A 0 1))) rfl rfl rfl hm (Nat.le_of_ble_eq_true rfl) (fun _ _ _ => rfl) (hF163_8) (fun _ _ => rfl) (fun _ _ => rfl) ?_
        refine E_Ic true rfl (zc_le_t ⟨by omega, by omega⟩ ⟨by omega, by omega⟩ (by omega)) ?_
        refine E_Inc (q := 174) (ls' := [ni_aL (m), ni_aL (lk), ni_aI ((nf : Int)), ni_aI (off + A (12 + 3 * i) 12), ni_aI (th2), ni_aI ((i : Int) + 1), ni_aI (((7 : Nat) : Int)), .inl w7, .inl w8, .inl w9]) (z := 1) rfl rfl rfl (fun _ _ => rfl) ?_
        refine E_Go (q := 8) rfl ?_
        exact ih (i + 1) (by omega) _ _ _ _ _ _ (by show _ = nz_S _ i + A (12 + 3 * i) 12; rw [ho]; rfl) (by show _ = nz_S _ i + (A (12 + 3 * i) 13 + A (12 + 3 * i) 11 + ni_sw (fun x => x) (A (12 + 3 * i + 2)) 7); rw [ht2, ht]; show nz_S _ i + _ + _ = _; omega)
end NSP
