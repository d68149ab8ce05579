/-! ISSOUND -/
section NSO
variable {Z : (Nat → Nat) → Prop} {m n0 n1 : Nat} {xs : List Int32} {St : Nat → Option ni_C} {A : Nat → Nat → Int}
set_option maxRecDepth 20000 in
theorem ni_rokD {x : UInt64} : ni_rok (some .double) (some (.double x)) = true := rfl
set_option maxRecDepth 20000 in
/-- meanLate: no greater than the greatest -/
theorem fc_mean (hm : St m = some (9, [.ref n0, .ref n1])) (hZ : ∀ ad, Z ad → ad 0 = n0) {f : Nat} (hf : f < 12) (hfc : (f : Int) < A 0 3) (h3 : A 0 3 ≤ 12) (hS : (A (12 + 3 * f) 13 = 0 ∧ A (12 + 3 * f) 16 = -1) ∨ (1 ≤ A (12 + 3 * f) 13 ∧ A (12 + 3 * f) 13 ≤ 1000000 ∧ 0 ≤ A (12 + 3 * f) 15 ∧ A (12 + 3 * f) 15 ≤ 2147483647 ∧ A (12 + 3 * f) 15 ≤ A (12 + 3 * f) 13 * A (12 + 3 * f) 16 ∧ 0 ≤ A (12 + 3 * f) 16 ∧ A (12 + 3 * f) 16 ≤ 1000000)) : nf_F xs St Z 25 29 [ni_aL m, ni_aI (f : Int)] A (fun v A' => (∃ (x : UInt64) (z : Int), v = some (.inl (.double x)) ∧ (z = -1 ∨ z = 0) ∧ Value.int (Op.cmpValue (FP.dcmp x (FP.i2d (Int32.ofInt (max 0 (A (12 + 3 * f) 16))))) .l) = ni_z z) ∧ A' = A) := by
  have ti : ∀ x : Int, ni_R32 x → (Int32.ofInt x).toInt = x := fun x hx => by
    rw [Int32.toInt_ofInt_of_le (by unfold ni_R32 at hx; omega) (by unfold ni_R32 at hx; omega)]
  have wi : ∀ x : Int, ni_R32 x → Jvm.FP.Core.Whole x (Jvm.FP.Core.val64 (FP.i2d (Int32.ofInt x))) := fun x hx => by
    have := Jvm.FP.Core.i2d_int (Int32.ofInt x)
    rw [ti x hx] at this
    exact this
  refine nf_Fin (ls := [ni_aL (m), ni_aI ((f : Int)), .inl ni_J]) (fun _ => Nat.le_of_ble_eq_true rfl) (fun _ _ => rfl) ?_
  refine E_Ld (q := 1) rfl rfl (fun _ _ => rfl) ?_
  refine E_Ld (q := 2) rfl rfl (fun _ _ => rfl) ?_
  obtain ⟨vc, Ac, ⟨hvc, hAc⟩, hFc⟩ := nf_Fup (d' := 24) (fc_flow (xs := xs) (A := A) (i := (f : Int)) hm hZ ⟨by omega, hfc⟩ h3) (by decide)
  subst hvc
  rw [hAc] at hFc
  refine E_VT (q := 5) (v := none) rfl rfl rfl hm (Nat.le_of_ble_eq_true rfl) (fun _ _ _ => rfl) (hFc) (fun _ _ => rfl) (fun _ _ => rfl) ?_
  refine E_Ld (q := 6) rfl rfl (fun _ _ => rfl) ?_
  refine E_GetT (q := 9) rfl hm hZ ?_
  refine E_Get (q := 12) (v := ni_aP 3) rfl (show ni_us 0 = true by decide +kernel) (show ni_kd 0 = 4 by decide +kernel) rfl rfl (fun _ _ => rfl) ?_
  refine E_Ld (q := 13) rfl rfl (fun _ _ => rfl) ?_
  refine E_Qld (q := 14) (j := f) (v := ni_aP (12 + 3 * f)) rfl (show ni_us 3 = true by decide +kernel) (show ni_kd 3 = 103 by decide +kernel) (show ni_ln 3 = 12 by decide +kernel) ⟨by decide, rfl⟩ rfl (by omega) (by decide) (ni_L9 (show ni_us 3 = true by decide +kernel) (by decide +kernel) (by omega)) (fun _ _ => rfl) (fun _ _ => rfl) ?_
  refine E_St (q := 15) (ls' := [ni_aL (m), ni_aI ((f : Int)), ni_aP (12 + 3 * f)]) rfl (fun _ _ => rfl) (fun _ _ => rfl) ?_
  refine E_Ld (q := 16) rfl rfl (fun _ _ => rfl) ?_
  refine E_GetI (q := 19) (e := A (12 + 3 * f) 13) rfl (ni_flS f hf).1 (ni_flS f hf).2 rfl rfl (fun _ _ => rfl) ?_
  by_cases g19 : ¬ (A (12 + 3 * f) 13) = 0
  · refine E_If true rfl (zf_ne_t ⟨by omega, by omega⟩ g19) ?_
    refine E_Ld (q := 27) rfl rfl (fun _ _ => rfl) ?_
    refine E_GetI (q := 30) (e := A (12 + 3 * f) 15) rfl (ni_flS f hf).1 (ni_flS f hf).2 rfl rfl (fun _ _ => rfl) ?_
    refine E_P (q := 31) (st' := [.inl (.double (FP.i2d (Int32.ofInt (A (12 + 3 * f) 15))))]) rfl (fun _ _ => rfl) ?_
    refine E_Ld (q := 32) rfl rfl (fun _ _ => rfl) ?_
    refine E_GetI (q := 35) (e := A (12 + 3 * f) 13) rfl (ni_flS f hf).1 (ni_flS f hf).2 rfl rfl (fun _ _ => rfl) ?_
    refine E_P (q := 36) (st' := [.inl (.double (FP.i2d (Int32.ofInt (A (12 + 3 * f) 13)))), .inl (.double (FP.i2d (Int32.ofInt (A (12 + 3 * f) 15))))]) rfl (fun _ _ => rfl) ?_
    refine E_P (q := 37) (st' := [.inl (.double (FP.ddiv (FP.i2d (Int32.ofInt (A (12 + 3 * f) 15))) (FP.i2d (Int32.ofInt (A (12 + 3 * f) 13)))))]) rfl (fun _ _ => if_pos (nd_num (nd_div (wi _ (by unfold ni_R32; omega)) (wi _ (by unfold ni_R32; omega)) (by omega)))) ?_
    refine E_R rfl (fun _ _ => ni_rokD) (fun _ _ => rfl) ?_
    have hx := wi (A (12 + 3 * f) 15) (by unfold ni_R32; omega)
    have hy := wi (A (12 + 3 * f) 13) (by unfold ni_R32; omega)
    have hz := wi (A (12 + 3 * f) 16) (by unfold ni_R32; omega)
    rw [show max 0 (A (12 + 3 * f) 16) = A (12 + 3 * f) 16 by omega]
    rcases hS with hS | hS
    · omega
    · rcases nd_le hx hy hz (by omega) (by omega) (by omega) (by omega) hS.2.2.2.2.1 with hc | hc
      · exact ⟨⟨_, -1, rfl, Or.inl rfl, by rw [show FP.dcmp (FP.ddiv (FP.i2d (Int32.ofInt (A (12 + 3 * f) 15))) (FP.i2d (Int32.ofInt (A (12 + 3 * f) 13)))) (FP.i2d (Int32.ofInt (A (12 + 3 * f) 16))) = some .lt from hc]; rfl⟩, rfl⟩
      · exact ⟨⟨_, 0, rfl, Or.inr rfl, by rw [show FP.dcmp (FP.ddiv (FP.i2d (Int32.ofInt (A (12 + 3 * f) 15))) (FP.i2d (Int32.ofInt (A (12 + 3 * f) 13)))) (FP.i2d (Int32.ofInt (A (12 + 3 * f) 16))) = some .eq from hc]; rfl⟩, rfl⟩
  · refine E_If false rfl (zf_ne_f ⟨by omega, by omega⟩ g19) ?_
    refine E_P (q := 23) (g := ni_gPush (.double FP.dconst0) 23) (st' := [.inl (.double FP.dconst0)]) rfl (fun _ _ => rfl) ?_
    refine E_Go (q := 37) rfl ?_
    refine E_R rfl (fun _ _ => ni_rokD) (fun _ _ => rfl) ?_
    refine ⟨⟨_, 0, rfl, Or.inr rfl, ?_⟩, rfl⟩
    have h16 : A (12 + 3 * f) 16 = -1 := by omega
    rw [h16]
    have : FP.dcmp FP.dconst0 (FP.i2d (Int32.ofInt (max 0 (-1)))) = some .eq := by decide +kernel
    rw [this]
    rfl
set_option maxRecDepth 20000 in
/-- how long a row of a cell is -/
theorem E_LenT {d y pc q b t : Nat} {ls st : List ni_a} {L : Nat → Nat} {P : Option ni_a → (Nat → Nat → Int) → Prop} {vs : List Value} {x : Int} (hp : ni_prog xs y pc = ni_sLen q) (hb : St b = some (t, vs)) (ht : 100 ≤ t ∧ t - 100 < ni_aks.length) (hx : (vs.length : Int) = x) (k : ni_E xs St Z d y q ls (ni_aI x :: st) A L P) : ni_E xs St Z d y pc ls (ni_aL b :: st) A L P :=
  E_pre (fun _ ad _ _ M rw cp _ _ h c k => wp_Len hp (h.1.2.2.2.2.1 b _ hb).1 ht (by rw [← hx]; rfl) (k M rw cp h c)) k
set_option maxRecDepth 20000 in
/-- all packets that are told are told by their classes -/
theorem nz_cn {p : Nat} : ∀ n : Nat, ni_cn A p 0 n + ni_cn A p 1 n + ni_cn A p 2 n + ni_cn A p 3 n = n := by
  intro n
  induction n with
  | zero => rfl
  | succ n ih =>
    have e : ∀ c : Int, ni_cn A p c (n + 1) = ni_cn A p c n + (if A (p + 7) n / 1024 % 4 = c then 1 else 0) := fun _ => rfl
    rw [e, e, e, e]
    have h : A (p + 7) n / 1024 % 4 = 0 ∨ A (p + 7) n / 1024 % 4 = 1 ∨ A (p + 7) n / 1024 % 4 = 2 ∨ A (p + 7) n / 1024 % 4 = 3 := by omega
    rcases h with h | h | h | h <;> (rw [h]; simp; omega)
set_option maxRecDepth 20000 in
theorem mt_soE {lk nf : Nat} {off th x5 : Int} {w6 w7 w8 w9 : Value} (h : off = th) (hr : 0 ≤ off ∧ off ≤ 2000000000) : ni_E xs St Z 25 155 529 [ni_aL (m), ni_aL (lk), ni_aI ((nf : Int)), ni_aI (off), ni_aI (th), ni_aI (x5), .inl w6, .inl w7, .inl w8, .inl w9] [] A (ni_live A) (fun v A' => v = some (ni_aI 1) ∧ A' = A) := by
  refine E_Ld (q := 530) rfl rfl (fun _ _ => rfl) ?_
  refine E_Ld (q := 532) rfl rfl (fun _ _ => rfl) ?_
  refine E_Ic false rfl (zc_ne_f ⟨by omega, by omega⟩ ⟨by omega, by omega⟩ (by omega)) ?_
  refine E_push (q := 536) (c := 1) (z := 1) rfl rfl ?_
  refine E_Go (q := 540) rfl ?_
  refine E_R rfl (fun _ _ => rfl) (fun _ _ => rfl) ?_
  exact ⟨rfl, rfl⟩
set_option maxRecDepth 20000 in
theorem mt_soO (hm : St m = some (9, [.ref n0, .ref n1])) (hZ : ∀ ad, Z ad → ad 0 = n0) {e : Int} {own : Nat → Int} (hI : nq_Inv St own A e) {lk nf r : Nat} {off th : Int} {w7 w8 w9 : Value} (hr : r < 8) (hrc : (r : Int) < A 0 1) (hK : ∀ w6 : Value, ni_E xs St Z 25 155 372 [ni_aL (m), ni_aL (lk), ni_aI ((nf : Int)), ni_aI (off), ni_aI (th), ni_aI ((r : Int) + 1), .inl w6, .inl w7, .inl w8, .inl w9] [] A (ni_live A) (fun v A' => v = some (ni_aI 1) ∧ A' = A)) : ∀ k i : Nat, ((i : Int) + k = A 0 1) → ni_E xs St Z 25 155 452 [ni_aL (m), ni_aL (lk), ni_aI ((nf : Int)), ni_aI (off), ni_aI (th), ni_aI ((r : Int)), ni_aI ((i : Int)), .inl w7, .inl w8, .inl w9] [] A (ni_live A) (fun v A' => v = some (ni_aI 1) ∧ A' = A) := by
  have h8 := hI.2.1.2.2.1
  have hRK := hI.2.2.2.2.2.2.2.1
  have hRT := hI.2.2.2.2.2.2.2.2.1
  intro k
  induction k with
  | zero =>
    intro i hi
    refine E_Ld (q := 454) rfl rfl (fun _ _ => rfl) ?_
    refine E_Ld (q := 455) rfl rfl (fun _ _ => rfl) ?_
    obtain ⟨v455_1, A455_1, ⟨hv455_1, hA455_1⟩, hF455_1⟩ := fc_routers (xs := xs) (A := A) hm hZ 
    subst hv455_1
    rw [hA455_1] at hF455_1
    refine E_VT (q := 458) (v := some (ni_aI (A 0 1))) rfl rfl rfl hm (Nat.le_of_ble_eq_true rfl) (fun _ _ _ => rfl) (hF455_1) (fun _ _ => rfl) (fun _ _ => rfl) ?_
    refine E_Ic true rfl (zc_ge_t ⟨by omega, by omega⟩ ⟨by omega, by omega⟩ (by omega)) ?_
    refine E_Inc (q := 526) (ls' := [ni_aL (m), ni_aL (lk), ni_aI ((nf : Int)), ni_aI (off), ni_aI (th), ni_aI ((r : Int) + 1), ni_aI ((i : Int)), .inl w7, .inl w8, .inl w9]) (z := 1) rfl rfl rfl (fun _ _ => rfl) ?_
    refine E_Go (q := 372) rfl ?_
    exact hK _
  | succ k ih =>
    intro i hi
    obtain ⟨q1, ⟨⟨ob1, nb1, sb1, ca1, na1, cs1, ns1, hb1, ro1, rn1, _⟩, le1⟩, q3⟩ := (hRK r hr hrc).1 i (by omega)
    obtain ⟨p1, ⟨⟨ob2, nb2, sb2, ca2, na2, cs2, ns2, hb2, ro2, rn2, _⟩, le2⟩, p3⟩ := (hRK i (by omega) (by omega)).1 i (by omega)
    have ow := (hRK i (by omega) (by omega)).2
    have l1 := ni_lnoE hb1 (by unfold ni_R32; omega) (by unfold ni_R32; omega)
    have l2 := ni_lnoE hb2 (by unfold ni_R32; omega) (by unfold ni_R32; omega)
    have hle : nb1 ≤ nb2 := by
      rcases q3 with z | z
      · rw [z, ow, l1.1, l2.1] at le1
        exact le1
      · rw [l1.1] at z
        omega
    clear le1 le2 q3 p3 ow
    have hd := (hRT r hr hrc).2.2.1.2 i (by omega)
    unfold ni_rd at hd
    have h6 : 0 ≤ A (286 + 11 * r + 6) i ∧ A (286 + 11 * r + 6) i < 16384 := by
      by_cases c : i = r
      · have := hd.1 c
        omega
      · have := hd.2 c
        omega
    have hd2 : (A (286 + 11 * r + 5) i ≤ 0 ∧ A (286 + 11 * r + 6) i = 0) ∨ (0 < A (286 + 11 * r + 5) i ∧ A (286 + 11 * r + 5) i ≤ 10000 ∧ 0 < A (286 + 11 * r + 6) i) := by
      by_cases c : i = r
      · have := hd.1 c
        omega
      · have := hd.2 c
        omega
    have hd3 : -1 ≤ A (286 + 11 * r + 5) i := by
      by_cases c : i = r
      · have := hd.1 c
        omega
      · have := hd.2 c
        omega
    clear hd
    obtain ⟨b, hb6⟩ := Int.eq_ofNat_of_zero_le h6.1
    have hbc := ni_bcF (n := b) (by omega)
    have hbc1 := hbc.1
    have hbc2 : (b = 0 ∧ ni_bc b = 0) ∨ (0 < b ∧ 0 < ni_bc b) := by
      by_cases c : b = 0
      · exact Or.inl ⟨c, hbc.2.mp c⟩
      · exact Or.inr ⟨by omega, Nat.pos_of_ne_zero (fun z => c (hbc.2.mpr z))⟩
    clear hbc
    refine E_Ld (q := 454) rfl rfl (fun _ _ => rfl) ?_
    refine E_Ld (q := 455) rfl rfl (fun _ _ => rfl) ?_
    obtain ⟨v455_1, A455_1, ⟨hv455_1, hA455_1⟩, hF455_1⟩ := fc_routers (xs := xs) (A := A) hm hZ 
    subst hv455_1
    rw [hA455_1] at hF455_1
    refine E_VT (q := 458) (v := some (ni_aI (A 0 1))) rfl rfl rfl hm (Nat.le_of_ble_eq_true rfl) (fun _ _ _ => rfl) (hF455_1) (fun _ _ => rfl) (fun _ _ => rfl) ?_
    refine E_Ic false rfl (zc_ge_f ⟨by omega, by omega⟩ ⟨by omega, by omega⟩ (by omega)) ?_
    refine E_Ld (q := 462) rfl rfl (fun _ _ => rfl) ?_
    refine E_Ld (q := 464) rfl rfl (fun _ _ => rfl) ?_
    refine E_Ld (q := 466) rfl rfl (fun _ _ => rfl) ?_
    obtain ⟨v466_2, A466_2, ⟨hv466_2, hA466_2⟩, hF466_2⟩ := fc_letterOf (xs := xs) (A := A) hm hZ hr hrc (show i < 8 by omega) (show (i : Int) < A 0 1 by omega) (by omega) hb1
    subst hv466_2
    rw [hA466_2] at hF466_2
    refine E_VT (q := 469) (v := some (ni_aI (nb1))) rfl rfl rfl hm (Nat.le_of_ble_eq_true rfl) (fun _ _ _ => rfl) (hF466_2) (fun _ _ => rfl) (fun _ _ => rfl) ?_
    refine E_Ld (q := 470) rfl rfl (fun _ _ => rfl) ?_
    refine E_Ld (q := 472) rfl rfl (fun _ _ => rfl) ?_
    refine E_Ld (q := 474) rfl rfl (fun _ _ => rfl) ?_
    obtain ⟨v474_3, A474_3, ⟨hv474_3, hA474_3⟩, hF474_3⟩ := fc_letterOf (xs := xs) (A := A) hm hZ (show i < 8 by omega) (show (i : Int) < A 0 1 by omega) (show i < 8 by omega) (show (i : Int) < A 0 1 by omega) (by omega) hb2
    subst hv474_3
    rw [hA474_3] at hF474_3
    refine E_VT (q := 477) (v := some (ni_aI (nb2))) rfl rfl rfl hm (Nat.le_of_ble_eq_true rfl) (fun _ _ _ => rfl) (hF474_3) (fun _ _ => rfl) (fun _ _ => rfl) ?_
    refine E_Ic false rfl (zc_gt_f ⟨by omega, by omega⟩ ⟨by omega, by omega⟩ (by omega)) ?_
    refine E_Ld (q := 481) rfl rfl (fun _ _ => rfl) ?_
    refine E_Ld (q := 483) rfl rfl (fun _ _ => rfl) ?_
    refine E_Ld (q := 485) rfl rfl (fun _ _ => rfl) ?_
    obtain ⟨v485_4, A485_4, ⟨hv485_4, hA485_4⟩, hF485_4⟩ := fc_distance (xs := xs) (A := A) hm hZ hr hrc (show i < 8 by omega) (show (i : Int) < A 0 1 by omega) (by omega)
    subst hv485_4
    rw [hA485_4] at hF485_4
    refine E_VT (q := 488) (v := some (ni_aI (A (286 + 11 * r + 5) i))) rfl rfl rfl hm (Nat.le_of_ble_eq_true rfl) (fun _ _ _ => rfl) (hF485_4) (fun _ _ => rfl) (fun _ _ => rfl) ?_
    by_cases g488 : (A (286 + 11 * r + 5) i) ≤ 0
    · refine E_If true rfl (zf_le_t ⟨by omega, by omega⟩ g488) ?_
      refine E_push (q := 496) (c := 0) (z := 0) rfl rfl ?_
      refine E_Ld (q := 497) rfl rfl (fun _ _ => rfl) ?_
      refine E_Ld (q := 499) rfl rfl (fun _ _ => rfl) ?_
      refine E_Ld (q := 501) rfl rfl (fun _ _ => rfl) ?_
      obtain ⟨v501_5, A501_5, ⟨hv501_5, hA501_5⟩, hF501_5⟩ := fc_firsts (xs := xs) (A := A) hm hZ hr hrc (show i < 8 by omega) (show (i : Int) < A 0 1 by omega) (by omega) hb6 (by omega)
      subst hv501_5
      rw [hA501_5] at hF501_5
      refine E_VT (q := 504) (v := some (ni_aI ((ni_bc b : Int)))) rfl rfl rfl hm (Nat.le_of_ble_eq_true rfl) (fun _ _ _ => rfl) (hF501_5) (fun _ _ => rfl) (fun _ _ => rfl) ?_
      by_cases g504 : ((ni_bc b : Int)) ≤ 0
      · refine E_If true rfl (zf_le_t ⟨by omega, by omega⟩ g504) ?_
        refine E_push (q := 512) (c := 0) (z := 0) rfl rfl ?_
        refine E_Ic true rfl (zc_eq_t ⟨by omega, by omega⟩ ⟨by omega, by omega⟩ (by omega)) ?_
        refine E_Inc (q := 520) (ls' := [ni_aL (m), ni_aL (lk), ni_aI ((nf : Int)), ni_aI (off), ni_aI (th), ni_aI ((r : Int)), ni_aI ((i : Int) + 1), .inl w7, .inl w8, .inl w9]) (z := 1) rfl rfl rfl (fun _ _ => rfl) ?_
        refine E_Go (q := 452) rfl ?_
        exact ih (i + 1) (by omega)
      · refine E_If false rfl (zf_le_f ⟨by omega, by omega⟩ g504) ?_
        refine E_push (q := 508) (c := 1) (z := 1) rfl rfl ?_
        refine E_Go (q := 512) rfl ?_
        exfalso
        omega
    · refine E_If false rfl (zf_le_f ⟨by omega, by omega⟩ g488) ?_
      refine E_push (q := 492) (c := 1) (z := 1) rfl rfl ?_
      refine E_Go (q := 496) rfl ?_
      refine E_Ld (q := 497) rfl rfl (fun _ _ => rfl) ?_
      refine E_Ld (q := 499) rfl rfl (fun _ _ => rfl) ?_
      refine E_Ld (q := 501) rfl rfl (fun _ _ => rfl) ?_
      obtain ⟨v501_5, A501_5, ⟨hv501_5, hA501_5⟩, hF501_5⟩ := fc_firsts (xs := xs) (A := A) hm hZ hr hrc (show i < 8 by omega) (show (i : Int) < A 0 1 by omega) (by omega) hb6 (by omega)
      subst hv501_5
      rw [hA501_5] at hF501_5
      refine E_VT (q := 504) (v := some (ni_aI ((ni_bc b : Int)))) rfl rfl rfl hm (Nat.le_of_ble_eq_true rfl) (fun _ _ _ => rfl) (hF501_5) (fun _ _ => rfl) (fun _ _ => rfl) ?_
      by_cases g504 : ((ni_bc b : Int)) ≤ 0
      · refine E_If true rfl (zf_le_t ⟨by omega, by omega⟩ g504) ?_
        refine E_push (q := 512) (c := 0) (z := 0) rfl rfl ?_
        exfalso
        omega
      · refine E_If false rfl (zf_le_f ⟨by omega, by omega⟩ g504) ?_
        refine E_push (q := 508) (c := 1) (z := 1) rfl rfl ?_
        refine E_Go (q := 512) rfl ?_
        refine E_Ic true rfl (zc_eq_t ⟨by omega, by omega⟩ ⟨by omega, by omega⟩ (by omega)) ?_
        refine E_Inc (q := 520) (ls' := [ni_aL (m), ni_aL (lk), ni_aI ((nf : Int)), ni_aI (off), ni_aI (th), ni_aI ((r : Int)), ni_aI ((i : Int) + 1), .inl w7, .inl w8, .inl w9]) (z := 1) rfl rfl rfl (fun _ _ => rfl) ?_
        refine E_Go (q := 452) rfl ?_
        exact ih (i + 1) (by omega)
set_option maxRecDepth 20000 in
theorem mt_soR (hm : St m = some (9, [.ref n0, .ref n1])) (hZ : ∀ ad, Z ad → ad 0 = n0) {e : Int} {own : Nat → Int} (hI : nq_Inv St own A e) {lk nf : Nat} {off th : Int} {w7 w8 w9 : Value} (h : off = th) (hof : 0 ≤ off ∧ off ≤ 2000000000) : ∀ k i : Nat, ((i : Int) + k = A 0 1) → ∀ w6 : Value, ni_E xs St Z 25 155 372 [ni_aL (m), ni_aL (lk), ni_aI ((nf : Int)), ni_aI (off), ni_aI (th), ni_aI ((i : Int)), .inl w6, .inl w7, .inl w8, .inl w9] [] A (ni_live A) (fun v A' => v = some (ni_aI 1) ∧ A' = A) := by
  have h8 := hI.2.1.2.2.1
  have hRT := hI.2.2.2.2.2.2.2.2.1
  have bc0 : ni_bc 0 = 0 := by decide +kernel
  intro k
  induction k with
  | zero =>
    intro i hi w6
    refine E_Ld (q := 374) rfl rfl (fun _ _ => rfl) ?_
    refine E_Ld (q := 375) rfl rfl (fun _ _ => rfl) ?_
    obtain ⟨v375_1, A375_1, ⟨hv375_1, hA375_1⟩, hF375_1⟩ := fc_routers (xs := xs) (A := A) hm hZ 
    subst hv375_1
    rw [hA375_1] at hF375_1
    refine E_VT (q := 378) (v := some (ni_aI (A 0 1))) rfl rfl rfl hm (Nat.le_of_ble_eq_true rfl) (fun _ _ _ => rfl) (hF375_1) (fun _ _ => rfl) (fun _ _ => rfl) ?_
    refine E_Ic true rfl (zc_ge_t ⟨by omega, by omega⟩ ⟨by omega, by omega⟩ (by omega)) ?_
    exact mt_soE h hof
  | succ k ih =>
    intro i hi w6
    have h8i : i < 8 := by omega
    have hic : (i : Int) < A 0 1 := by omega
    obtain ⟨t1, t2, t3, t4⟩ := hRT i h8i hic
    have hd := (t3.2 i h8i).1 rfl
    have hT3 := t4.1.1
    obtain ⟨nn, dd, ⟨v1, B1, ⟨hv1, hB1⟩, hN⟩, ⟨v2, B2, ⟨hv2, hB2⟩, hE⟩, hn1, hn2, hn3, hn4⟩ := mt_countT (xs := xs) (St := St) (A := A) (t := 286 + 11 * i + 7) (ni_o7_7 (ni_roS i h8i).1 (ni_roS i h8i).2).1 (ni_o7_7 (ni_roS i h8i).1 (ni_roS i h8i).2).2.1 t4
    subst hv1 hv2
    rw [hB1] at hN
    rw [hB2] at hE
    refine E_Ld (q := 374) rfl rfl (fun _ _ => rfl) ?_
    refine E_Ld (q := 375) rfl rfl (fun _ _ => rfl) ?_
    obtain ⟨v375_1, A375_1, ⟨hv375_1, hA375_1⟩, hF375_1⟩ := fc_routers (xs := xs) (A := A) hm hZ 
    subst hv375_1
    rw [hA375_1] at hF375_1
    refine E_VT (q := 378) (v := some (ni_aI (A 0 1))) rfl rfl rfl hm (Nat.le_of_ble_eq_true rfl) (fun _ _ _ => rfl) (hF375_1) (fun _ _ => rfl) (fun _ _ => rfl) ?_
    refine E_Ic false rfl (zc_ge_f ⟨by omega, by omega⟩ ⟨by omega, by omega⟩ (by omega)) ?_
    refine E_Ld (q := 382) rfl rfl (fun _ _ => rfl) ?_
    refine E_Ld (q := 384) rfl rfl (fun _ _ => rfl) ?_
    refine E_Ld (q := 386) rfl rfl (fun _ _ => rfl) ?_
    obtain ⟨v386_2, A386_2, ⟨hv386_2, hA386_2⟩, hF386_2⟩ := fc_distance (xs := xs) (A := A) hm hZ h8i hic h8i hic (by omega)
    subst hv386_2
    rw [hA386_2] at hF386_2
    refine E_VT (q := 389) (v := some (ni_aI (A (286 + 11 * i + 5) i))) rfl rfl rfl hm (Nat.le_of_ble_eq_true rfl) (fun _ _ _ => rfl) (hF386_2) (fun _ _ => rfl) (fun _ _ => rfl) ?_
    refine E_If false rfl (zf_ne_f ⟨by omega, by omega⟩ (by omega)) ?_
    refine E_Ld (q := 393) rfl rfl (fun _ _ => rfl) ?_
    refine E_Ld (q := 395) rfl rfl (fun _ _ => rfl) ?_
    refine E_Ld (q := 397) rfl rfl (fun _ _ => rfl) ?_
    obtain ⟨v397_3, A397_3, ⟨hv397_3, hA397_3⟩, hF397_3⟩ := fc_firsts (xs := xs) (A := A) hm hZ (b := 0) h8i hic h8i hic (by omega) hd.2 (by omega)
    subst hv397_3
    rw [hA397_3] at hF397_3
    refine E_VT (q := 400) (v := some (ni_aI ((ni_bc 0 : Int)))) rfl rfl rfl hm (Nat.le_of_ble_eq_true rfl) (fun _ _ _ => rfl) (hF397_3) (fun _ _ => rfl) (fun _ _ => rfl) ?_
    refine E_If false rfl (zf_ne_f ⟨by omega, by omega⟩ (by omega)) ?_
    refine E_Ld (q := 404) rfl rfl (fun _ _ => rfl) ?_
    refine E_Ld (q := 406) rfl rfl (fun _ _ => rfl) ?_
    obtain ⟨v406_4, A406_4, ⟨hv406_4, hA406_4⟩, hF406_4⟩ := fc_nodes (xs := xs) (A := A) hm hZ h8i hic (by omega) ⟨_, _, ⟨rfl, rfl⟩, hN⟩
    subst hv406_4
    rw [hA406_4] at hF406_4
    refine E_VT (q := 409) (v := some (ni_aI (nn))) rfl rfl rfl hm (Nat.le_of_ble_eq_true rfl) (fun _ _ _ => rfl) (hF406_4) (fun _ _ => rfl) (fun _ _ => rfl) ?_
    refine E_push (q := 410) (c := 1) (z := 1) rfl rfl ?_
    refine E_Ic false rfl (zc_lt_f ⟨by omega, by omega⟩ ⟨by omega, by omega⟩ (by omega)) ?_
    refine E_Ld (q := 414) rfl rfl (fun _ _ => rfl) ?_
    refine E_Ld (q := 416) rfl rfl (fun _ _ => rfl) ?_
    obtain ⟨v416_5, A416_5, ⟨hv416_5, hA416_5⟩, hF416_5⟩ := fc_nodes (xs := xs) (A := A) hm hZ h8i hic (by omega) ⟨_, _, ⟨rfl, rfl⟩, hN⟩
    subst hv416_5
    rw [hA416_5] at hF416_5
    refine E_VT (q := 419) (v := some (ni_aI (nn))) rfl rfl rfl hm (Nat.le_of_ble_eq_true rfl) (fun _ _ _ => rfl) (hF416_5) (fun _ _ => rfl) (fun _ _ => rfl) ?_
    refine E_push (q := 420) (c := 2) (z := 2) rfl rfl ?_
    refine E_Ld (q := 421) rfl rfl (fun _ _ => rfl) ?_
    refine E_Ld (q := 423) rfl rfl (fun _ _ => rfl) ?_
    obtain ⟨v423_6, A423_6, ⟨hv423_6, hA423_6⟩, hF423_6⟩ := fc_entries (xs := xs) (A := A) hm hZ h8i hic (by omega)
    subst hv423_6
    rw [hA423_6] at hF423_6
    refine E_VT (q := 426) (v := some (ni_aI (A (286 + 11 * i + 7) 3))) rfl rfl rfl hm (Nat.le_of_ble_eq_true rfl) (fun _ _ _ => rfl) (hF423_6) (fun _ _ => rfl) (fun _ _ => rfl) ?_
    refine E_mul (q := 427) rfl ?_
    refine E_push (q := 428) (c := 1) (z := 1) rfl rfl ?_
    refine E_add (q := 429) rfl ?_
    refine E_Ic false rfl (zc_gt_f ⟨by omega, by omega⟩ ⟨by omega, by omega⟩ (by omega)) ?_
    refine E_Ld (q := 433) rfl rfl (fun _ _ => rfl) ?_
    refine E_Ld (q := 435) rfl rfl (fun _ _ => rfl) ?_
    obtain ⟨v435_7, A435_7, ⟨hv435_7, hA435_7⟩, hF435_7⟩ := fc_levels (xs := xs) (A := A) hm hZ h8i hic (by omega) ⟨_, _, ⟨rfl, rfl⟩, hE⟩
    subst hv435_7
    rw [hA435_7] at hF435_7
    refine E_VT (q := 438) (v := some (ni_aI (dd))) rfl rfl rfl hm (Nat.le_of_ble_eq_true rfl) (fun _ _ _ => rfl) (hF435_7) (fun _ _ => rfl) (fun _ _ => rfl) ?_
    refine E_Ld (q := 439) rfl rfl (fun _ _ => rfl) ?_
    refine E_Ld (q := 441) rfl rfl (fun _ _ => rfl) ?_
    obtain ⟨v441_8, A441_8, ⟨hv441_8, hA441_8⟩, hF441_8⟩ := fc_nodes (xs := xs) (A := A) hm hZ h8i hic (by omega) ⟨_, _, ⟨rfl, rfl⟩, hN⟩
    subst hv441_8
    rw [hA441_8] at hF441_8
    refine E_VT (q := 444) (v := some (ni_aI (nn))) rfl rfl rfl hm (Nat.le_of_ble_eq_true rfl) (fun _ _ _ => rfl) (hF441_8) (fun _ _ => rfl) (fun _ _ => rfl) ?_
    refine E_Ic true rfl (zc_le_t ⟨by omega, by omega⟩ ⟨by omega, by omega⟩ (by omega)) ?_
    refine E_push (q := 450) (c := 0) (z := 0) rfl rfl ?_
    refine E_St (q := 452) (ls' := [ni_aL (m), ni_aL (lk), ni_aI ((nf : Int)), ni_aI (off), ni_aI (th), ni_aI ((i : Int)), ni_aI (0), .inl w7, .inl w8, .inl w9]) rfl (fun _ _ => rfl) (fun _ _ => rfl) ?_
    exact mt_soO hm hZ hI h8i hic (fun w6 => ih (i + 1) (by omega) w6) (A 0 1).toNat 0 (by omega)
set_option maxRecDepth 20000 in
theorem mt_so00 (hm : St m = some (9, [.ref n0, .ref n1])) (hZ : ∀ ad, Z ad → ad 0 = n0) {lk nf l : Nat} {off th x6 mn : Int} (hl : l < 14) (hlc : (l : Int) < A 0 2) (h2 : A 0 2 ≤ 14) (hn : 0 ≤ A (48 + 17 * l + 1) 10 ∧ A (48 + 17 * l + 1) 10 ≤ 250) (hq : ∀ i : Nat, (i : Int) < A (48 + 17 * l + 1) 10 → 0 ≤ A (48 + 17 * l + 1 + 7) i ∧ A (48 + 17 * l + 1 + 7) i ≤ 2147483647) (hd : ∀ j : Nat, j < 4 → 0 ≤ A (48 + 17 * l + 1 + 6) j ∧ A (48 + 17 * l + 1 + 6) j ≤ 10000) (hK : ni_E xs St Z 25 155 226 [ni_aL (m), ni_aL (lk), ni_aI ((nf : Int)), ni_aI (off), ni_aI (th), ni_aI ((l : Int)), ni_aI (x6), ni_aI (0), ni_aI (mn + ni_cn A (48 + 17 * l + 1) 0 (A (48 + 17 * l + 1) 10).toNat), ni_aI (0 + 1)] [] A (ni_live A) (fun v A' => v = some (ni_aI 1) ∧ A' = A)) : ni_E xs St Z 25 155 226 [ni_aL (m), ni_aL (lk), ni_aI ((nf : Int)), ni_aI (off), ni_aI (th), ni_aI ((l : Int)), ni_aI (x6), ni_aI (0), ni_aI (mn), ni_aI (0)] [] A (ni_live A) (fun v A' => v = some (ni_aI 1) ∧ A' = A) := by
  have hd0 := hd 0 (by omega)
  refine E_Ld (q := 228) rfl rfl (fun _ _ => rfl) ?_
  refine E_push (q := 229) (c := 4) (z := 4) rfl rfl ?_
  refine E_Ic false rfl (zc_ge_f ⟨by omega, by omega⟩ ⟨by omega, by omega⟩ (by omega)) ?_
  refine E_Ld (q := 234) rfl rfl (fun _ _ => rfl) ?_
  refine E_Ld (q := 235) rfl rfl (fun _ _ => rfl) ?_
  refine E_Ld (q := 237) rfl rfl (fun _ _ => rfl) ?_
  refine E_Ld (q := 239) rfl rfl (fun _ _ => rfl) ?_
  refine E_Ld (q := 241) rfl rfl (fun _ _ => rfl) ?_
  obtain ⟨v241_1, A241_1, ⟨hv241_1, hA241_1⟩, hF241_1⟩ := fc_queued0 (xs := xs) (A := A) hm hZ (c := 0) hl hlc (by omega) (by omega) hn hq
  subst hv241_1
  rw [hA241_1] at hF241_1
  refine E_VT (q := 244) (v := some (ni_aI (ni_cn A (48 + 17 * l + 1) 0 (A (48 + 17 * l + 1) 10).toNat))) rfl rfl rfl hm (Nat.le_of_ble_eq_true rfl) (fun _ _ _ => rfl) (hF241_1) (fun _ _ => rfl) (fun _ _ => rfl) ?_
  refine E_add (q := 245) rfl ?_
  refine E_St (q := 247) (ls' := [ni_aL (m), ni_aL (lk), ni_aI ((nf : Int)), ni_aI (off), ni_aI (th), ni_aI ((l : Int)), ni_aI (x6), ni_aI (0), ni_aI (mn + (ni_cn A (48 + 17 * l + 1) 0 (A (48 + 17 * l + 1) 10).toNat)), ni_aI (0)]) rfl (fun _ _ => rfl) (fun _ _ => rfl) ?_
  refine E_Ld (q := 248) rfl rfl (fun _ _ => rfl) ?_
  refine E_Ld (q := 250) rfl rfl (fun _ _ => rfl) ?_
  refine E_Ld (q := 252) rfl rfl (fun _ _ => rfl) ?_
  refine E_Ld (q := 254) rfl rfl (fun _ _ => rfl) ?_
  obtain ⟨v254_2, A254_2, ⟨hv254_2, hA254_2⟩, hF254_2⟩ := fc_deficit0 (xs := xs) (A := A) hm hZ (c := 0) hl hlc (by omega) (by omega)
  subst hv254_2
  rw [hA254_2] at hF254_2
  refine E_VT (q := 257) (v := some (ni_aI (A (48 + 17 * l + 1 + 6) 0))) rfl rfl rfl hm (Nat.le_of_ble_eq_true rfl) (fun _ _ _ => rfl) (hF254_2) (fun _ _ => rfl) (fun _ _ => rfl) ?_
  refine E_If true rfl (zf_ge_t ⟨by omega, by omega⟩ (by omega)) ?_
  refine E_Inc (q := 265) (ls' := [ni_aL (m), ni_aL (lk), ni_aI ((nf : Int)), ni_aI (off), ni_aI (th), ni_aI ((l : Int)), ni_aI (x6), ni_aI (0), ni_aI (mn + (ni_cn A (48 + 17 * l + 1) 0 (A (48 + 17 * l + 1) 10).toNat)), ni_aI (0 + 1)]) (z := 1) rfl rfl rfl (fun _ _ => rfl) ?_
  refine E_Go (q := 226) rfl ?_
  exact hK
set_option maxRecDepth 20000 in
theorem mt_so01 (hm : St m = some (9, [.ref n0, .ref n1])) (hZ : ∀ ad, Z ad → ad 0 = n0) {lk nf l : Nat} {off th x6 mn : Int} (hl : l < 14) (hlc : (l : Int) < A 0 2) (h2 : A 0 2 ≤ 14) (hn : 0 ≤ A (48 + 17 * l + 1) 10 ∧ A (48 + 17 * l + 1) 10 ≤ 250) (hq : ∀ i : Nat, (i : Int) < A (48 + 17 * l + 1) 10 → 0 ≤ A (48 + 17 * l + 1 + 7) i ∧ A (48 + 17 * l + 1 + 7) i ≤ 2147483647) (hd : ∀ j : Nat, j < 4 → 0 ≤ A (48 + 17 * l + 1 + 6) j ∧ A (48 + 17 * l + 1 + 6) j ≤ 10000) (hK : ni_E xs St Z 25 155 226 [ni_aL (m), ni_aL (lk), ni_aI ((nf : Int)), ni_aI (off), ni_aI (th), ni_aI ((l : Int)), ni_aI (x6), ni_aI (0), ni_aI (mn + ni_cn A (48 + 17 * l + 1) 1 (A (48 + 17 * l + 1) 10).toNat), ni_aI (1 + 1)] [] A (ni_live A) (fun v A' => v = some (ni_aI 1) ∧ A' = A)) : ni_E xs St Z 25 155 226 [ni_aL (m), ni_aL (lk), ni_aI ((nf : Int)), ni_aI (off), ni_aI (th), ni_aI ((l : Int)), ni_aI (x6), ni_aI (0), ni_aI (mn), ni_aI (1)] [] A (ni_live A) (fun v A' => v = some (ni_aI 1) ∧ A' = A) := by
  have hd1 := hd 1 (by omega)
  refine E_Ld (q := 228) rfl rfl (fun _ _ => rfl) ?_
  refine E_push (q := 229) (c := 4) (z := 4) rfl rfl ?_
  refine E_Ic false rfl (zc_ge_f ⟨by omega, by omega⟩ ⟨by omega, by omega⟩ (by omega)) ?_
  refine E_Ld (q := 234) rfl rfl (fun _ _ => rfl) ?_
  refine E_Ld (q := 235) rfl rfl (fun _ _ => rfl) ?_
  refine E_Ld (q := 237) rfl rfl (fun _ _ => rfl) ?_
  refine E_Ld (q := 239) rfl rfl (fun _ _ => rfl) ?_
  refine E_Ld (q := 241) rfl rfl (fun _ _ => rfl) ?_
  obtain ⟨v241_1, A241_1, ⟨hv241_1, hA241_1⟩, hF241_1⟩ := fc_queued0 (xs := xs) (A := A) hm hZ (c := 1) hl hlc (by omega) (by omega) hn hq
  subst hv241_1
  rw [hA241_1] at hF241_1
  refine E_VT (q := 244) (v := some (ni_aI (ni_cn A (48 + 17 * l + 1) 1 (A (48 + 17 * l + 1) 10).toNat))) rfl rfl rfl hm (Nat.le_of_ble_eq_true rfl) (fun _ _ _ => rfl) (hF241_1) (fun _ _ => rfl) (fun _ _ => rfl) ?_
  refine E_add (q := 245) rfl ?_
  refine E_St (q := 247) (ls' := [ni_aL (m), ni_aL (lk), ni_aI ((nf : Int)), ni_aI (off), ni_aI (th), ni_aI ((l : Int)), ni_aI (x6), ni_aI (0), ni_aI (mn + (ni_cn A (48 + 17 * l + 1) 1 (A (48 + 17 * l + 1) 10).toNat)), ni_aI (1)]) rfl (fun _ _ => rfl) (fun _ _ => rfl) ?_
  refine E_Ld (q := 248) rfl rfl (fun _ _ => rfl) ?_
  refine E_Ld (q := 250) rfl rfl (fun _ _ => rfl) ?_
  refine E_Ld (q := 252) rfl rfl (fun _ _ => rfl) ?_
  refine E_Ld (q := 254) rfl rfl (fun _ _ => rfl) ?_
  obtain ⟨v254_2, A254_2, ⟨hv254_2, hA254_2⟩, hF254_2⟩ := fc_deficit0 (xs := xs) (A := A) hm hZ (c := 1) hl hlc (by omega) (by omega)
  subst hv254_2
  rw [hA254_2] at hF254_2
  refine E_VT (q := 257) (v := some (ni_aI (A (48 + 17 * l + 1 + 6) 1))) rfl rfl rfl hm (Nat.le_of_ble_eq_true rfl) (fun _ _ _ => rfl) (hF254_2) (fun _ _ => rfl) (fun _ _ => rfl) ?_
  refine E_If true rfl (zf_ge_t ⟨by omega, by omega⟩ (by omega)) ?_
  refine E_Inc (q := 265) (ls' := [ni_aL (m), ni_aL (lk), ni_aI ((nf : Int)), ni_aI (off), ni_aI (th), ni_aI ((l : Int)), ni_aI (x6), ni_aI (0), ni_aI (mn + (ni_cn A (48 + 17 * l + 1) 1 (A (48 + 17 * l + 1) 10).toNat)), ni_aI (1 + 1)]) (z := 1) rfl rfl rfl (fun _ _ => rfl) ?_
  refine E_Go (q := 226) rfl ?_
  exact hK
set_option maxRecDepth 20000 in
theorem mt_so02 (hm : St m = some (9, [.ref n0, .ref n1])) (hZ : ∀ ad, Z ad → ad 0 = n0) {lk nf l : Nat} {off th x6 mn : Int} (hl : l < 14) (hlc : (l : Int) < A 0 2) (h2 : A 0 2 ≤ 14) (hn : 0 ≤ A (48 + 17 * l + 1) 10 ∧ A (48 + 17 * l + 1) 10 ≤ 250) (hq : ∀ i : Nat, (i : Int) < A (48 + 17 * l + 1) 10 → 0 ≤ A (48 + 17 * l + 1 + 7) i ∧ A (48 + 17 * l + 1 + 7) i ≤ 2147483647) (hd : ∀ j : Nat, j < 4 → 0 ≤ A (48 + 17 * l + 1 + 6) j ∧ A (48 + 17 * l + 1 + 6) j ≤ 10000) (hK : ni_E xs St Z 25 155 226 [ni_aL (m), ni_aL (lk), ni_aI ((nf : Int)), ni_aI (off), ni_aI (th), ni_aI ((l : Int)), ni_aI (x6), ni_aI (0), ni_aI (mn + ni_cn A (48 + 17 * l + 1) 2 (A (48 + 17 * l + 1) 10).toNat), ni_aI (2 + 1)] [] A (ni_live A) (fun v A' => v = some (ni_aI 1) ∧ A' = A)) : ni_E xs St Z 25 155 226 [ni_aL (m), ni_aL (lk), ni_aI ((nf : Int)), ni_aI (off), ni_aI (th), ni_aI ((l : Int)), ni_aI (x6), ni_aI (0), ni_aI (mn), ni_aI (2)] [] A (ni_live A) (fun v A' => v = some (ni_aI 1) ∧ A' = A) := by
  have hd2 := hd 2 (by omega)
  refine E_Ld (q := 228) rfl rfl (fun _ _ => rfl) ?_
  refine E_push (q := 229) (c := 4) (z := 4) rfl rfl ?_
  refine E_Ic false rfl (zc_ge_f ⟨by omega, by omega⟩ ⟨by omega, by omega⟩ (by omega)) ?_
  refine E_Ld (q := 234) rfl rfl (fun _ _ => rfl) ?_
  refine E_Ld (q := 235) rfl rfl (fun _ _ => rfl) ?_
  refine E_Ld (q := 237) rfl rfl (fun _ _ => rfl) ?_
  refine E_Ld (q := 239) rfl rfl (fun _ _ => rfl) ?_
  refine E_Ld (q := 241) rfl rfl (fun _ _ => rfl) ?_
  obtain ⟨v241_1, A241_1, ⟨hv241_1, hA241_1⟩, hF241_1⟩ := fc_queued0 (xs := xs) (A := A) hm hZ (c := 2) hl hlc (by omega) (by omega) hn hq
  subst hv241_1
  rw [hA241_1] at hF241_1
  refine E_VT (q := 244) (v := some (ni_aI (ni_cn A (48 + 17 * l + 1) 2 (A (48 + 17 * l + 1) 10).toNat))) rfl rfl rfl hm (Nat.le_of_ble_eq_true rfl) (fun _ _ _ => rfl) (hF241_1) (fun _ _ => rfl) (fun _ _ => rfl) ?_
  refine E_add (q := 245) rfl ?_
  refine E_St (q := 247) (ls' := [ni_aL (m), ni_aL (lk), ni_aI ((nf : Int)), ni_aI (off), ni_aI (th), ni_aI ((l : Int)), ni_aI (x6), ni_aI (0), ni_aI (mn + (ni_cn A (48 + 17 * l + 1) 2 (A (48 + 17 * l + 1) 10).toNat)), ni_aI (2)]) rfl (fun _ _ => rfl) (fun _ _ => rfl) ?_
  refine E_Ld (q := 248) rfl rfl (fun _ _ => rfl) ?_
  refine E_Ld (q := 250) rfl rfl (fun _ _ => rfl) ?_
  refine E_Ld (q := 252) rfl rfl (fun _ _ => rfl) ?_
  refine E_Ld (q := 254) rfl rfl (fun _ _ => rfl) ?_
  obtain ⟨v254_2, A254_2, ⟨hv254_2, hA254_2⟩, hF254_2⟩ := fc_deficit0 (xs := xs) (A := A) hm hZ (c := 2) hl hlc (by omega) (by omega)
  subst hv254_2
  rw [hA254_2] at hF254_2
  refine E_VT (q := 257) (v := some (ni_aI (A (48 + 17 * l + 1 + 6) 2))) rfl rfl rfl hm (Nat.le_of_ble_eq_true rfl) (fun _ _ _ => rfl) (hF254_2) (fun _ _ => rfl) (fun _ _ => rfl) ?_
  refine E_If true rfl (zf_ge_t ⟨by omega, by omega⟩ (by omega)) ?_
  refine E_Inc (q := 265) (ls' := [ni_aL (m), ni_aL (lk), ni_aI ((nf : Int)), ni_aI (off), ni_aI (th), ni_aI ((l : Int)), ni_aI (x6), ni_aI (0), ni_aI (mn + (ni_cn A (48 + 17 * l + 1) 2 (A (48 + 17 * l + 1) 10).toNat)), ni_aI (2 + 1)]) (z := 1) rfl rfl rfl (fun _ _ => rfl) ?_
  refine E_Go (q := 226) rfl ?_
  exact hK
set_option maxRecDepth 20000 in
theorem mt_so03 (hm : St m = some (9, [.ref n0, .ref n1])) (hZ : ∀ ad, Z ad → ad 0 = n0) {lk nf l : Nat} {off th x6 mn : Int} (hl : l < 14) (hlc : (l : Int) < A 0 2) (h2 : A 0 2 ≤ 14) (hn : 0 ≤ A (48 + 17 * l + 1) 10 ∧ A (48 + 17 * l + 1) 10 ≤ 250) (hq : ∀ i : Nat, (i : Int) < A (48 + 17 * l + 1) 10 → 0 ≤ A (48 + 17 * l + 1 + 7) i ∧ A (48 + 17 * l + 1 + 7) i ≤ 2147483647) (hd : ∀ j : Nat, j < 4 → 0 ≤ A (48 + 17 * l + 1 + 6) j ∧ A (48 + 17 * l + 1 + 6) j ≤ 10000) (hK : ni_E xs St Z 25 155 226 [ni_aL (m), ni_aL (lk), ni_aI ((nf : Int)), ni_aI (off), ni_aI (th), ni_aI ((l : Int)), ni_aI (x6), ni_aI (0), ni_aI (mn + ni_cn A (48 + 17 * l + 1) 3 (A (48 + 17 * l + 1) 10).toNat), ni_aI (3 + 1)] [] A (ni_live A) (fun v A' => v = some (ni_aI 1) ∧ A' = A)) : ni_E xs St Z 25 155 226 [ni_aL (m), ni_aL (lk), ni_aI ((nf : Int)), ni_aI (off), ni_aI (th), ni_aI ((l : Int)), ni_aI (x6), ni_aI (0), ni_aI (mn), ni_aI (3)] [] A (ni_live A) (fun v A' => v = some (ni_aI 1) ∧ A' = A) := by
  have hd3 := hd 3 (by omega)
  refine E_Ld (q := 228) rfl rfl (fun _ _ => rfl) ?_
  refine E_push (q := 229) (c := 4) (z := 4) rfl rfl ?_
  refine E_Ic false rfl (zc_ge_f ⟨by omega, by omega⟩ ⟨by omega, by omega⟩ (by omega)) ?_
  refine E_Ld (q := 234) rfl rfl (fun _ _ => rfl) ?_
  refine E_Ld (q := 235) rfl rfl (fun _ _ => rfl) ?_
  refine E_Ld (q := 237) rfl rfl (fun _ _ => rfl) ?_
  refine E_Ld (q := 239) rfl rfl (fun _ _ => rfl) ?_
  refine E_Ld (q := 241) rfl rfl (fun _ _ => rfl) ?_
  obtain ⟨v241_1, A241_1, ⟨hv241_1, hA241_1⟩, hF241_1⟩ := fc_queued0 (xs := xs) (A := A) hm hZ (c := 3) hl hlc (by omega) (by omega) hn hq
  subst hv241_1
  rw [hA241_1] at hF241_1
  refine E_VT (q := 244) (v := some (ni_aI (ni_cn A (48 + 17 * l + 1) 3 (A (48 + 17 * l + 1) 10).toNat))) rfl rfl rfl hm (Nat.le_of_ble_eq_true rfl) (fun _ _ _ => rfl) (hF241_1) (fun _ _ => rfl) (fun _ _ => rfl) ?_
  refine E_add (q := 245) rfl ?_
  refine E_St (q := 247) (ls' := [ni_aL (m), ni_aL (lk), ni_aI ((nf : Int)), ni_aI (off), ni_aI (th), ni_aI ((l : Int)), ni_aI (x6), ni_aI (0), ni_aI (mn + (ni_cn A (48 + 17 * l + 1) 3 (A (48 + 17 * l + 1) 10).toNat)), ni_aI (3)]) rfl (fun _ _ => rfl) (fun _ _ => rfl) ?_
  refine E_Ld (q := 248) rfl rfl (fun _ _ => rfl) ?_
  refine E_Ld (q := 250) rfl rfl (fun _ _ => rfl) ?_
  refine E_Ld (q := 252) rfl rfl (fun _ _ => rfl) ?_
  refine E_Ld (q := 254) rfl rfl (fun _ _ => rfl) ?_
  obtain ⟨v254_2, A254_2, ⟨hv254_2, hA254_2⟩, hF254_2⟩ := fc_deficit0 (xs := xs) (A := A) hm hZ (c := 3) hl hlc (by omega) (by omega)
  subst hv254_2
  rw [hA254_2] at hF254_2
  refine E_VT (q := 257) (v := some (ni_aI (A (48 + 17 * l + 1 + 6) 3))) rfl rfl rfl hm (Nat.le_of_ble_eq_true rfl) (fun _ _ _ => rfl) (hF254_2) (fun _ _ => rfl) (fun _ _ => rfl) ?_
  refine E_If true rfl (zf_ge_t ⟨by omega, by omega⟩ (by omega)) ?_
  refine E_Inc (q := 265) (ls' := [ni_aL (m), ni_aL (lk), ni_aI ((nf : Int)), ni_aI (off), ni_aI (th), ni_aI ((l : Int)), ni_aI (x6), ni_aI (0), ni_aI (mn + (ni_cn A (48 + 17 * l + 1) 3 (A (48 + 17 * l + 1) 10).toNat)), ni_aI (3 + 1)]) (z := 1) rfl rfl rfl (fun _ _ => rfl) ?_
  refine E_Go (q := 226) rfl ?_
  exact hK
set_option maxRecDepth 20000 in
theorem mt_so04 (hm : St m = some (9, [.ref n0, .ref n1])) (hZ : ∀ ad, Z ad → ad 0 = n0) {lk nf l : Nat} {off th x6 mn : Int} (hl : l < 14) (hlc : (l : Int) < A 0 2) (h2 : A 0 2 ≤ 14) (hn : 0 ≤ A (48 + 17 * l + 1) 10 ∧ A (48 + 17 * l + 1) 10 ≤ 250) (hq : ∀ i : Nat, (i : Int) < A (48 + 17 * l + 1) 10 → 0 ≤ A (48 + 17 * l + 1 + 7) i ∧ A (48 + 17 * l + 1 + 7) i ≤ 2147483647) (hd : ∀ j : Nat, j < 4 → 0 ≤ A (48 + 17 * l + 1 + 6) j ∧ A (48 + 17 * l + 1 + 6) j ≤ 10000) (hK : ni_E xs St Z 25 155 268 [ni_aL (m), ni_aL (lk), ni_aI ((nf : Int)), ni_aI (off), ni_aI (th), ni_aI ((l : Int)), ni_aI (x6), ni_aI (0), ni_aI (mn), ni_aI (4)] [] A (ni_live A) (fun v A' => v = some (ni_aI 1) ∧ A' = A)) : ni_E xs St Z 25 155 226 [ni_aL (m), ni_aL (lk), ni_aI ((nf : Int)), ni_aI (off), ni_aI (th), ni_aI ((l : Int)), ni_aI (x6), ni_aI (0), ni_aI (mn), ni_aI (4)] [] A (ni_live A) (fun v A' => v = some (ni_aI 1) ∧ A' = A) := by
  refine E_Ld (q := 228) rfl rfl (fun _ _ => rfl) ?_
  refine E_push (q := 229) (c := 4) (z := 4) rfl rfl ?_
  refine E_Ic true rfl (zc_ge_t ⟨by omega, by omega⟩ ⟨by omega, by omega⟩ (by omega)) ?_
  exact hK
set_option maxRecDepth 20000 in
theorem mt_soX0 (hm : St m = some (9, [.ref n0, .ref n1])) (hZ : ∀ ad, Z ad → ad 0 = n0) {lk nf l : Nat} {off th x6 mn : Int} (hl : l < 14) (hlc : (l : Int) < A 0 2) (h2 : A 0 2 ≤ 14) (h5 : A (48 + 17 * l) 5 = 0 ∨ A (48 + 17 * l) 5 = 1) (hx6 : 0 ≤ x6 ∧ x6 ≤ 2) (hmn : 0 ≤ mn ∧ mn ≤ 250) (hw : 0 ≤ A (48 + 17 * l + 1) 11 ∧ A (48 + 17 * l + 1) 11 ≤ 1000000) (hwm : (A (48 + 17 * l + 1) 11 = 0 ∧ mn = 0) ∨ (0 < A (48 + 17 * l + 1) 11 ∧ 0 < mn)) (hs : 0 ≤ A (48 + 17 * l + 1) 13 ∧ A (48 + 17 * l + 1) 13 ≤ 511) (ho : 0 ≤ A (48 + 17 * l + 1 + 1) 4 + A (48 + 17 * l + 9 + 1) 4 ∧ A (48 + 17 * l + 1 + 1) 4 + A (48 + 17 * l + 9 + 1) 4 ≤ 1000) (hdn : A (48 + 17 * l) 5 = 0 → mn = 0 ∧ A (48 + 17 * l + 1) 13 = 0 ∧ A (48 + 17 * l + 1 + 1) 4 + A (48 + 17 * l + 9 + 1) 4 = 0) (hK : ∀ t2 : Int, t2 = th + (mn + (if 0 < A (48 + 17 * l + 1) 13 then 1 else 0)) → ni_E xs St Z 25 155 201 [ni_aL (m), ni_aL (lk), ni_aI ((nf : Int)), ni_aI (off), ni_aI (t2), ni_aI ((l : Int)), ni_aI (x6 + 1), ni_aI (0), ni_aI (mn), ni_aI (4)] [] A (ni_live A) (fun v A' => v = some (ni_aI 1) ∧ A' = A)) : ni_E xs St Z 25 155 268 [ni_aL (m), ni_aL (lk), ni_aI ((nf : Int)), ni_aI (off), ni_aI (th), ni_aI ((l : Int)), ni_aI (x6), ni_aI (0), ni_aI (mn), ni_aI (4)] [] A (ni_live A) (fun v A' => v = some (ni_aI 1) ∧ A' = A) := by
  have hK : ∀ t2 : Int, (0 < A (48 + 17 * l + 1) 13 ∧ t2 = th + (mn + 1)) ∨ (A (48 + 17 * l + 1) 13 ≤ 0 ∧ t2 = th + (mn + 0)) → ni_E xs St Z 25 155 201 [ni_aL (m), ni_aL (lk), ni_aI ((nf : Int)), ni_aI (off), ni_aI (t2), ni_aI ((l : Int)), ni_aI (x6 + 1), ni_aI (0), ni_aI (mn), ni_aI (4)] [] A (ni_live A) (fun v A' => v = some (ni_aI 1) ∧ A' = A) := fun t2 ht => hK t2 (by
    rcases ht with ⟨a, b⟩ | ⟨a, b⟩
    · rw [if_pos a]
      exact b
    · rw [if_neg (by omega)]
      exact b)
  refine E_Ld (q := 270) rfl rfl (fun _ _ => rfl) ?_
  refine E_Ld (q := 272) rfl rfl (fun _ _ => rfl) ?_
  refine E_Ld (q := 273) rfl rfl (fun _ _ => rfl) ?_
  refine E_Ld (q := 275) rfl rfl (fun _ _ => rfl) ?_
  refine E_Ld (q := 277) rfl rfl (fun _ _ => rfl) ?_
  obtain ⟨v277_1, A277_1, ⟨hv277_1, hA277_1⟩, hF277_1⟩ := fc_sending0 (xs := xs) (A := A) hm hZ hl hlc h2
  subst hv277_1
  rw [hA277_1] at hF277_1
  refine E_VT (q := 280) (v := some (ni_aI (A (48 + 17 * l + 1) 13))) rfl rfl rfl hm (Nat.le_of_ble_eq_true rfl) (fun _ _ _ => rfl) (hF277_1) (fun _ _ => rfl) (fun _ _ => rfl) ?_
  by_cases g280 : (A (48 + 17 * l + 1) 13) ≤ 0
  · refine E_If true rfl (zf_le_t ⟨by omega, by omega⟩ g280) ?_
    refine E_push (q := 288) (c := 0) (z := 0) rfl rfl ?_
    refine E_add (q := 289) rfl ?_
    refine E_add (q := 290) rfl ?_
    refine E_St (q := 292) (ls' := [ni_aL (m), ni_aL (lk), ni_aI ((nf : Int)), ni_aI (off), ni_aI (th + (mn + 0)), ni_aI ((l : Int)), ni_aI (x6), ni_aI (0), ni_aI (mn), ni_aI (4)]) rfl (fun _ _ => rfl) (fun _ _ => rfl) ?_
    refine E_Ld (q := 293) rfl rfl (fun _ _ => rfl) ?_
    refine E_Ld (q := 295) rfl rfl (fun _ _ => rfl) ?_
    refine E_Ld (q := 297) rfl rfl (fun _ _ => rfl) ?_
    obtain ⟨v297_2, A297_2, ⟨hv297_2, hA297_2⟩, hF297_2⟩ := fc_waiting0 (xs := xs) (A := A) hm hZ hl hlc h2
    subst hv297_2
    rw [hA297_2] at hF297_2
    refine E_VT (q := 300) (v := some (ni_aI (A (48 + 17 * l + 1) 11))) rfl rfl rfl hm (Nat.le_of_ble_eq_true rfl) (fun _ _ _ => rfl) (hF297_2) (fun _ _ => rfl) (fun _ _ => rfl) ?_
    by_cases g300 : ¬ (A (48 + 17 * l + 1) 11) = 0
    · refine E_If true rfl (zf_ne_t ⟨by omega, by omega⟩ g300) ?_
      refine E_push (q := 308) (c := 0) (z := 0) rfl rfl ?_
      refine E_Ld (q := 310) rfl rfl (fun _ _ => rfl) ?_
      by_cases g310 : ¬ mn = 0
      · refine E_If true rfl (zf_ne_t ⟨by omega, by omega⟩ g310) ?_
        refine E_push (q := 318) (c := 0) (z := 0) rfl rfl ?_
        refine E_Ic false rfl (zc_ne_f ⟨by omega, by omega⟩ ⟨by omega, by omega⟩ (by omega)) ?_
        refine E_Ld (q := 322) rfl rfl (fun _ _ => rfl) ?_
        refine E_Ld (q := 324) rfl rfl (fun _ _ => rfl) ?_
        obtain ⟨v324_3, A324_3, ⟨hv324_3, hA324_3⟩, hF324_3⟩ := fc_isUp (xs := xs) (A := A) hm hZ hl hlc h2 h5
        subst hv324_3
        rw [hA324_3] at hF324_3
        refine E_VT (q := 327) (v := some (ni_aI (A (48 + 17 * l) 5))) rfl rfl rfl hm (Nat.le_of_ble_eq_true rfl) (fun _ _ _ => rfl) (hF324_3) (fun _ _ => rfl) (fun _ _ => rfl) ?_
        by_cases g327 : ¬ (A (48 + 17 * l) 5) = 0
        · refine E_If true rfl (zf_ne_t ⟨by omega, by omega⟩ g327) ?_
          refine E_Inc (q := 360) (ls' := [ni_aL (m), ni_aL (lk), ni_aI ((nf : Int)), ni_aI (off), ni_aI (th + (mn + 0)), ni_aI ((l : Int)), ni_aI (x6 + 1), ni_aI (0), ni_aI (mn), ni_aI (4)]) (z := 1) rfl rfl rfl (fun _ _ => rfl) ?_
          refine E_Go (q := 201) rfl ?_
          exact hK (th + (mn + 0)) (by omega)
        · refine E_If false rfl (zf_ne_f ⟨by omega, by omega⟩ g327) ?_
          refine E_Ld (q := 332) rfl rfl (fun _ _ => rfl) ?_
          refine E_If false rfl (zf_gt_f ⟨by omega, by omega⟩ (by omega)) ?_
          refine E_Ld (q := 336) rfl rfl (fun _ _ => rfl) ?_
          refine E_Ld (q := 338) rfl rfl (fun _ _ => rfl) ?_
          refine E_Ld (q := 340) rfl rfl (fun _ _ => rfl) ?_
          obtain ⟨v340_4, A340_4, ⟨hv340_4, hA340_4⟩, hF340_4⟩ := fc_sending0 (xs := xs) (A := A) hm hZ hl hlc h2
          subst hv340_4
          rw [hA340_4] at hF340_4
          refine E_VT (q := 343) (v := some (ni_aI (A (48 + 17 * l + 1) 13))) rfl rfl rfl hm (Nat.le_of_ble_eq_true rfl) (fun _ _ _ => rfl) (hF340_4) (fun _ _ => rfl) (fun _ _ => rfl) ?_
          refine E_If false rfl (zf_gt_f ⟨by omega, by omega⟩ (by omega)) ?_
          refine E_Ld (q := 347) rfl rfl (fun _ _ => rfl) ?_
          refine E_Ld (q := 349) rfl rfl (fun _ _ => rfl) ?_
          obtain ⟨v349_5, A349_5, ⟨hv349_5, hA349_5⟩, hF349_5⟩ := fc_onLink (xs := xs) (A := A) hm hZ hl hlc h2
          subst hv349_5
          rw [hA349_5] at hF349_5
          refine E_VT (q := 352) (v := some (ni_aI (A (48 + 17 * l + 1 + 1) 4 + A (48 + 17 * l + 9 + 1) 4))) rfl rfl rfl hm (Nat.le_of_ble_eq_true rfl) (fun _ _ _ => rfl) (hF349_5) (fun _ _ => rfl) (fun _ _ => rfl) ?_
          refine E_If true rfl (zf_le_t ⟨by omega, by omega⟩ (by omega)) ?_
          refine E_Inc (q := 360) (ls' := [ni_aL (m), ni_aL (lk), ni_aI ((nf : Int)), ni_aI (off), ni_aI (th + (mn + 0)), ni_aI ((l : Int)), ni_aI (x6 + 1), ni_aI (0), ni_aI (mn), ni_aI (4)]) (z := 1) rfl rfl rfl (fun _ _ => rfl) ?_
          refine E_Go (q := 201) rfl ?_
          exact hK (th + (mn + 0)) (by omega)
      · refine E_If false rfl (zf_ne_f ⟨by omega, by omega⟩ g310) ?_
        refine E_push (q := 314) (c := 1) (z := 1) rfl rfl ?_
        refine E_Go (q := 318) rfl ?_
        exfalso
        omega
    · refine E_If false rfl (zf_ne_f ⟨by omega, by omega⟩ g300) ?_
      refine E_push (q := 304) (c := 1) (z := 1) rfl rfl ?_
      refine E_Go (q := 308) rfl ?_
      refine E_Ld (q := 310) rfl rfl (fun _ _ => rfl) ?_
      by_cases g310 : ¬ mn = 0
      · refine E_If true rfl (zf_ne_t ⟨by omega, by omega⟩ g310) ?_
        refine E_push (q := 318) (c := 0) (z := 0) rfl rfl ?_
        exfalso
        omega
      · refine E_If false rfl (zf_ne_f ⟨by omega, by omega⟩ g310) ?_
        refine E_push (q := 314) (c := 1) (z := 1) rfl rfl ?_
        refine E_Go (q := 318) rfl ?_
        refine E_Ic false rfl (zc_ne_f ⟨by omega, by omega⟩ ⟨by omega, by omega⟩ (by omega)) ?_
        refine E_Ld (q := 322) rfl rfl (fun _ _ => rfl) ?_
        refine E_Ld (q := 324) rfl rfl (fun _ _ => rfl) ?_
        obtain ⟨v324_3, A324_3, ⟨hv324_3, hA324_3⟩, hF324_3⟩ := fc_isUp (xs := xs) (A := A) hm hZ hl hlc h2 h5
        subst hv324_3
        rw [hA324_3] at hF324_3
        refine E_VT (q := 327) (v := some (ni_aI (A (48 + 17 * l) 5))) rfl rfl rfl hm (Nat.le_of_ble_eq_true rfl) (fun _ _ _ => rfl) (hF324_3) (fun _ _ => rfl) (fun _ _ => rfl) ?_
        by_cases g327 : ¬ (A (48 + 17 * l) 5) = 0
        · refine E_If true rfl (zf_ne_t ⟨by omega, by omega⟩ g327) ?_
          refine E_Inc (q := 360) (ls' := [ni_aL (m), ni_aL (lk), ni_aI ((nf : Int)), ni_aI (off), ni_aI (th + (mn + 0)), ni_aI ((l : Int)), ni_aI (x6 + 1), ni_aI (0), ni_aI (mn), ni_aI (4)]) (z := 1) rfl rfl rfl (fun _ _ => rfl) ?_
          refine E_Go (q := 201) rfl ?_
          exact hK (th + (mn + 0)) (by omega)
        · refine E_If false rfl (zf_ne_f ⟨by omega, by omega⟩ g327) ?_
          refine E_Ld (q := 332) rfl rfl (fun _ _ => rfl) ?_
          refine E_If false rfl (zf_gt_f ⟨by omega, by omega⟩ (by omega)) ?_
          refine E_Ld (q := 336) rfl rfl (fun _ _ => rfl) ?_
          refine E_Ld (q := 338) rfl rfl (fun _ _ => rfl) ?_
          refine E_Ld (q := 340) rfl rfl (fun _ _ => rfl) ?_
          obtain ⟨v340_4, A340_4, ⟨hv340_4, hA340_4⟩, hF340_4⟩ := fc_sending0 (xs := xs) (A := A) hm hZ hl hlc h2
          subst hv340_4
          rw [hA340_4] at hF340_4
          refine E_VT (q := 343) (v := some (ni_aI (A (48 + 17 * l + 1) 13))) rfl rfl rfl hm (Nat.le_of_ble_eq_true rfl) (fun _ _ _ => rfl) (hF340_4) (fun _ _ => rfl) (fun _ _ => rfl) ?_
          refine E_If false rfl (zf_gt_f ⟨by omega, by omega⟩ (by omega)) ?_
          refine E_Ld (q := 347) rfl rfl (fun _ _ => rfl) ?_
          refine E_Ld (q := 349) rfl rfl (fun _ _ => rfl) ?_
          obtain ⟨v349_5, A349_5, ⟨hv349_5, hA349_5⟩, hF349_5⟩ := fc_onLink (xs := xs) (A := A) hm hZ hl hlc h2
          subst hv349_5
          rw [hA349_5] at hF349_5
          refine E_VT (q := 352) (v := some (ni_aI (A (48 + 17 * l + 1 + 1) 4 + A (48 + 17 * l + 9 + 1) 4))) rfl rfl rfl hm (Nat.le_of_ble_eq_true rfl) (fun _ _ _ => rfl) (hF349_5) (fun _ _ => rfl) (fun _ _ => rfl) ?_
          refine E_If true rfl (zf_le_t ⟨by omega, by omega⟩ (by omega)) ?_
          refine E_Inc (q := 360) (ls' := [ni_aL (m), ni_aL (lk), ni_aI ((nf : Int)), ni_aI (off), ni_aI (th + (mn + 0)), ni_aI ((l : Int)), ni_aI (x6 + 1), ni_aI (0), ni_aI (mn), ni_aI (4)]) (z := 1) rfl rfl rfl (fun _ _ => rfl) ?_
          refine E_Go (q := 201) rfl ?_
          exact hK (th + (mn + 0)) (by omega)
  · refine E_If false rfl (zf_le_f ⟨by omega, by omega⟩ g280) ?_
    refine E_push (q := 284) (c := 1) (z := 1) rfl rfl ?_
    refine E_Go (q := 288) rfl ?_
    refine E_add (q := 289) rfl ?_
    refine E_add (q := 290) rfl ?_
    refine E_St (q := 292) (ls' := [ni_aL (m), ni_aL (lk), ni_aI ((nf : Int)), ni_aI (off), ni_aI (th + (mn + 1)), ni_aI ((l : Int)), ni_aI (x6), ni_aI (0), ni_aI (mn), ni_aI (4)]) rfl (fun _ _ => rfl) (fun _ _ => rfl) ?_
    refine E_Ld (q := 293) rfl rfl (fun _ _ => rfl) ?_
    refine E_Ld (q := 295) rfl rfl (fun _ _ => rfl) ?_
    refine E_Ld (q := 297) rfl rfl (fun _ _ => rfl) ?_
    obtain ⟨v297_2, A297_2, ⟨hv297_2, hA297_2⟩, hF297_2⟩ := fc_waiting0 (xs := xs) (A := A) hm hZ hl hlc h2
    subst hv297_2
    rw [hA297_2] at hF297_2
    refine E_VT (q := 300) (v := some (ni_aI (A (48 + 17 * l + 1) 11))) rfl rfl rfl hm (Nat.le_of_ble_eq_true rfl) (fun _ _ _ => rfl) (hF297_2) (fun _ _ => rfl) (fun _ _ => rfl) ?_
    by_cases g300 : ¬ (A (48 + 17 * l + 1) 11) = 0
    · refine E_If true rfl (zf_ne_t ⟨by omega, by omega⟩ g300) ?_
      refine E_push (q := 308) (c := 0) (z := 0) rfl rfl ?_
      refine E_Ld (q := 310) rfl rfl (fun _ _ => rfl) ?_
      by_cases g310 : ¬ mn = 0
      · refine E_If true rfl (zf_ne_t ⟨by omega, by omega⟩ g310) ?_
        refine E_push (q := 318) (c := 0) (z := 0) rfl rfl ?_
        refine E_Ic false rfl (zc_ne_f ⟨by omega, by omega⟩ ⟨by omega, by omega⟩ (by omega)) ?_
        refine E_Ld (q := 322) rfl rfl (fun _ _ => rfl) ?_
        refine E_Ld (q := 324) rfl rfl (fun _ _ => rfl) ?_
        obtain ⟨v324_3, A324_3, ⟨hv324_3, hA324_3⟩, hF324_3⟩ := fc_isUp (xs := xs) (A := A) hm hZ hl hlc h2 h5
        subst hv324_3
        rw [hA324_3] at hF324_3
        refine E_VT (q := 327) (v := some (ni_aI (A (48 + 17 * l) 5))) rfl rfl rfl hm (Nat.le_of_ble_eq_true rfl) (fun _ _ _ => rfl) (hF324_3) (fun _ _ => rfl) (fun _ _ => rfl) ?_
        by_cases g327 : ¬ (A (48 + 17 * l) 5) = 0
        · refine E_If true rfl (zf_ne_t ⟨by omega, by omega⟩ g327) ?_
          refine E_Inc (q := 360) (ls' := [ni_aL (m), ni_aL (lk), ni_aI ((nf : Int)), ni_aI (off), ni_aI (th + (mn + 1)), ni_aI ((l : Int)), ni_aI (x6 + 1), ni_aI (0), ni_aI (mn), ni_aI (4)]) (z := 1) rfl rfl rfl (fun _ _ => rfl) ?_
          refine E_Go (q := 201) rfl ?_
          exact hK (th + (mn + 1)) (by omega)
        · refine E_If false rfl (zf_ne_f ⟨by omega, by omega⟩ g327) ?_
          refine E_Ld (q := 332) rfl rfl (fun _ _ => rfl) ?_
          refine E_If false rfl (zf_gt_f ⟨by omega, by omega⟩ (by omega)) ?_
          refine E_Ld (q := 336) rfl rfl (fun _ _ => rfl) ?_
          refine E_Ld (q := 338) rfl rfl (fun _ _ => rfl) ?_
          refine E_Ld (q := 340) rfl rfl (fun _ _ => rfl) ?_
          obtain ⟨v340_4, A340_4, ⟨hv340_4, hA340_4⟩, hF340_4⟩ := fc_sending0 (xs := xs) (A := A) hm hZ hl hlc h2
          subst hv340_4
          rw [hA340_4] at hF340_4
          refine E_VT (q := 343) (v := some (ni_aI (A (48 + 17 * l + 1) 13))) rfl rfl rfl hm (Nat.le_of_ble_eq_true rfl) (fun _ _ _ => rfl) (hF340_4) (fun _ _ => rfl) (fun _ _ => rfl) ?_
          refine E_If false rfl (zf_gt_f ⟨by omega, by omega⟩ (by omega)) ?_
          refine E_Ld (q := 347) rfl rfl (fun _ _ => rfl) ?_
          refine E_Ld (q := 349) rfl rfl (fun _ _ => rfl) ?_
          obtain ⟨v349_5, A349_5, ⟨hv349_5, hA349_5⟩, hF349_5⟩ := fc_onLink (xs := xs) (A := A) hm hZ hl hlc h2
          subst hv349_5
          rw [hA349_5] at hF349_5
          refine E_VT (q := 352) (v := some (ni_aI (A (48 + 17 * l + 1 + 1) 4 + A (48 + 17 * l + 9 + 1) 4))) rfl rfl rfl hm (Nat.le_of_ble_eq_true rfl) (fun _ _ _ => rfl) (hF349_5) (fun _ _ => rfl) (fun _ _ => rfl) ?_
          refine E_If true rfl (zf_le_t ⟨by omega, by omega⟩ (by omega)) ?_
          refine E_Inc (q := 360) (ls' := [ni_aL (m), ni_aL (lk), ni_aI ((nf : Int)), ni_aI (off), ni_aI (th + (mn + 1)), ni_aI ((l : Int)), ni_aI (x6 + 1), ni_aI (0), ni_aI (mn), ni_aI (4)]) (z := 1) rfl rfl rfl (fun _ _ => rfl) ?_
          refine E_Go (q := 201) rfl ?_
          exact hK (th + (mn + 1)) (by omega)
      · refine E_If false rfl (zf_ne_f ⟨by omega, by omega⟩ g310) ?_
        refine E_push (q := 314) (c := 1) (z := 1) rfl rfl ?_
        refine E_Go (q := 318) rfl ?_
        exfalso
        omega
    · refine E_If false rfl (zf_ne_f ⟨by omega, by omega⟩ g300) ?_
      refine E_push (q := 304) (c := 1) (z := 1) rfl rfl ?_
      refine E_Go (q := 308) rfl ?_
      refine E_Ld (q := 310) rfl rfl (fun _ _ => rfl) ?_
      by_cases g310 : ¬ mn = 0
      · refine E_If true rfl (zf_ne_t ⟨by omega, by omega⟩ g310) ?_
        refine E_push (q := 318) (c := 0) (z := 0) rfl rfl ?_
        exfalso
        omega
      · refine E_If false rfl (zf_ne_f ⟨by omega, by omega⟩ g310) ?_
        refine E_push (q := 314) (c := 1) (z := 1) rfl rfl ?_
        refine E_Go (q := 318) rfl ?_
        refine E_Ic false rfl (zc_ne_f ⟨by omega, by omega⟩ ⟨by omega, by omega⟩ (by omega)) ?_
        refine E_Ld (q := 322) rfl rfl (fun _ _ => rfl) ?_
        refine E_Ld (q := 324) rfl rfl (fun _ _ => rfl) ?_
        obtain ⟨v324_3, A324_3, ⟨hv324_3, hA324_3⟩, hF324_3⟩ := fc_isUp (xs := xs) (A := A) hm hZ hl hlc h2 h5
        subst hv324_3
        rw [hA324_3] at hF324_3
        refine E_VT (q := 327) (v := some (ni_aI (A (48 + 17 * l) 5))) rfl rfl rfl hm (Nat.le_of_ble_eq_true rfl) (fun _ _ _ => rfl) (hF324_3) (fun _ _ => rfl) (fun _ _ => rfl) ?_
        by_cases g327 : ¬ (A (48 + 17 * l) 5) = 0
        · refine E_If true rfl (zf_ne_t ⟨by omega, by omega⟩ g327) ?_
          refine E_Inc (q := 360) (ls' := [ni_aL (m), ni_aL (lk), ni_aI ((nf : Int)), ni_aI (off), ni_aI (th + (mn + 1)), ni_aI ((l : Int)), ni_aI (x6 + 1), ni_aI (0), ni_aI (mn), ni_aI (4)]) (z := 1) rfl rfl rfl (fun _ _ => rfl) ?_
          refine E_Go (q := 201) rfl ?_
          exact hK (th + (mn + 1)) (by omega)
        · refine E_If false rfl (zf_ne_f ⟨by omega, by omega⟩ g327) ?_
          refine E_Ld (q := 332) rfl rfl (fun _ _ => rfl) ?_
          refine E_If false rfl (zf_gt_f ⟨by omega, by omega⟩ (by omega)) ?_
          refine E_Ld (q := 336) rfl rfl (fun _ _ => rfl) ?_
          refine E_Ld (q := 338) rfl rfl (fun _ _ => rfl) ?_
          refine E_Ld (q := 340) rfl rfl (fun _ _ => rfl) ?_
          obtain ⟨v340_4, A340_4, ⟨hv340_4, hA340_4⟩, hF340_4⟩ := fc_sending0 (xs := xs) (A := A) hm hZ hl hlc h2
          subst hv340_4
          rw [hA340_4] at hF340_4
          refine E_VT (q := 343) (v := some (ni_aI (A (48 + 17 * l + 1) 13))) rfl rfl rfl hm (Nat.le_of_ble_eq_true rfl) (fun _ _ _ => rfl) (hF340_4) (fun _ _ => rfl) (fun _ _ => rfl) ?_
          refine E_If false rfl (zf_gt_f ⟨by omega, by omega⟩ (by omega)) ?_
          refine E_Ld (q := 347) rfl rfl (fun _ _ => rfl) ?_
          refine E_Ld (q := 349) rfl rfl (fun _ _ => rfl) ?_
          obtain ⟨v349_5, A349_5, ⟨hv349_5, hA349_5⟩, hF349_5⟩ := fc_onLink (xs := xs) (A := A) hm hZ hl hlc h2
          subst hv349_5
          rw [hA349_5] at hF349_5
          refine E_VT (q := 352) (v := some (ni_aI (A (48 + 17 * l + 1 + 1) 4 + A (48 + 17 * l + 9 + 1) 4))) rfl rfl rfl hm (Nat.le_of_ble_eq_true rfl) (fun _ _ _ => rfl) (hF349_5) (fun _ _ => rfl) (fun _ _ => rfl) ?_
          refine E_If true rfl (zf_le_t ⟨by omega, by omega⟩ (by omega)) ?_
          refine E_Inc (q := 360) (ls' := [ni_aL (m), ni_aL (lk), ni_aI ((nf : Int)), ni_aI (off), ni_aI (th + (mn + 1)), ni_aI ((l : Int)), ni_aI (x6 + 1), ni_aI (0), ni_aI (mn), ni_aI (4)]) (z := 1) rfl rfl rfl (fun _ _ => rfl) ?_
          refine E_Go (q := 201) rfl ?_
          exact hK (th + (mn + 1)) (by omega)
set_option maxRecDepth 20000 in
theorem mt_so10 (hm : St m = some (9, [.ref n0, .ref n1])) (hZ : ∀ ad, Z ad → ad 0 = n0) {lk nf l : Nat} {off th x6 mn : Int} (hl : l < 14) (hlc : (l : Int) < A 0 2) (h2 : A 0 2 ≤ 14) (hn : 0 ≤ A (48 + 17 * l + 9) 10 ∧ A (48 + 17 * l + 9) 10 ≤ 250) (hq : ∀ i : Nat, (i : Int) < A (48 + 17 * l + 9) 10 → 0 ≤ A (48 + 17 * l + 9 + 7) i ∧ A (48 + 17 * l + 9 + 7) i ≤ 2147483647) (hd : ∀ j : Nat, j < 4 → 0 ≤ A (48 + 17 * l + 9 + 6) j ∧ A (48 + 17 * l + 9 + 6) j ≤ 10000) (hK : ni_E xs St Z 25 155 226 [ni_aL (m), ni_aL (lk), ni_aI ((nf : Int)), ni_aI (off), ni_aI (th), ni_aI ((l : Int)), ni_aI (x6), ni_aI (1), ni_aI (mn + ni_cn A (48 + 17 * l + 9) 0 (A (48 + 17 * l + 9) 10).toNat), ni_aI (0 + 1)] [] A (ni_live A) (fun v A' => v = some (ni_aI 1) ∧ A' = A)) : ni_E xs St Z 25 155 226 [ni_aL (m), ni_aL (lk), ni_aI ((nf : Int)), ni_aI (off), ni_aI (th), ni_aI ((l : Int)), ni_aI (x6), ni_aI (1), ni_aI (mn), ni_aI (0)] [] A (ni_live A) (fun v A' => v = some (ni_aI 1) ∧ A' = A) := by
  have hd0 := hd 0 (by omega)
  refine E_Ld (q := 228) rfl rfl (fun _ _ => rfl) ?_
  refine E_push (q := 229) (c := 4) (z := 4) rfl rfl ?_
  refine E_Ic false rfl (zc_ge_f ⟨by omega, by omega⟩ ⟨by omega, by omega⟩ (by omega)) ?_
  refine E_Ld (q := 234) rfl rfl (fun _ _ => rfl) ?_
  refine E_Ld (q := 235) rfl rfl (fun _ _ => rfl) ?_
  refine E_Ld (q := 237) rfl rfl (fun _ _ => rfl) ?_
  refine E_Ld (q := 239) rfl rfl (fun _ _ => rfl) ?_
  refine E_Ld (q := 241) rfl rfl (fun _ _ => rfl) ?_
  obtain ⟨v241_1, A241_1, ⟨hv241_1, hA241_1⟩, hF241_1⟩ := fc_queued1 (xs := xs) (A := A) hm hZ (c := 0) hl hlc (by omega) (by omega) hn hq
  subst hv241_1
  rw [hA241_1] at hF241_1
  refine E_VT (q := 244) (v := some (ni_aI (ni_cn A (48 + 17 * l + 9) 0 (A (48 + 17 * l + 9) 10).toNat))) rfl rfl rfl hm (Nat.le_of_ble_eq_true rfl) (fun _ _ _ => rfl) (hF241_1) (fun _ _ => rfl) (fun _ _ => rfl) ?_
  refine E_add (q := 245) rfl ?_
  refine E_St (q := 247) (ls' := [ni_aL (m), ni_aL (lk), ni_aI ((nf : Int)), ni_aI (off), ni_aI (th), ni_aI ((l : Int)), ni_aI (x6), ni_aI (1), ni_aI (mn + (ni_cn A (48 + 17 * l + 9) 0 (A (48 + 17 * l + 9) 10).toNat)), ni_aI (0)]) rfl (fun _ _ => rfl) (fun _ _ => rfl) ?_
  refine E_Ld (q := 248) rfl rfl (fun _ _ => rfl) ?_
  refine E_Ld (q := 250) rfl rfl (fun _ _ => rfl) ?_
  refine E_Ld (q := 252) rfl rfl (fun _ _ => rfl) ?_
  refine E_Ld (q := 254) rfl rfl (fun _ _ => rfl) ?_
  obtain ⟨v254_2, A254_2, ⟨hv254_2, hA254_2⟩, hF254_2⟩ := fc_deficit1 (xs := xs) (A := A) hm hZ (c := 0) hl hlc (by omega) (by omega)
  subst hv254_2
  rw [hA254_2] at hF254_2
  refine E_VT (q := 257) (v := some (ni_aI (A (48 + 17 * l + 9 + 6) 0))) rfl rfl rfl hm (Nat.le_of_ble_eq_true rfl) (fun _ _ _ => rfl) (hF254_2) (fun _ _ => rfl) (fun _ _ => rfl) ?_
  refine E_If true rfl (zf_ge_t ⟨by omega, by omega⟩ (by omega)) ?_
  refine E_Inc (q := 265) (ls' := [ni_aL (m), ni_aL (lk), ni_aI ((nf : Int)), ni_aI (off), ni_aI (th), ni_aI ((l : Int)), ni_aI (x6), ni_aI (1), ni_aI (mn + (ni_cn A (48 + 17 * l + 9) 0 (A (48 + 17 * l + 9) 10).toNat)), ni_aI (0 + 1)]) (z := 1) rfl rfl rfl (fun _ _ => rfl) ?_
  refine E_Go (q := 226) rfl ?_
  exact hK
set_option maxRecDepth 20000 in
theorem mt_so11 (hm : St m = some (9, [.ref n0, .ref n1])) (hZ : ∀ ad, Z ad → ad 0 = n0) {lk nf l : Nat} {off th x6 mn : Int} (hl : l < 14) (hlc : (l : Int) < A 0 2) (h2 : A 0 2 ≤ 14) (hn : 0 ≤ A (48 + 17 * l + 9) 10 ∧ A (48 + 17 * l + 9) 10 ≤ 250) (hq : ∀ i : Nat, (i : Int) < A (48 + 17 * l + 9) 10 → 0 ≤ A (48 + 17 * l + 9 + 7) i ∧ A (48 + 17 * l + 9 + 7) i ≤ 2147483647) (hd : ∀ j : Nat, j < 4 → 0 ≤ A (48 + 17 * l + 9 + 6) j ∧ A (48 + 17 * l + 9 + 6) j ≤ 10000) (hK : ni_E xs St Z 25 155 226 [ni_aL (m), ni_aL (lk), ni_aI ((nf : Int)), ni_aI (off), ni_aI (th), ni_aI ((l : Int)), ni_aI (x6), ni_aI (1), ni_aI (mn + ni_cn A (48 + 17 * l + 9) 1 (A (48 + 17 * l + 9) 10).toNat), ni_aI (1 + 1)] [] A (ni_live A) (fun v A' => v = some (ni_aI 1) ∧ A' = A)) : ni_E xs St Z 25 155 226 [ni_aL (m), ni_aL (lk), ni_aI ((nf : Int)), ni_aI (off), ni_aI (th), ni_aI ((l : Int)), ni_aI (x6), ni_aI (1), ni_aI (mn), ni_aI (1)] [] A (ni_live A) (fun v A' => v = some (ni_aI 1) ∧ A' = A) := by
  have hd1 := hd 1 (by omega)
  refine E_Ld (q := 228) rfl rfl (fun _ _ => rfl) ?_
  refine E_push (q := 229) (c := 4) (z := 4) rfl rfl ?_
  refine E_Ic false rfl (zc_ge_f ⟨by omega, by omega⟩ ⟨by omega, by omega⟩ (by omega)) ?_
  refine E_Ld (q := 234) rfl rfl (fun _ _ => rfl) ?_
  refine E_Ld (q := 235) rfl rfl (fun _ _ => rfl) ?_
  refine E_Ld (q := 237) rfl rfl (fun _ _ => rfl) ?_
  refine E_Ld (q := 239) rfl rfl (fun _ _ => rfl) ?_
  refine E_Ld (q := 241) rfl rfl (fun _ _ => rfl) ?_
  obtain ⟨v241_1, A241_1, ⟨hv241_1, hA241_1⟩, hF241_1⟩ := fc_queued1 (xs := xs) (A := A) hm hZ (c := 1) hl hlc (by omega) (by omega) hn hq
  subst hv241_1
  rw [hA241_1] at hF241_1
  refine E_VT (q := 244) (v := some (ni_aI (ni_cn A (48 + 17 * l + 9) 1 (A (48 + 17 * l + 9) 10).toNat))) rfl rfl rfl hm (Nat.le_of_ble_eq_true rfl) (fun _ _ _ => rfl) (hF241_1) (fun _ _ => rfl) (fun _ _ => rfl) ?_
  refine E_add (q := 245) rfl ?_
  refine E_St (q := 247) (ls' := [ni_aL (m), ni_aL (lk), ni_aI ((nf : Int)), ni_aI (off), ni_aI (th), ni_aI ((l : Int)), ni_aI (x6), ni_aI (1), ni_aI (mn + (ni_cn A (48 + 17 * l + 9) 1 (A (48 + 17 * l + 9) 10).toNat)), ni_aI (1)]) rfl (fun _ _ => rfl) (fun _ _ => rfl) ?_
  refine E_Ld (q := 248) rfl rfl (fun _ _ => rfl) ?_
  refine E_Ld (q := 250) rfl rfl (fun _ _ => rfl) ?_
  refine E_Ld (q := 252) rfl rfl (fun _ _ => rfl) ?_
  refine E_Ld (q := 254) rfl rfl (fun _ _ => rfl) ?_
  obtain ⟨v254_2, A254_2, ⟨hv254_2, hA254_2⟩, hF254_2⟩ := fc_deficit1 (xs := xs) (A := A) hm hZ (c := 1) hl hlc (by omega) (by omega)
  subst hv254_2
  rw [hA254_2] at hF254_2
  refine E_VT (q := 257) (v := some (ni_aI (A (48 + 17 * l + 9 + 6) 1))) rfl rfl rfl hm (Nat.le_of_ble_eq_true rfl) (fun _ _ _ => rfl) (hF254_2) (fun _ _ => rfl) (fun _ _ => rfl) ?_
  refine E_If true rfl (zf_ge_t ⟨by omega, by omega⟩ (by omega)) ?_
  refine E_Inc (q := 265) (ls' := [ni_aL (m), ni_aL (lk), ni_aI ((nf : Int)), ni_aI (off), ni_aI (th), ni_aI ((l : Int)), ni_aI (x6), ni_aI (1), ni_aI (mn + (ni_cn A (48 + 17 * l + 9) 1 (A (48 + 17 * l + 9) 10).toNat)), ni_aI (1 + 1)]) (z := 1) rfl rfl rfl (fun _ _ => rfl) ?_
  refine E_Go (q := 226) rfl ?_
  exact hK
set_option maxRecDepth 20000 in
theorem mt_so12 (hm : St m = some (9, [.ref n0, .ref n1])) (hZ : ∀ ad, Z ad → ad 0 = n0) {lk nf l : Nat} {off th x6 mn : Int} (hl : l < 14) (hlc : (l : Int) < A 0 2) (h2 : A 0 2 ≤ 14) (hn : 0 ≤ A (48 + 17 * l + 9) 10 ∧ A (48 + 17 * l + 9) 10 ≤ 250) (hq : ∀ i : Nat, (i : Int) < A (48 + 17 * l + 9) 10 → 0 ≤ A (48 + 17 * l + 9 + 7) i ∧ A (48 + 17 * l + 9 + 7) i ≤ 2147483647) (hd : ∀ j : Nat, j < 4 → 0 ≤ A (48 + 17 * l + 9 + 6) j ∧ A (48 + 17 * l + 9 + 6) j ≤ 10000) (hK : ni_E xs St Z 25 155 226 [ni_aL (m), ni_aL (lk), ni_aI ((nf : Int)), ni_aI (off), ni_aI (th), ni_aI ((l : Int)), ni_aI (x6), ni_aI (1), ni_aI (mn + ni_cn A (48 + 17 * l + 9) 2 (A (48 + 17 * l + 9) 10).toNat), ni_aI (2 + 1)] [] A (ni_live A) (fun v A' => v = some (ni_aI 1) ∧ A' = A)) : ni_E xs St Z 25 155 226 [ni_aL (m), ni_aL (lk), ni_aI ((nf : Int)), ni_aI (off), ni_aI (th), ni_aI ((l : Int)), ni_aI (x6), ni_aI (1), ni_aI (mn), ni_aI (2)] [] A (ni_live A) (fun v A' => v = some (ni_aI 1) ∧ A' = A) := by
  have hd2 := hd 2 (by omega)
  refine E_Ld (q := 228) rfl rfl (fun _ _ => rfl) ?_
  refine E_push (q := 229) (c := 4) (z := 4) rfl rfl ?_
  refine E_Ic false rfl (zc_ge_f ⟨by omega, by omega⟩ ⟨by omega, by omega⟩ (by omega)) ?_
  refine E_Ld (q := 234) rfl rfl (fun _ _ => rfl) ?_
  refine E_Ld (q := 235) rfl rfl (fun _ _ => rfl) ?_
  refine E_Ld (q := 237) rfl rfl (fun _ _ => rfl) ?_
  refine E_Ld (q := 239) rfl rfl (fun _ _ => rfl) ?_
  refine E_Ld (q := 241) rfl rfl (fun _ _ => rfl) ?_
  obtain ⟨v241_1, A241_1, ⟨hv241_1, hA241_1⟩, hF241_1⟩ := fc_queued1 (xs := xs) (A := A) hm hZ (c := 2) hl hlc (by omega) (by omega) hn hq
  subst hv241_1
  rw [hA241_1] at hF241_1
  refine E_VT (q := 244) (v := some (ni_aI (ni_cn A (48 + 17 * l + 9) 2 (A (48 + 17 * l + 9) 10).toNat))) rfl rfl rfl hm (Nat.le_of_ble_eq_true rfl) (fun _ _ _ => rfl) (hF241_1) (fun _ _ => rfl) (fun _ _ => rfl) ?_
  refine E_add (q := 245) rfl ?_
  refine E_St (q := 247) (ls' := [ni_aL (m), ni_aL (lk), ni_aI ((nf : Int)), ni_aI (off), ni_aI (th), ni_aI ((l : Int)), ni_aI (x6), ni_aI (1), ni_aI (mn + (ni_cn A (48 + 17 * l + 9) 2 (A (48 + 17 * l + 9) 10).toNat)), ni_aI (2)]) rfl (fun _ _ => rfl) (fun _ _ => rfl) ?_
  refine E_Ld (q := 248) rfl rfl (fun _ _ => rfl) ?_
  refine E_Ld (q := 250) rfl rfl (fun _ _ => rfl) ?_
  refine E_Ld (q := 252) rfl rfl (fun _ _ => rfl) ?_
  refine E_Ld (q := 254) rfl rfl (fun _ _ => rfl) ?_
  obtain ⟨v254_2, A254_2, ⟨hv254_2, hA254_2⟩, hF254_2⟩ := fc_deficit1 (xs := xs) (A := A) hm hZ (c := 2) hl hlc (by omega) (by omega)
  subst hv254_2
  rw [hA254_2] at hF254_2
  refine E_VT (q := 257) (v := some (ni_aI (A (48 + 17 * l + 9 + 6) 2))) rfl rfl rfl hm (Nat.le_of_ble_eq_true rfl) (fun _ _ _ => rfl) (hF254_2) (fun _ _ => rfl) (fun _ _ => rfl) ?_
  refine E_If true rfl (zf_ge_t ⟨by omega, by omega⟩ (by omega)) ?_
  refine E_Inc (q := 265) (ls' := [ni_aL (m), ni_aL (lk), ni_aI ((nf : Int)), ni_aI (off), ni_aI (th), ni_aI ((l : Int)), ni_aI (x6), ni_aI (1), ni_aI (mn + (ni_cn A (48 + 17 * l + 9) 2 (A (48 + 17 * l + 9) 10).toNat)), ni_aI (2 + 1)]) (z := 1) rfl rfl rfl (fun _ _ => rfl) ?_
  refine E_Go (q := 226) rfl ?_
  exact hK
set_option maxRecDepth 20000 in
theorem mt_so13 (hm : St m = some (9, [.ref n0, .ref n1])) (hZ : ∀ ad, Z ad → ad 0 = n0) {lk nf l : Nat} {off th x6 mn : Int} (hl : l < 14) (hlc : (l : Int) < A 0 2) (h2 : A 0 2 ≤ 14) (hn : 0 ≤ A (48 + 17 * l + 9) 10 ∧ A (48 + 17 * l + 9) 10 ≤ 250) (hq : ∀ i : Nat, (i : Int) < A (48 + 17 * l + 9) 10 → 0 ≤ A (48 + 17 * l + 9 + 7) i ∧ A (48 + 17 * l + 9 + 7) i ≤ 2147483647) (hd : ∀ j : Nat, j < 4 → 0 ≤ A (48 + 17 * l + 9 + 6) j ∧ A (48 + 17 * l + 9 + 6) j ≤ 10000) (hK : ni_E xs St Z 25 155 226 [ni_aL (m), ni_aL (lk), ni_aI ((nf : Int)), ni_aI (off), ni_aI (th), ni_aI ((l : Int)), ni_aI (x6), ni_aI (1), ni_aI (mn + ni_cn A (48 + 17 * l + 9) 3 (A (48 + 17 * l + 9) 10).toNat), ni_aI (3 + 1)] [] A (ni_live A) (fun v A' => v = some (ni_aI 1) ∧ A' = A)) : ni_E xs St Z 25 155 226 [ni_aL (m), ni_aL (lk), ni_aI ((nf : Int)), ni_aI (off), ni_aI (th), ni_aI ((l : Int)), ni_aI (x6), ni_aI (1), ni_aI (mn), ni_aI (3)] [] A (ni_live A) (fun v A' => v = some (ni_aI 1) ∧ A' = A) := by
  have hd3 := hd 3 (by omega)
  refine E_Ld (q := 228) rfl rfl (fun _ _ => rfl) ?_
  refine E_push (q := 229) (c := 4) (z := 4) rfl rfl ?_
  refine E_Ic false rfl (zc_ge_f ⟨by omega, by omega⟩ ⟨by omega, by omega⟩ (by omega)) ?_
  refine E_Ld (q := 234) rfl rfl (fun _ _ => rfl) ?_
  refine E_Ld (q := 235) rfl rfl (fun _ _ => rfl) ?_
  refine E_Ld (q := 237) rfl rfl (fun _ _ => rfl) ?_
  refine E_Ld (q := 239) rfl rfl (fun _ _ => rfl) ?_
  refine E_Ld (q := 241) rfl rfl (fun _ _ => rfl) ?_
  obtain ⟨v241_1, A241_1, ⟨hv241_1, hA241_1⟩, hF241_1⟩ := fc_queued1 (xs := xs) (A := A) hm hZ (c := 3) hl hlc (by omega) (by omega) hn hq
  subst hv241_1
  rw [hA241_1] at hF241_1
  refine E_VT (q := 244) (v := some (ni_aI (ni_cn A (48 + 17 * l + 9) 3 (A (48 + 17 * l + 9) 10).toNat))) rfl rfl rfl hm (Nat.le_of_ble_eq_true rfl) (fun _ _ _ => rfl) (hF241_1) (fun _ _ => rfl) (fun _ _ => rfl) ?_
  refine E_add (q := 245) rfl ?_
  refine E_St (q := 247) (ls' := [ni_aL (m), ni_aL (lk), ni_aI ((nf : Int)), ni_aI (off), ni_aI (th), ni_aI ((l : Int)), ni_aI (x6), ni_aI (1), ni_aI (mn + (ni_cn A (48 + 17 * l + 9) 3 (A (48 + 17 * l + 9) 10).toNat)), ni_aI (3)]) rfl (fun _ _ => rfl) (fun _ _ => rfl) ?_
  refine E_Ld (q := 248) rfl rfl (fun _ _ => rfl) ?_
  refine E_Ld (q := 250) rfl rfl (fun _ _ => rfl) ?_
  refine E_Ld (q := 252) rfl rfl (fun _ _ => rfl) ?_
  refine E_Ld (q := 254) rfl rfl (fun _ _ => rfl) ?_
  obtain ⟨v254_2, A254_2, ⟨hv254_2, hA254_2⟩, hF254_2⟩ := fc_deficit1 (xs := xs) (A := A) hm hZ (c := 3) hl hlc (by omega) (by omega)
  subst hv254_2
  rw [hA254_2] at hF254_2
  refine E_VT (q := 257) (v := some (ni_aI (A (48 + 17 * l + 9 + 6) 3))) rfl rfl rfl hm (Nat.le_of_ble_eq_true rfl) (fun _ _ _ => rfl) (hF254_2) (fun _ _ => rfl) (fun _ _ => rfl) ?_
  refine E_If true rfl (zf_ge_t ⟨by omega, by omega⟩ (by omega)) ?_
  refine E_Inc (q := 265) (ls' := [ni_aL (m), ni_aL (lk), ni_aI ((nf : Int)), ni_aI (off), ni_aI (th), ni_aI ((l : Int)), ni_aI (x6), ni_aI (1), ni_aI (mn + (ni_cn A (48 + 17 * l + 9) 3 (A (48 + 17 * l + 9) 10).toNat)), ni_aI (3 + 1)]) (z := 1) rfl rfl rfl (fun _ _ => rfl) ?_
  refine E_Go (q := 226) rfl ?_
  exact hK
set_option maxRecDepth 20000 in
theorem mt_so14 (hm : St m = some (9, [.ref n0, .ref n1])) (hZ : ∀ ad, Z ad → ad 0 = n0) {lk nf l : Nat} {off th x6 mn : Int} (hl : l < 14) (hlc : (l : Int) < A 0 2) (h2 : A 0 2 ≤ 14) (hn : 0 ≤ A (48 + 17 * l + 9) 10 ∧ A (48 + 17 * l + 9) 10 ≤ 250) (hq : ∀ i : Nat, (i : Int) < A (48 + 17 * l + 9) 10 → 0 ≤ A (48 + 17 * l + 9 + 7) i ∧ A (48 + 17 * l + 9 + 7) i ≤ 2147483647) (hd : ∀ j : Nat, j < 4 → 0 ≤ A (48 + 17 * l + 9 + 6) j ∧ A (48 + 17 * l + 9 + 6) j ≤ 10000) (hK : ni_E xs St Z 25 155 268 [ni_aL (m), ni_aL (lk), ni_aI ((nf : Int)), ni_aI (off), ni_aI (th), ni_aI ((l : Int)), ni_aI (x6), ni_aI (1), ni_aI (mn), ni_aI (4)] [] A (ni_live A) (fun v A' => v = some (ni_aI 1) ∧ A' = A)) : ni_E xs St Z 25 155 226 [ni_aL (m), ni_aL (lk), ni_aI ((nf : Int)), ni_aI (off), ni_aI (th), ni_aI ((l : Int)), ni_aI (x6), ni_aI (1), ni_aI (mn), ni_aI (4)] [] A (ni_live A) (fun v A' => v = some (ni_aI 1) ∧ A' = A) := by
  refine E_Ld (q := 228) rfl rfl (fun _ _ => rfl) ?_
  refine E_push (q := 229) (c := 4) (z := 4) rfl rfl ?_
  refine E_Ic true rfl (zc_ge_t ⟨by omega, by omega⟩ ⟨by omega, by omega⟩ (by omega)) ?_
  exact hK
set_option maxRecDepth 20000 in
theorem mt_soX1 (hm : St m = some (9, [.ref n0, .ref n1])) (hZ : ∀ ad, Z ad → ad 0 = n0) {lk nf l : Nat} {off th x6 mn : Int} (hl : l < 14) (hlc : (l : Int) < A 0 2) (h2 : A 0 2 ≤ 14) (h5 : A (48 + 17 * l) 5 = 0 ∨ A (48 + 17 * l) 5 = 1) (hx6 : 0 ≤ x6 ∧ x6 ≤ 2) (hmn : 0 ≤ mn ∧ mn ≤ 250) (hw : 0 ≤ A (48 + 17 * l + 9) 11 ∧ A (48 + 17 * l + 9) 11 ≤ 1000000) (hwm : (A (48 + 17 * l + 9) 11 = 0 ∧ mn = 0) ∨ (0 < A (48 + 17 * l + 9) 11 ∧ 0 < mn)) (hs : 0 ≤ A (48 + 17 * l + 9) 13 ∧ A (48 + 17 * l + 9) 13 ≤ 511) (ho : 0 ≤ A (48 + 17 * l + 1 + 1) 4 + A (48 + 17 * l + 9 + 1) 4 ∧ A (48 + 17 * l + 1 + 1) 4 + A (48 + 17 * l + 9 + 1) 4 ≤ 1000) (hdn : A (48 + 17 * l) 5 = 0 → mn = 0 ∧ A (48 + 17 * l + 9) 13 = 0 ∧ A (48 + 17 * l + 1 + 1) 4 + A (48 + 17 * l + 9 + 1) 4 = 0) (hK : ∀ t2 : Int, t2 = th + (mn + (if 0 < A (48 + 17 * l + 9) 13 then 1 else 0)) → ni_E xs St Z 25 155 201 [ni_aL (m), ni_aL (lk), ni_aI ((nf : Int)), ni_aI (off), ni_aI (t2), ni_aI ((l : Int)), ni_aI (x6 + 1), ni_aI (1), ni_aI (mn), ni_aI (4)] [] A (ni_live A) (fun v A' => v = some (ni_aI 1) ∧ A' = A)) : ni_E xs St Z 25 155 268 [ni_aL (m), ni_aL (lk), ni_aI ((nf : Int)), ni_aI (off), ni_aI (th), ni_aI ((l : Int)), ni_aI (x6), ni_aI (1), ni_aI (mn), ni_aI (4)] [] A (ni_live A) (fun v A' => v = some (ni_aI 1) ∧ A' = A) := by
  have hK : ∀ t2 : Int, (0 < A (48 + 17 * l + 9) 13 ∧ t2 = th + (mn + 1)) ∨ (A (48 + 17 * l + 9) 13 ≤ 0 ∧ t2 = th + (mn + 0)) → ni_E xs St Z 25 155 201 [ni_aL (m), ni_aL (lk), ni_aI ((nf : Int)), ni_aI (off), ni_aI (t2), ni_aI ((l : Int)), ni_aI (x6 + 1), ni_aI (1), ni_aI (mn), ni_aI (4)] [] A (ni_live A) (fun v A' => v = some (ni_aI 1) ∧ A' = A) := fun t2 ht => hK t2 (by
    rcases ht with ⟨a, b⟩ | ⟨a, b⟩
    · rw [if_pos a]
      exact b
    · rw [if_neg (by omega)]
      exact b)
  refine E_Ld (q := 270) rfl rfl (fun _ _ => rfl) ?_
  refine E_Ld (q := 272) rfl rfl (fun _ _ => rfl) ?_
  refine E_Ld (q := 273) rfl rfl (fun _ _ => rfl) ?_
  refine E_Ld (q := 275) rfl rfl (fun _ _ => rfl) ?_
  refine E_Ld (q := 277) rfl rfl (fun _ _ => rfl) ?_
  obtain ⟨v277_1, A277_1, ⟨hv277_1, hA277_1⟩, hF277_1⟩ := fc_sending1 (xs := xs) (A := A) hm hZ hl hlc h2
  subst hv277_1
  rw [hA277_1] at hF277_1
  refine E_VT (q := 280) (v := some (ni_aI (A (48 + 17 * l + 9) 13))) rfl rfl rfl hm (Nat.le_of_ble_eq_true rfl) (fun _ _ _ => rfl) (hF277_1) (fun _ _ => rfl) (fun _ _ => rfl) ?_
  by_cases g280 : (A (48 + 17 * l + 9) 13) ≤ 0
  · refine E_If true rfl (zf_le_t ⟨by omega, by omega⟩ g280) ?_
    refine E_push (q := 288) (c := 0) (z := 0) rfl rfl ?_
    refine E_add (q := 289) rfl ?_
    refine E_add (q := 290) rfl ?_
    refine E_St (q := 292) (ls' := [ni_aL (m), ni_aL (lk), ni_aI ((nf : Int)), ni_aI (off), ni_aI (th + (mn + 0)), ni_aI ((l : Int)), ni_aI (x6), ni_aI (1), ni_aI (mn), ni_aI (4)]) rfl (fun _ _ => rfl) (fun _ _ => rfl) ?_
    refine E_Ld (q := 293) rfl rfl (fun _ _ => rfl) ?_
    refine E_Ld (q := 295) rfl rfl (fun _ _ => rfl) ?_
    refine E_Ld (q := 297) rfl rfl (fun _ _ => rfl) ?_
    obtain ⟨v297_2, A297_2, ⟨hv297_2, hA297_2⟩, hF297_2⟩ := fc_waiting1 (xs := xs) (A := A) hm hZ hl hlc h2
    subst hv297_2
    rw [hA297_2] at hF297_2
    refine E_VT (q := 300) (v := some (ni_aI (A (48 + 17 * l + 9) 11))) rfl rfl rfl hm (Nat.le_of_ble_eq_true rfl) (fun _ _ _ => rfl) (hF297_2) (fun _ _ => rfl) (fun _ _ => rfl) ?_
    by_cases g300 : ¬ (A (48 + 17 * l + 9) 11) = 0
    · refine E_If true rfl (zf_ne_t ⟨by omega, by omega⟩ g300) ?_
      refine E_push (q := 308) (c := 0) (z := 0) rfl rfl ?_
      refine E_Ld (q := 310) rfl rfl (fun _ _ => rfl) ?_
      by_cases g310 : ¬ mn = 0
      · refine E_If true rfl (zf_ne_t ⟨by omega, by omega⟩ g310) ?_
        refine E_push (q := 318) (c := 0) (z := 0) rfl rfl ?_
        refine E_Ic false rfl (zc_ne_f ⟨by omega, by omega⟩ ⟨by omega, by omega⟩ (by omega)) ?_
        refine E_Ld (q := 322) rfl rfl (fun _ _ => rfl) ?_
        refine E_Ld (q := 324) rfl rfl (fun _ _ => rfl) ?_
        obtain ⟨v324_3, A324_3, ⟨hv324_3, hA324_3⟩, hF324_3⟩ := fc_isUp (xs := xs) (A := A) hm hZ hl hlc h2 h5
        subst hv324_3
        rw [hA324_3] at hF324_3
        refine E_VT (q := 327) (v := some (ni_aI (A (48 + 17 * l) 5))) rfl rfl rfl hm (Nat.le_of_ble_eq_true rfl) (fun _ _ _ => rfl) (hF324_3) (fun _ _ => rfl) (fun _ _ => rfl) ?_
        by_cases g327 : ¬ (A (48 + 17 * l) 5) = 0
        · refine E_If true rfl (zf_ne_t ⟨by omega, by omega⟩ g327) ?_
          refine E_Inc (q := 360) (ls' := [ni_aL (m), ni_aL (lk), ni_aI ((nf : Int)), ni_aI (off), ni_aI (th + (mn + 0)), ni_aI ((l : Int)), ni_aI (x6 + 1), ni_aI (1), ni_aI (mn), ni_aI (4)]) (z := 1) rfl rfl rfl (fun _ _ => rfl) ?_
          refine E_Go (q := 201) rfl ?_
          exact hK (th + (mn + 0)) (by omega)
        · refine E_If false rfl (zf_ne_f ⟨by omega, by omega⟩ g327) ?_
          refine E_Ld (q := 332) rfl rfl (fun _ _ => rfl) ?_
          refine E_If false rfl (zf_gt_f ⟨by omega, by omega⟩ (by omega)) ?_
          refine E_Ld (q := 336) rfl rfl (fun _ _ => rfl) ?_
          refine E_Ld (q := 338) rfl rfl (fun _ _ => rfl) ?_
          refine E_Ld (q := 340) rfl rfl (fun _ _ => rfl) ?_
          obtain ⟨v340_4, A340_4, ⟨hv340_4, hA340_4⟩, hF340_4⟩ := fc_sending1 (xs := xs) (A := A) hm hZ hl hlc h2
          subst hv340_4
          rw [hA340_4] at hF340_4
          refine E_VT (q := 343) (v := some (ni_aI (A (48 + 17 * l + 9) 13))) rfl rfl rfl hm (Nat.le_of_ble_eq_true rfl) (fun _ _ _ => rfl) (hF340_4) (fun _ _ => rfl) (fun _ _ => rfl) ?_
          refine E_If false rfl (zf_gt_f ⟨by omega, by omega⟩ (by omega)) ?_
          refine E_Ld (q := 347) rfl rfl (fun _ _ => rfl) ?_
          refine E_Ld (q := 349) rfl rfl (fun _ _ => rfl) ?_
          obtain ⟨v349_5, A349_5, ⟨hv349_5, hA349_5⟩, hF349_5⟩ := fc_onLink (xs := xs) (A := A) hm hZ hl hlc h2
          subst hv349_5
          rw [hA349_5] at hF349_5
          refine E_VT (q := 352) (v := some (ni_aI (A (48 + 17 * l + 1 + 1) 4 + A (48 + 17 * l + 9 + 1) 4))) rfl rfl rfl hm (Nat.le_of_ble_eq_true rfl) (fun _ _ _ => rfl) (hF349_5) (fun _ _ => rfl) (fun _ _ => rfl) ?_
          refine E_If true rfl (zf_le_t ⟨by omega, by omega⟩ (by omega)) ?_
          refine E_Inc (q := 360) (ls' := [ni_aL (m), ni_aL (lk), ni_aI ((nf : Int)), ni_aI (off), ni_aI (th + (mn + 0)), ni_aI ((l : Int)), ni_aI (x6 + 1), ni_aI (1), ni_aI (mn), ni_aI (4)]) (z := 1) rfl rfl rfl (fun _ _ => rfl) ?_
          refine E_Go (q := 201) rfl ?_
          exact hK (th + (mn + 0)) (by omega)
      · refine E_If false rfl (zf_ne_f ⟨by omega, by omega⟩ g310) ?_
        refine E_push (q := 314) (c := 1) (z := 1) rfl rfl ?_
        refine E_Go (q := 318) rfl ?_
        exfalso
        omega
    · refine E_If false rfl (zf_ne_f ⟨by omega, by omega⟩ g300) ?_
      refine E_push (q := 304) (c := 1) (z := 1) rfl rfl ?_
      refine E_Go (q := 308) rfl ?_
      refine E_Ld (q := 310) rfl rfl (fun _ _ => rfl) ?_
      by_cases g310 : ¬ mn = 0
      · refine E_If true rfl (zf_ne_t ⟨by omega, by omega⟩ g310) ?_
        refine E_push (q := 318) (c := 0) (z := 0) rfl rfl ?_
        exfalso
        omega
      · refine E_If false rfl (zf_ne_f ⟨by omega, by omega⟩ g310) ?_
        refine E_push (q := 314) (c := 1) (z := 1) rfl rfl ?_
        refine E_Go (q := 318) rfl ?_
        refine E_Ic false rfl (zc_ne_f ⟨by omega, by omega⟩ ⟨by omega, by omega⟩ (by omega)) ?_
        refine E_Ld (q := 322) rfl rfl (fun _ _ => rfl) ?_
        refine E_Ld (q := 324) rfl rfl (fun _ _ => rfl) ?_
        obtain ⟨v324_3, A324_3, ⟨hv324_3, hA324_3⟩, hF324_3⟩ := fc_isUp (xs := xs) (A := A) hm hZ hl hlc h2 h5
        subst hv324_3
        rw [hA324_3] at hF324_3
        refine E_VT (q := 327) (v := some (ni_aI (A (48 + 17 * l) 5))) rfl rfl rfl hm (Nat.le_of_ble_eq_true rfl) (fun _ _ _ => rfl) (hF324_3) (fun _ _ => rfl) (fun _ _ => rfl) ?_
        by_cases g327 : ¬ (A (48 + 17 * l) 5) = 0
        · refine E_If true rfl (zf_ne_t ⟨by omega, by omega⟩ g327) ?_
          refine E_Inc (q := 360) (ls' := [ni_aL (m), ni_aL (lk), ni_aI ((nf : Int)), ni_aI (off), ni_aI (th + (mn + 0)), ni_aI ((l : Int)), ni_aI (x6 + 1), ni_aI (1), ni_aI (mn), ni_aI (4)]) (z := 1) rfl rfl rfl (fun _ _ => rfl) ?_
          refine E_Go (q := 201) rfl ?_
          exact hK (th + (mn + 0)) (by omega)
        · refine E_If false rfl (zf_ne_f ⟨by omega, by omega⟩ g327) ?_
          refine E_Ld (q := 332) rfl rfl (fun _ _ => rfl) ?_
          refine E_If false rfl (zf_gt_f ⟨by omega, by omega⟩ (by omega)) ?_
          refine E_Ld (q := 336) rfl rfl (fun _ _ => rfl) ?_
          refine E_Ld (q := 338) rfl rfl (fun _ _ => rfl) ?_
          refine E_Ld (q := 340) rfl rfl (fun _ _ => rfl) ?_
          obtain ⟨v340_4, A340_4, ⟨hv340_4, hA340_4⟩, hF340_4⟩ := fc_sending1 (xs := xs) (A := A) hm hZ hl hlc h2
          subst hv340_4
          rw [hA340_4] at hF340_4
          refine E_VT (q := 343) (v := some (ni_aI (A (48 + 17 * l + 9) 13))) rfl rfl rfl hm (Nat.le_of_ble_eq_true rfl) (fun _ _ _ => rfl) (hF340_4) (fun _ _ => rfl) (fun _ _ => rfl) ?_
          refine E_If false rfl (zf_gt_f ⟨by omega, by omega⟩ (by omega)) ?_
          refine E_Ld (q := 347) rfl rfl (fun _ _ => rfl) ?_
          refine E_Ld (q := 349) rfl rfl (fun _ _ => rfl) ?_
          obtain ⟨v349_5, A349_5, ⟨hv349_5, hA349_5⟩, hF349_5⟩ := fc_onLink (xs := xs) (A := A) hm hZ hl hlc h2
          subst hv349_5
          rw [hA349_5] at hF349_5
          refine E_VT (q := 352) (v := some (ni_aI (A (48 + 17 * l + 1 + 1) 4 + A (48 + 17 * l + 9 + 1) 4))) rfl rfl rfl hm (Nat.le_of_ble_eq_true rfl) (fun _ _ _ => rfl) (hF349_5) (fun _ _ => rfl) (fun _ _ => rfl) ?_
          refine E_If true rfl (zf_le_t ⟨by omega, by omega⟩ (by omega)) ?_
          refine E_Inc (q := 360) (ls' := [ni_aL (m), ni_aL (lk), ni_aI ((nf : Int)), ni_aI (off), ni_aI (th + (mn + 0)), ni_aI ((l : Int)), ni_aI (x6 + 1), ni_aI (1), ni_aI (mn), ni_aI (4)]) (z := 1) rfl rfl rfl (fun _ _ => rfl) ?_
          refine E_Go (q := 201) rfl ?_
          exact hK (th + (mn + 0)) (by omega)
  · refine E_If false rfl (zf_le_f ⟨by omega, by omega⟩ g280) ?_
    refine E_push (q := 284) (c := 1) (z := 1) rfl rfl ?_
    refine E_Go (q := 288) rfl ?_
    refine E_add (q := 289) rfl ?_
    refine E_add (q := 290) rfl ?_
    refine E_St (q := 292) (ls' := [ni_aL (m), ni_aL (lk), ni_aI ((nf : Int)), ni_aI (off), ni_aI (th + (mn + 1)), ni_aI ((l : Int)), ni_aI (x6), ni_aI (1), ni_aI (mn), ni_aI (4)]) rfl (fun _ _ => rfl) (fun _ _ => rfl) ?_
    refine E_Ld (q := 293) rfl rfl (fun _ _ => rfl) ?_
    refine E_Ld (q := 295) rfl rfl (fun _ _ => rfl) ?_
    refine E_Ld (q := 297) rfl rfl (fun _ _ => rfl) ?_
    obtain ⟨v297_2, A297_2, ⟨hv297_2, hA297_2⟩, hF297_2⟩ := fc_waiting1 (xs := xs) (A := A) hm hZ hl hlc h2
    subst hv297_2
    rw [hA297_2] at hF297_2
    refine E_VT (q := 300) (v := some (ni_aI (A (48 + 17 * l + 9) 11))) rfl rfl rfl hm (Nat.le_of_ble_eq_true rfl) (fun _ _ _ => rfl) (hF297_2) (fun _ _ => rfl) (fun _ _ => rfl) ?_
    by_cases g300 : ¬ (A (48 + 17 * l + 9) 11) = 0
    · refine E_If true rfl (zf_ne_t ⟨by omega, by omega⟩ g300) ?_
      refine E_push (q := 308) (c := 0) (z := 0) rfl rfl ?_
      refine E_Ld (q := 310) rfl rfl (fun _ _ => rfl) ?_
      by_cases g310 : ¬ mn = 0
      · refine E_If true rfl (zf_ne_t ⟨by omega, by omega⟩ g310) ?_
        refine E_push (q := 318) (c := 0) (z := 0) rfl rfl ?_
        refine E_Ic false rfl (zc_ne_f ⟨by omega, by omega⟩ ⟨by omega, by omega⟩ (by omega)) ?_
        refine E_Ld (q := 322) rfl rfl (fun _ _ => rfl) ?_
        refine E_Ld (q := 324) rfl rfl (fun _ _ => rfl) ?_
        obtain ⟨v324_3, A324_3, ⟨hv324_3, hA324_3⟩, hF324_3⟩ := fc_isUp (xs := xs) (A := A) hm hZ hl hlc h2 h5
        subst hv324_3
        rw [hA324_3] at hF324_3
        refine E_VT (q := 327) (v := some (ni_aI (A (48 + 17 * l) 5))) rfl rfl rfl hm (Nat.le_of_ble_eq_true rfl) (fun _ _ _ => rfl) (hF324_3) (fun _ _ => rfl) (fun _ _ => rfl) ?_
        by_cases g327 : ¬ (A (48 + 17 * l) 5) = 0
        · refine E_If true rfl (zf_ne_t ⟨by omega, by omega⟩ g327) ?_
          refine E_Inc (q := 360) (ls' := [ni_aL (m), ni_aL (lk), ni_aI ((nf : Int)), ni_aI (off), ni_aI (th + (mn + 1)), ni_aI ((l : Int)), ni_aI (x6 + 1), ni_aI (1), ni_aI (mn), ni_aI (4)]) (z := 1) rfl rfl rfl (fun _ _ => rfl) ?_
          refine E_Go (q := 201) rfl ?_
          exact hK (th + (mn + 1)) (by omega)
        · refine E_If false rfl (zf_ne_f ⟨by omega, by omega⟩ g327) ?_
          refine E_Ld (q := 332) rfl rfl (fun _ _ => rfl) ?_
          refine E_If false rfl (zf_gt_f ⟨by omega, by omega⟩ (by omega)) ?_
          refine E_Ld (q := 336) rfl rfl (fun _ _ => rfl) ?_
          refine E_Ld (q := 338) rfl rfl (fun _ _ => rfl) ?_
          refine E_Ld (q := 340) rfl rfl (fun _ _ => rfl) ?_
          obtain ⟨v340_4, A340_4, ⟨hv340_4, hA340_4⟩, hF340_4⟩ := fc_sending1 (xs := xs) (A := A) hm hZ hl hlc h2
          subst hv340_4
          rw [hA340_4] at hF340_4
          refine E_VT (q := 343) (v := some (ni_aI (A (48 + 17 * l + 9) 13))) rfl rfl rfl hm (Nat.le_of_ble_eq_true rfl) (fun _ _ _ => rfl) (hF340_4) (fun _ _ => rfl) (fun _ _ => rfl) ?_
          refine E_If false rfl (zf_gt_f ⟨by omega, by omega⟩ (by omega)) ?_
          refine E_Ld (q := 347) rfl rfl (fun _ _ => rfl) ?_
          refine E_Ld (q := 349) rfl rfl (fun _ _ => rfl) ?_
          obtain ⟨v349_5, A349_5, ⟨hv349_5, hA349_5⟩, hF349_5⟩ := fc_onLink (xs := xs) (A := A) hm hZ hl hlc h2
          subst hv349_5
          rw [hA349_5] at hF349_5
          refine E_VT (q := 352) (v := some (ni_aI (A (48 + 17 * l + 1 + 1) 4 + A (48 + 17 * l + 9 + 1) 4))) rfl rfl rfl hm (Nat.le_of_ble_eq_true rfl) (fun _ _ _ => rfl) (hF349_5) (fun _ _ => rfl) (fun _ _ => rfl) ?_
          refine E_If true rfl (zf_le_t ⟨by omega, by omega⟩ (by omega)) ?_
          refine E_Inc (q := 360) (ls' := [ni_aL (m), ni_aL (lk), ni_aI ((nf : Int)), ni_aI (off), ni_aI (th + (mn + 1)), ni_aI ((l : Int)), ni_aI (x6 + 1), ni_aI (1), ni_aI (mn), ni_aI (4)]) (z := 1) rfl rfl rfl (fun _ _ => rfl) ?_
          refine E_Go (q := 201) rfl ?_
          exact hK (th + (mn + 1)) (by omega)
      · refine E_If false rfl (zf_ne_f ⟨by omega, by omega⟩ g310) ?_
        refine E_push (q := 314) (c := 1) (z := 1) rfl rfl ?_
        refine E_Go (q := 318) rfl ?_
        exfalso
        omega
    · refine E_If false rfl (zf_ne_f ⟨by omega, by omega⟩ g300) ?_
      refine E_push (q := 304) (c := 1) (z := 1) rfl rfl ?_
      refine E_Go (q := 308) rfl ?_
      refine E_Ld (q := 310) rfl rfl (fun _ _ => rfl) ?_
      by_cases g310 : ¬ mn = 0
      · refine E_If true rfl (zf_ne_t ⟨by omega, by omega⟩ g310) ?_
        refine E_push (q := 318) (c := 0) (z := 0) rfl rfl ?_
        exfalso
        omega
      · refine E_If false rfl (zf_ne_f ⟨by omega, by omega⟩ g310) ?_
        refine E_push (q := 314) (c := 1) (z := 1) rfl rfl ?_
        refine E_Go (q := 318) rfl ?_
        refine E_Ic false rfl (zc_ne_f ⟨by omega, by omega⟩ ⟨by omega, by omega⟩ (by omega)) ?_
        refine E_Ld (q := 322) rfl rfl (fun _ _ => rfl) ?_
        refine E_Ld (q := 324) rfl rfl (fun _ _ => rfl) ?_
        obtain ⟨v324_3, A324_3, ⟨hv324_3, hA324_3⟩, hF324_3⟩ := fc_isUp (xs := xs) (A := A) hm hZ hl hlc h2 h5
        subst hv324_3
        rw [hA324_3] at hF324_3
        refine E_VT (q := 327) (v := some (ni_aI (A (48 + 17 * l) 5))) rfl rfl rfl hm (Nat.le_of_ble_eq_true rfl) (fun _ _ _ => rfl) (hF324_3) (fun _ _ => rfl) (fun _ _ => rfl) ?_
        by_cases g327 : ¬ (A (48 + 17 * l) 5) = 0
        · refine E_If true rfl (zf_ne_t ⟨by omega, by omega⟩ g327) ?_
          refine E_Inc (q := 360) (ls' := [ni_aL (m), ni_aL (lk), ni_aI ((nf : Int)), ni_aI (off), ni_aI (th + (mn + 1)), ni_aI ((l : Int)), ni_aI (x6 + 1), ni_aI (1), ni_aI (mn), ni_aI (4)]) (z := 1) rfl rfl rfl (fun _ _ => rfl) ?_
          refine E_Go (q := 201) rfl ?_
          exact hK (th + (mn + 1)) (by omega)
        · refine E_If false rfl (zf_ne_f ⟨by omega, by omega⟩ g327) ?_
          refine E_Ld (q := 332) rfl rfl (fun _ _ => rfl) ?_
          refine E_If false rfl (zf_gt_f ⟨by omega, by omega⟩ (by omega)) ?_
          refine E_Ld (q := 336) rfl rfl (fun _ _ => rfl) ?_
          refine E_Ld (q := 338) rfl rfl (fun _ _ => rfl) ?_
          refine E_Ld (q := 340) rfl rfl (fun _ _ => rfl) ?_
          obtain ⟨v340_4, A340_4, ⟨hv340_4, hA340_4⟩, hF340_4⟩ := fc_sending1 (xs := xs) (A := A) hm hZ hl hlc h2
          subst hv340_4
          rw [hA340_4] at hF340_4
          refine E_VT (q := 343) (v := some (ni_aI (A (48 + 17 * l + 9) 13))) rfl rfl rfl hm (Nat.le_of_ble_eq_true rfl) (fun _ _ _ => rfl) (hF340_4) (fun _ _ => rfl) (fun _ _ => rfl) ?_
          refine E_If false rfl (zf_gt_f ⟨by omega, by omega⟩ (by omega)) ?_
          refine E_Ld (q := 347) rfl rfl (fun _ _ => rfl) ?_
          refine E_Ld (q := 349) rfl rfl (fun _ _ => rfl) ?_
          obtain ⟨v349_5, A349_5, ⟨hv349_5, hA349_5⟩, hF349_5⟩ := fc_onLink (xs := xs) (A := A) hm hZ hl hlc h2
          subst hv349_5
          rw [hA349_5] at hF349_5
          refine E_VT (q := 352) (v := some (ni_aI (A (48 + 17 * l + 1 + 1) 4 + A (48 + 17 * l + 9 + 1) 4))) rfl rfl rfl hm (Nat.le_of_ble_eq_true rfl) (fun _ _ _ => rfl) (hF349_5) (fun _ _ => rfl) (fun _ _ => rfl) ?_
          refine E_If true rfl (zf_le_t ⟨by omega, by omega⟩ (by omega)) ?_
          refine E_Inc (q := 360) (ls' := [ni_aL (m), ni_aL (lk), ni_aI ((nf : Int)), ni_aI (off), ni_aI (th + (mn + 1)), ni_aI ((l : Int)), ni_aI (x6 + 1), ni_aI (1), ni_aI (mn), ni_aI (4)]) (z := 1) rfl rfl rfl (fun _ _ => rfl) ?_
          refine E_Go (q := 201) rfl ?_
          exact hK (th + (mn + 1)) (by omega)
end NSO
