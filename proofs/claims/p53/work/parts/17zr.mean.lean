/-! A MEAN IS NOT GREATER THAN THE GREATEST -/
section NDM
theorem nd_sg {f : Jvm.FP.Core.Fmt} {s t : Bool} {A B c : Nat} {e q : Int} (h : Jvm.FP.Core.roundRatio f s A B e = .fin t c q) : t = s := by
  unfold Jvm.FP.Core.roundRatio at h
  split at h
  · cases h; rfl
  · unfold Jvm.FP.Core.roundAt Jvm.FP.Core.settle Jvm.FP.Core.bound at h
    split at h <;> split at h <;> cases h <;> rfl
theorem nd_ngt {a b : Int} (h : a ≤ b) : compare a b ≠ .gt := by
  intro g
  simp only [compare, compareOfLessAndEq] at g
  split at g
  · cases g
  · split at g
    · cases g
    · omega
theorem nd_cg {cs S cd D a b c e u v : Nat} (h1 : cs * 2 ^ a = S * 2 ^ b) (h2 : cd * 2 ^ c = D * 2 ^ e) (h : u + b + c = v + a + e) : cs * D * 2 ^ u = S * cd * 2 ^ v := by
  have p : 0 < 2 ^ (b + c) := Nat.two_pow_pos _
  refine Nat.eq_of_mul_eq_mul_right p ?_
  calc cs * D * 2 ^ u * 2 ^ (b + c) = cs * D * 2 ^ (u + b + c) := by rw [Nat.add_assoc, Nat.pow_add 2 u, Nat.mul_assoc]
    _ = cs * D * (2 ^ v * 2 ^ a * 2 ^ e) := by rw [h, Nat.pow_add, Nat.pow_add]
    _ = (cs * 2 ^ a) * (D * 2 ^ e) * 2 ^ v := by ac_rfl
    _ = (S * 2 ^ b) * (cd * 2 ^ c) * 2 ^ v := by rw [h1, h2]
    _ = S * cd * 2 ^ v * 2 ^ (b + c) := by rw [Nat.pow_add]; ac_rfl
theorem nd_q {x y : UInt64} {s d : Int} (hx : Jvm.FP.Core.Whole s (Jvm.FP.Core.val64 x)) (hy : Jvm.FP.Core.Whole d (Jvm.FP.Core.val64 y)) (hs : 0 < s) (hd : 0 < d) : Jvm.FP.Core.val64 (Jvm.FP.Core.ddiv x y) = Jvm.FP.Core.roundRatio Jvm.FP.Core.b64 false s.natAbs d.natAbs 0 := by
  rw [Jvm.FP.Core.val64_ddiv]
  revert hx hy
  cases Jvm.FP.Core.val64 x with
  | nan => intro hx; exact hx.elim
  | inf s => intro hx; exact hx.elim
  | fin t c q =>
    cases Jvm.FP.Core.val64 y with
    | nan => intro _ hy; exact hy.elim
    | inf t => intro _ hy; exact hy.elim
    | fin t' c' r =>
      intro hx hy
      have e1 : t = false := by rw [Jvm.FP.Core.whole_sign hx (by omega)]; exact decide_eq_false (by omega)
      have e2 : t' = false := by rw [Jvm.FP.Core.whole_sign hy (by omega)]; exact decide_eq_false (by omega)
      have n1 := Jvm.FP.Core.whole_natAbs hx
      have n2 := Jvm.FP.Core.whole_natAbs hy
      have z2 : c' ≠ 0 := fun z => by have := (Jvm.FP.Core.whole_zero hy).mp z; omega
      subst e1 e2
      unfold Jvm.FP.Core.quotient
      dsimp only
      rw [if_neg z2]
      refine Jvm.FP.Core.roundRatio_congr (by omega) (by omega) ?_
      exact nd_cg n1 n2 (by omega)
theorem nd_mul {S C D m K : Nat} (hD : 0 < D) (h1 : S ≤ D * m) (h : (((S * K : Nat) : Int) - (C : Int) * (D : Int)).natAbs ≤ (((S * K : Nat) : Int) - ((m * K : Nat) : Int) * (D : Int)).natAbs) : C ≤ m * K := by
  refine Nat.le_of_not_lt fun g => ?_
  have a := Nat.mul_le_mul_right K h1
  have b := Nat.mul_le_mul_right D (show m * K + 1 ≤ C from g)
  rw [Nat.add_mul, Nat.one_mul] at b
  rw [← Int.natCast_mul, ← Int.natCast_mul] at h
  rw [show D * m * K = m * K * D by ac_rfl] at a
  generalize S * K = sk at *
  generalize m * K * D = md at *
  generalize C * D = cd at *
  omega
theorem nd_up {X Y m : Int} {a b c k : Nat} (h1 : X * ((2 ^ a : Nat) : Int) ≤ m * ((2 ^ k : Nat) : Int)) (h2 : Y * ((2 ^ b : Nat) : Int) = m * ((2 ^ c : Nat) : Int)) (h : a + c = b + k) : X ≤ Y := by
  have p : (0 : Int) < ((2 ^ (a + c) : Nat) : Int) := by have := Nat.two_pow_pos (a + c); omega
  refine Int.le_of_mul_le_mul_right ?_ p
  have pc : (0 : Int) ≤ ((2 ^ c : Nat) : Int) := by have := Nat.two_pow_pos c; omega
  have e := Int.mul_le_mul_of_nonneg_right h1 pc
  have l : X * ((2 ^ (a + c) : Nat) : Int) = X * ((2 ^ a : Nat) : Int) * ((2 ^ c : Nat) : Int) := by rw [Nat.pow_add, Int.natCast_mul, Int.mul_assoc]
  have r : Y * ((2 ^ (a + c) : Nat) : Int) = m * ((2 ^ k : Nat) : Int) * ((2 ^ c : Nat) : Int) := by
    rw [h, Nat.pow_add, Int.natCast_mul, ← Int.mul_assoc, h2, Int.mul_assoc, Int.mul_assoc, Int.mul_comm ((2 ^ c : Nat) : Int)]
  rw [l, r]
  exact e
theorem nd_fin {S D m : Nat} (hD : 0 < D) (hm : m < 2147483648) (h : S ≤ D * m) : Jvm.FP.Core.roundRatio Jvm.FP.Core.b64 false S D 0 ≠ .inf false := by
  intro z
  have g := (Jvm.FP.Core.roundRatio_inf Jvm.FP.Core.good_b64 hD (e0 := -1075) (by decide) (by decide)).mp z
  have e1 : Jvm.FP.Core.inUnits S 0 (-1075) = S * 2 ^ 1075 := rfl
  rw [e1] at g
  have b : 2147483648 * 2 ^ 1075 < (2 ^ (Jvm.FP.Core.b64.p + 1) - 1) * 2 ^ (Jvm.FP.Core.b64.qmax - 1 - (-1075)).toNat := by decide +kernel
  generalize (2 ^ (Jvm.FP.Core.b64.p + 1) - 1) * 2 ^ (Jvm.FP.Core.b64.qmax - 1 - (-1075)).toNat = R at g b
  clear e1 z
  generalize 2 ^ 1075 = T at g b
  have a := Nat.mul_le_mul_right T h
  have a2 : m * T ≤ 2147483648 * T := Nat.mul_le_mul_right _ (Nat.le_of_lt hm)
  have c := (Nat.mul_lt_mul_right hD).mpr (Nat.lt_of_le_of_lt a2 b)
  rw [show D * m * T = m * T * D by ac_rfl] at a
  exact absurd (Nat.le_trans g a) (Nat.not_le_of_lt c)
theorem nd_le {x y z : UInt64} {s d m : Int} (hx : Jvm.FP.Core.Whole s (Jvm.FP.Core.val64 x)) (hy : Jvm.FP.Core.Whole d (Jvm.FP.Core.val64 y)) (hz : Jvm.FP.Core.Whole m (Jvm.FP.Core.val64 z)) (hs : 0 ≤ s) (hd : 0 < d) (hm : 0 ≤ m) (hm2 : m < 2147483648) (h : s ≤ d * m) : Jvm.FP.Core.dcmp (Jvm.FP.Core.ddiv x y) z = some .lt ∨ Jvm.FP.Core.dcmp (Jvm.FP.Core.ddiv x y) z = some .eq := by
  have key : ∃ o, Jvm.FP.Core.order (Jvm.FP.Core.val64 (Jvm.FP.Core.ddiv x y)) (Jvm.FP.Core.val64 z) = some o ∧ o ≠ .gt := by
    by_cases s0 : s = 0
    · have w : Jvm.FP.Core.Whole 0 (Jvm.FP.Core.val64 (Jvm.FP.Core.ddiv x y)) := by
        rw [Jvm.FP.Core.val64_ddiv]
        revert hx hy
        cases Jvm.FP.Core.val64 x with
        | nan => intro hx; exact hx.elim
        | inf s => intro hx; exact hx.elim
        | fin t c q =>
          cases Jvm.FP.Core.val64 y with
          | nan => intro _ hy; exact hy.elim
          | inf t => intro _ hy; exact hy.elim
          | fin t' c' r =>
            intro hx hy
            have z1 : c = 0 := (Jvm.FP.Core.whole_zero hx).mpr s0
            have z2 : c' ≠ 0 := fun z => by have := (Jvm.FP.Core.whole_zero hy).mp z; omega
            subst z1
            unfold Jvm.FP.Core.quotient
            dsimp only
            rw [if_neg z2]
            unfold Jvm.FP.Core.roundRatio
            rw [if_pos rfl]
            show Jvm.FP.Core.signed _ (0 * _) = 0 * _
            rw [Nat.zero_mul, Jvm.FP.Core.signed_zero, Int.zero_mul]
      exact ⟨_, Jvm.FP.Core.order_whole w hz, nd_ngt hm⟩
    · have q1 := nd_q hx hy (by omega) hd
      have nn : s.natAbs ≤ d.natAbs * m.natAbs := by
        have : ((s.natAbs : Nat) : Int) ≤ ((d.natAbs * m.natAbs : Nat) : Int) := by
          rw [Int.natCast_mul, Int.natAbs_of_nonneg hs, Int.natAbs_of_nonneg (by omega), Int.natAbs_of_nonneg hm]
          exact h
        exact Int.ofNat_le.mp this
      have hD : 0 < d.natAbs := by omega
      have hm3 : m.natAbs < 2147483648 := by omega
      have nf := nd_fin hD hm3 nn
      have nr : Jvm.FP.Core.roundRatio Jvm.FP.Core.b64 false s.natAbs d.natAbs 0 ≠ .nan := nd_rr
      have ft := Jvm.FP.Core.roundRatio_fits Jvm.FP.Core.good_b64 false s.natAbs hD 0
      have zf := Jvm.FP.Core.val64_fits z
      have near := fun (t : Bool) (c : Nat) (q : Int) (e : Jvm.FP.Core.roundRatio Jvm.FP.Core.b64 false s.natAbs d.natAbs 0 = .fin t c q) => Jvm.FP.Core.roundRatio_nearest (e0 := Jvm.FP.Core.b64.qmin) (c' := m.natAbs) (q' := 0) Jvm.FP.Core.good_b64 hD e (Nat.lt_trans hm3 (by decide)) (by decide) (Int.le_refl _) (by decide)
      have sg := fun (t : Bool) (c : Nat) (q : Int) (e : Jvm.FP.Core.roundRatio Jvm.FP.Core.b64 false s.natAbs d.natAbs 0 = .fin t c q) => nd_sg e
      rw [q1]
      revert nf nr ft near sg
      cases Jvm.FP.Core.roundRatio Jvm.FP.Core.b64 false s.natAbs d.natAbs 0 with
      | nan => intro _ nr; exact absurd rfl nr
      | inf t => 
        intro nf _ _ _ _
        revert hz
        cases t with
        | false => exact absurd rfl nf
        | true =>
          cases Jvm.FP.Core.val64 z with
          | nan => intro hz; exact hz.elim
          | inf _ => intro hz; exact hz.elim
          | fin _ _ _ => intro _; exact ⟨_, rfl, nd_ngt (by decide)⟩
      | fin t c q =>
        intro _ _ ft near sg
        have st := sg t c q rfl
        have nd := near t c q rfl
        subst st
        revert hz zf
        cases Jvm.FP.Core.val64 z with
        | nan => intro hz; exact hz.elim
        | inf _ => intro hz; exact hz.elim
        | fin t' c' r =>
          intro hz zf
          refine ⟨_, rfl, nd_ngt ?_⟩
          have q0 : Jvm.FP.Core.b64.qmin ≤ q := ft.2.1
          have r0 : Jvm.FP.Core.b64.qmin ≤ r := zf.2.1
          have mu : Jvm.FP.Core.b64.qmin ≤ min q r := by omega
          have wz := Jvm.FP.Core.whole_units hz (e := min q r) (by omega)
          have mv := Jvm.FP.Core.inUnits_move c mu (show min q r ≤ q by omega)
          have C := nd_mul (S := s.natAbs) (D := d.natAbs) (m := m.natAbs) (K := 2 ^ (0 - Jvm.FP.Core.b64.qmin).toNat) hD nn nd
          rw [mv] at C
          refine nd_up (a := (min q r - Jvm.FP.Core.b64.qmin).toNat) (k := (0 - Jvm.FP.Core.b64.qmin).toNat) ?_ wz ?_
          · have : ((Jvm.FP.Core.inUnits c q (min q r) * 2 ^ (min q r - Jvm.FP.Core.b64.qmin).toNat : Nat) : Int) ≤ ((m.natAbs * 2 ^ (0 - Jvm.FP.Core.b64.qmin).toNat : Nat) : Int) := Int.ofNat_le.mpr C
            rw [Int.natCast_mul, Int.natCast_mul, Int.natAbs_of_nonneg hm] at this
            exact this
          · have : Jvm.FP.Core.b64.qmin = -1074 := by decide
            omega
  obtain ⟨o, e, n⟩ := key
  have e2 : Jvm.FP.Core.dcmp (Jvm.FP.Core.ddiv x y) z = some o := e
  rw [e2]
  cases o with
  | lt => exact Or.inl rfl
  | eq => exact Or.inr rfl
  | gt => exact absurd rfl n
end NDM
