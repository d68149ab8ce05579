/-! A QUOTIENT OF WHOLE NUMBERS IS A NUMBER -/
section NDB
theorem nd_rr {f : Jvm.FP.Core.Fmt} {s : Bool} {A B : Nat} {e : Int} : Jvm.FP.Core.roundRatio f s A B e ≠ .nan := by
  unfold Jvm.FP.Core.roundRatio
  split
  · exact fun z => by cases z
  · unfold Jvm.FP.Core.roundAt Jvm.FP.Core.settle
    split <;> (unfold Jvm.FP.Core.bound; split <;> (intro z; cases z))
theorem nd_num {x : UInt64} (h : Jvm.FP.Core.val64 x ≠ .nan) : x &&& 0x7fffffffffffffff ≤ 0x7ff0000000000000 := by
  have g : ¬ (9218868437227405312 < x.toNat % 2 ^ 63) := fun z => h ((Jvm.FP.Core.dIsNaN_iff x).mp ((Jvm.FP.Core.isNaN_bits x).mpr z))
  rw [UInt64.le_iff_toNat_le, UInt64.toNat_and]
  show x.toNat &&& 9223372036854775807 ≤ 9218868437227405312
  rw [show (9223372036854775807 : Nat) = 2 ^ 63 - 1 from rfl, Nat.and_two_pow_sub_one_eq_mod]
  omega
theorem nd_div {x y : UInt64} {i j : Int} (hx : Jvm.FP.Core.Whole i (Jvm.FP.Core.val64 x)) (hy : Jvm.FP.Core.Whole j (Jvm.FP.Core.val64 y)) (hj : j ≠ 0) : Jvm.FP.Core.val64 (Jvm.FP.Core.ddiv x y) ≠ .nan := by
  rw [Jvm.FP.Core.val64_ddiv]
  revert hx hy
  cases Jvm.FP.Core.val64 x with
  | nan => intro hx; exact hx.elim
  | inf s => intro hx; exact hx.elim
  | fin s c q =>
    cases Jvm.FP.Core.val64 y with
    | nan => intro _ hy; exact hy.elim
    | inf t => intro _ hy; exact hy.elim
    | fin t d r =>
      intro _ hy
      unfold Jvm.FP.Core.quotient
      have hd : d ≠ 0 := fun z => by
        have h := Jvm.FP.Core.whole_natAbs hy
        rw [z, Nat.zero_mul] at h
        have p := Nat.two_pow_pos (-r).toNat
        have p2 : 0 < j.natAbs := by omega
        have := Nat.mul_pos p2 p
        omega
      dsimp only
      rw [if_neg hd]
      exact nd_rr
end NDB
