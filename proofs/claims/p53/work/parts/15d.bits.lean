/-! BITS OF WHOLE NUMBERS -/
section NZB
theorem zb_N (a : Nat) : (Int32.ofInt (a : Int)).toBitVec = BitVec.ofNat 32 a := BitVec.ofInt_natCast 32 a
theorem zb_and (a b : Nat) : Int32.ofInt (a : Int) &&& Int32.ofInt (b : Int) = Int32.ofInt ((a &&& b : Nat) : Int) := by
  apply Int32.toBitVec_inj.1
  rw [Int32.toBitVec_and, zb_N, zb_N, zb_N]
  apply BitVec.eq_of_getLsbD_eq
  intro i hi
  simp [hi]
theorem zb_or (a b : Nat) : Int32.ofInt (a : Int) ||| Int32.ofInt (b : Int) = Int32.ofInt ((a ||| b : Nat) : Int) := by
  apply Int32.toBitVec_inj.1
  rw [Int32.toBitVec_or, zb_N, zb_N, zb_N]
  apply BitVec.eq_of_getLsbD_eq
  intro i hi
  simp [hi]
theorem zb_xor (a b : Nat) : Int32.ofInt (a : Int) ^^^ Int32.ofInt (b : Int) = Int32.ofInt ((a ^^^ b : Nat) : Int) := by
  apply Int32.toBitVec_inj.1
  rw [Int32.toBitVec_xor, zb_N, zb_N, zb_N]
  apply BitVec.eq_of_getLsbD_eq
  intro i hi
  simp [hi]
theorem zb_31 : ∀ n : Nat, n < 32 → ((Int32.ofInt (n : Int) &&& 31).toBitVec.smod 32).toNat = n := by decide +kernel
theorem zb_shr {a : Int} {n : Nat} (ha : ni_R32 a) (hn : n < 32) : Int32.ofInt a >>> (Int32.ofInt (n : Int) &&& 31) = Int32.ofInt (a / 2 ^ n) := by
  have h1 : (Int32.ofInt a >>> (Int32.ofInt (n : Int) &&& 31)).toInt = a / 2 ^ n := by
    show (Int32.ofInt a >>> (Int32.ofInt (n : Int) &&& 31)).toBitVec.toInt = _
    rw [Int32.toBitVec_shiftRight]
    show ((Int32.ofInt a).toBitVec.sshiftRight ((Int32.ofInt (n : Int) &&& 31).toBitVec.smod 32).toNat).toInt = _
    rw [zb_31 n hn, BitVec.toInt_sshiftRight, Int.shiftRight_eq_div_pow]
    show (Int32.ofInt a).toInt / _ = _
    rw [ni_toZ ha]
    norm_cast
  have hp : (1 : Int) ≤ 2 ^ n := by
    have := Nat.one_le_two_pow (n := n)
    exact_mod_cast this
  have hr : ni_R32 (a / 2 ^ n) := by
    have g1 : a / 2 ^ n ≤ 2147483647 := by
      rcases Int.lt_or_le a 0 with h | h
      · have : a / 2 ^ n < 0 := Int.ediv_neg_of_neg_of_pos h (by omega)
        omega
      · have := Int.ediv_le_self (2 ^ n) h
        omega
    have g2 : -2147483648 ≤ a / 2 ^ n := by
      refine (Int.le_ediv_iff_mul_le (by omega)).mpr ?_
      obtain ⟨t, ht⟩ : ∃ t : Int, t = 2 ^ n := ⟨_, rfl⟩
      rw [← ht] at hp ⊢
      omega
    exact ⟨g2, g1⟩
  rw [← Int32.toInt_inj, h1, ni_toZ hr]
theorem zb_shl {a : Int} {n : Nat} (hn : n < 32) : Int32.ofInt a <<< (Int32.ofInt (n : Int) &&& 31) = Int32.ofInt (a * 2 ^ n) := by
  apply Int32.toBitVec_inj.1
  rw [Int32.toBitVec_shiftLeft]
  show (BitVec.ofInt 32 a) <<< ((Int32.ofInt (n : Int) &&& 31).toBitVec.smod 32).toNat = BitVec.ofInt 32 (a * 2 ^ n)
  rw [zb_31 n hn, BitVec.shiftLeft_eq_mul_twoPow, BitVec.ofInt_mul]
  congr 1
  apply BitVec.eq_of_toNat_eq
  rw [BitVec.toNat_twoPow]
  rw [show ((2 : Int) ^ n) = ((2 ^ n : Nat) : Int) by norm_cast, BitVec.ofInt_natCast, BitVec.toNat_ofNat]
theorem zb_mask {x : Int} (k : Nat) (hx : 0 ≤ x) : Int32.ofInt x &&& Int32.ofInt ((2 ^ k - 1 : Nat) : Int) = Int32.ofInt (x % 2 ^ k) := by
  obtain ⟨n, rfl⟩ := Int.eq_ofNat_of_zero_le hx
  rw [zb_and, Nat.and_two_pow_sub_one_eq_mod]
  norm_cast
theorem zb_orA {a b k : Nat} (ha : a < 2 ^ k) : Int32.ofInt (a : Int) ||| Int32.ofInt ((b * 2 ^ k : Nat) : Int) = Int32.ofInt ((a + b * 2 ^ k : Nat) : Int) := by
  rw [zb_or]
  congr 2
  rw [Nat.or_comm, Nat.mul_comm, ← Nat.two_pow_add_eq_or_of_lt ha, Nat.add_comm]
theorem wp_I {f : Int32 → Int32 → Int32} {a b c : Int} {q : Nat} {r : List Value} (h : f (Int32.ofInt a) (Int32.ofInt b) = Int32.ofInt c) : ni_gI f q (ni_z b :: ni_z a :: r) = some (q, ni_z c :: r) := by
  show some (q, Value.int (f (Int32.ofInt a) (Int32.ofInt b)) :: r) = _
  rw [h]
theorem zi_inc {c : Int32} {e z : Int} (h : c = Int32.ofInt z) : Int32.ofInt e + c = Int32.ofInt (e + z) := by
  rw [h, Int32.ofInt_add]
end NZB
