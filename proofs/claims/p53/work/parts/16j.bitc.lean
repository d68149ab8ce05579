/-! HOW MANY BITS -/
section MBC
variable {xs : List Int32} {St : Nat → Option ni_C} {A : Nat → Nat → Int}
theorem zb_u31 : ∀ k : Nat, k < 32 → ((Int32.ofInt (k : Int)).toUInt32 &&& Int32.toUInt32 31).toBitVec.toNat % 32 = k := by decide +kernel
/-- a shift of a whole number that is not negative, zeros moved in -/
theorem zb_us {a : Nat} (k m : Nat) (hm : m = 2 ^ k) (hk : Nat.blt k 32 = true) (ha : a < 4294967296) : ((Int32.ofInt (a : Int)).toUInt32 >>> ((Int32.ofInt (k : Int)).toUInt32 &&& Int32.toUInt32 31)).toInt32 = Int32.ofInt ((a / m : Nat) : Int) := by
  subst hm
  have hk' : k < 32 := by simpa [Nat.blt_eq] using hk
  apply Int32.toBitVec_inj.1
  rw [zb_N]
  show ((Int32.ofInt (a : Int)).toUInt32 >>> ((Int32.ofInt (k : Int)).toUInt32 &&& Int32.toUInt32 31)).toBitVec = _
  rw [UInt32.toBitVec_shiftRight]
  show ((Int32.ofInt (a : Int)).toBitVec >>> (((Int32.ofInt (k : Int)).toUInt32 &&& Int32.toUInt32 31).toBitVec % 32).toNat) = _
  rw [zb_N]
  have h1 : (((Int32.ofInt (k : Int)).toUInt32 &&& Int32.toUInt32 31).toBitVec % 32).toNat = k := by
    rw [BitVec.toNat_umod]
    exact zb_u31 k hk'
  rw [h1]
  apply BitVec.eq_of_toNat_eq
  rw [BitVec.toNat_ushiftRight, BitVec.toNat_ofNat, BitVec.toNat_ofNat, Nat.shiftRight_eq_div_pow, Nat.mod_eq_of_lt (by omega), Nat.mod_eq_of_lt (Nat.lt_of_le_of_lt (Nat.div_le_self _ _) (by omega))]
def ni_b1 (n : Nat) : Nat := n - Nat.land (n / 2) 1431655765
def ni_b2 (n : Nat) : Nat := Nat.land (ni_b1 n) 858993459 + Nat.land (ni_b1 n / 4) 858993459
def ni_b3 (n : Nat) : Nat := Nat.land (ni_b2 n + ni_b2 n / 16) 252645135
def ni_b4 (n : Nat) : Nat := ni_b3 n + ni_b3 n / 256
def ni_bc (n : Nat) : Nat := Nat.land (ni_b4 n + ni_b4 n / 65536) 63
theorem mt_bitc {n : Nat} (hn : n < 1000000) : ni_Pu xs 1 157 [ni_z (n : Int)] (some (ni_z (ni_bc n : Int))) := by
  intro M
  have l1 : Nat.land (n / 2) 1431655765 ≤ n / 2 := Nat.and_le_left
  have e1 : (n : Int) - ((Nat.land (n / 2) 1431655765 : Nat) : Int) = ((ni_b1 n : Nat) : Int) := by
    unfold ni_b1
    omega
  have k1 : ni_b1 n ≤ n := Nat.sub_le _ _
  have l2 : Nat.land (ni_b1 n) 858993459 ≤ ni_b1 n := Nat.and_le_left
  have l3 : Nat.land (ni_b1 n / 4) 858993459 ≤ ni_b1 n / 4 := Nat.and_le_left
  have e2 : ((Nat.land (ni_b1 n) 858993459 : Nat) : Int) + ((Nat.land (ni_b1 n / 4) 858993459 : Nat) : Int) = ((ni_b2 n : Nat) : Int) := rfl
  have k2 : ni_b2 n ≤ 2000000 := by
    unfold ni_b2
    omega
  have l4 : Nat.land (ni_b2 n + ni_b2 n / 16) 252645135 ≤ ni_b2 n + ni_b2 n / 16 := Nat.and_le_left
  have k3 : ni_b3 n ≤ 4000000 := by
    unfold ni_b3
    omega
  have k4 : ni_b4 n ≤ 8000000 := by
    unfold ni_b4
    omega
  refine wp_enter (Nat.le_of_ble_eq_true rfl) rfl ?_
  refine wp_Ld rfl rfl rfl ?_
  refine wp_Ld rfl rfl rfl ?_
  refine wp_P (g := ni_gPush (.int (1)) 3) rfl (wp_push (z := 1) rfl) ?_
  refine wp_P rfl (wp_I (c := ((n / 2 : Nat) : Int)) (zb_us 1 2 rfl rfl (by omega))) ?_
  refine wp_P (g := ni_gPush (.int (1431655765)) 7) rfl (wp_push (z := 1431655765) rfl) ?_
  refine wp_P rfl (wp_I (c := ((Nat.land (n / 2) 1431655765 : Nat) : Int)) (zb_and (n / 2) 1431655765)) ?_
  refine wp_P rfl wp_sub ?_
  refine wp_St rfl rfl rfl ?_
  refine wp_Ld rfl rfl rfl ?_
  refine wp_P (g := ni_gPush (.int (858993459)) 14) rfl (wp_push (z := 858993459) rfl) ?_
  refine wp_P rfl (wp_I (c := ((Nat.land (ni_b1 n) 858993459 : Nat) : Int)) (by rw [e1]; exact zb_and (ni_b1 n) 858993459)) ?_
  refine wp_Ld rfl rfl rfl ?_
  refine wp_P (g := ni_gPush (.int (2)) 17) rfl (wp_push (z := 2) rfl) ?_
  refine wp_P rfl (wp_I (c := ((ni_b1 n / 4 : Nat) : Int)) (by rw [e1]; exact zb_us 2 4 rfl rfl (by omega))) ?_
  refine wp_P (g := ni_gPush (.int (858993459)) 21) rfl (wp_push (z := 858993459) rfl) ?_
  refine wp_P rfl (wp_I (c := ((Nat.land (ni_b1 n / 4) 858993459 : Nat) : Int)) (zb_and (ni_b1 n / 4) 858993459)) ?_
  refine wp_P rfl wp_add ?_
  refine wp_St rfl rfl rfl ?_
  refine wp_Ld rfl rfl rfl ?_
  refine wp_Ld rfl rfl rfl ?_
  refine wp_P (g := ni_gPush (.int (4)) 27) rfl (wp_push (z := 4) rfl) ?_
  refine wp_P rfl (wp_I (c := ((ni_b2 n / 16 : Nat) : Int)) (by rw [e2]; exact zb_us 4 16 rfl rfl (by omega))) ?_
  refine wp_P rfl wp_add ?_
  refine wp_P (g := ni_gPush (.int (252645135)) 32) rfl (wp_push (z := 252645135) rfl) ?_
  refine wp_P rfl (wp_I (c := ((Nat.land (ni_b2 n + ni_b2 n / 16) 252645135 : Nat) : Int)) (by rw [e2]; exact zb_and (ni_b2 n + ni_b2 n / 16) 252645135)) ?_
  refine wp_St rfl rfl rfl ?_
  refine wp_Ld rfl rfl rfl ?_
  refine wp_Ld rfl rfl rfl ?_
  refine wp_P (g := ni_gPush (.int (8)) 38) rfl (wp_push (z := 8) rfl) ?_
  refine wp_P rfl (wp_I (c := ((ni_b3 n / 256 : Nat) : Int)) (zb_us (a := ni_b3 n) 8 256 rfl rfl (by omega))) ?_
  refine wp_P rfl wp_add ?_
  refine wp_St rfl rfl rfl ?_
  refine wp_Ld rfl rfl rfl ?_
  refine wp_Ld rfl rfl rfl ?_
  refine wp_P (g := ni_gPush (.int (16)) 45) rfl (wp_push (z := 16) rfl) ?_
  refine wp_P rfl (wp_I (c := ((ni_b4 n / 65536 : Nat) : Int)) (zb_us (a := ni_b4 n) 16 65536 rfl rfl (by omega))) ?_
  refine wp_P rfl wp_add ?_
  refine wp_St rfl rfl rfl ?_
  refine wp_Ld rfl rfl rfl ?_
  refine wp_P (g := ni_gPush (.int (63)) 51) rfl (wp_push (z := 63) rfl) ?_
  refine wp_P rfl (wp_I (c := ((ni_bc n : Nat) : Int)) (zb_and (ni_b4 n + ni_b4 n / 65536) 63)) ?_
  exact wp_R rfl rfl ⟨rfl, rfl⟩
theorem ni_bcB : ((List.range 128).all fun a => (List.range 128).all fun b => Nat.ble (ni_bc (128 * a + b)) 14 && (Nat.beq (128 * a + b) 0 == Nat.beq (ni_bc (128 * a + b)) 0)) = true := by decide +kernel
theorem ni_bcF {n : Nat} (h : n < 16384) : ni_bc n ≤ 14 ∧ (n = 0 ↔ ni_bc n = 0) := by
  have g := List.all_eq_true.mp (List.all_eq_true.mp ni_bcB (n / 128) (List.mem_range.mpr (by omega))) (n % 128) (List.mem_range.mpr (by omega))
  rw [show 128 * (n / 128) + n % 128 = n by omega, Bool.and_eq_true] at g
  refine ⟨Nat.le_of_ble_eq_true g.1, ?_⟩
  have h3 := eq_of_beq g.2
  rw [← Nat.beq_eq, ← Nat.beq_eq, h3]
end MBC
