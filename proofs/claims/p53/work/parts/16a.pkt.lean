/-! METHODS THAT LOOK AT NO HEAP -/
section MPK
variable {xs : List Int32}
theorem zb_m15 {x : Int} (h : 0 ≤ x) : Int32.ofInt x &&& Int32.ofInt 15 = Int32.ofInt (x % 16) := zb_mask 4 h
theorem zb_m63 {x : Int} (h : 0 ≤ x) : Int32.ofInt x &&& Int32.ofInt 63 = Int32.ofInt (x % 64) := zb_mask 6 h
theorem zb_m3 {x : Int} (h : 0 ≤ x) : Int32.ofInt x &&& Int32.ofInt 3 = Int32.ofInt (x % 4) := zb_mask 2 h
theorem zb_m511 {x : Int} (h : 0 ≤ x) : Int32.ofInt x &&& Int32.ofInt 511 = Int32.ofInt (x % 512) := zb_mask 9 h
theorem zb_m31 {x : Int} (h : 0 ≤ x) : Int32.ofInt x &&& Int32.ofInt 31 = Int32.ofInt (x % 32) := zb_mask 5 h
theorem zb_m1 {x : Int} (h : 0 ≤ x) : Int32.ofInt x &&& Int32.ofInt 1 = Int32.ofInt (x % 2) := zb_mask 1 h
theorem zb_s4 {x : Int} (h : ni_R32 x) : Int32.ofInt x >>> (Int32.ofInt 4 &&& 31) = Int32.ofInt (x / 16) := zb_shr (n := 4) h (by omega)
theorem zb_s5 {x : Int} (h : ni_R32 x) : Int32.ofInt x >>> (Int32.ofInt 5 &&& 31) = Int32.ofInt (x / 32) := zb_shr (n := 5) h (by omega)
theorem zb_s10 {x : Int} (h : ni_R32 x) : Int32.ofInt x >>> (Int32.ofInt 10 &&& 31) = Int32.ofInt (x / 1024) := zb_shr (n := 10) h (by omega)
theorem zb_s12 {x : Int} (h : ni_R32 x) : Int32.ofInt x >>> (Int32.ofInt 12 &&& 31) = Int32.ofInt (x / 4096) := zb_shr (n := 12) h (by omega)
theorem zb_s21 {x : Int} (h : ni_R32 x) : Int32.ofInt x >>> (Int32.ofInt 21 &&& 31) = Int32.ofInt (x / 2097152) := zb_shr (n := 21) h (by omega)
theorem zb_l4 {x : Int} : Int32.ofInt x <<< (Int32.ofInt 4 &&& 31) = Int32.ofInt (x * 16) := zb_shl (n := 4) (by omega)
theorem zb_l10 {x : Int} : Int32.ofInt x <<< (Int32.ofInt 10 &&& 31) = Int32.ofInt (x * 1024) := zb_shl (n := 10) (by omega)
theorem zb_l12 {x : Int} : Int32.ofInt x <<< (Int32.ofInt 12 &&& 31) = Int32.ofInt (x * 4096) := zb_shl (n := 12) (by omega)
theorem zb_o {a b : Int} {k : Nat} (m : Int) (hm : m = 2 ^ k) (ha : 0 ≤ a ∧ a < m) (hb : 0 ≤ b) : Int32.ofInt a ||| Int32.ofInt (b * m) = Int32.ofInt (a + b * m) := by
  obtain ⟨a, rfl⟩ := Int.eq_ofNat_of_zero_le ha.1
  obtain ⟨b, rfl⟩ := Int.eq_ofNat_of_zero_le hb
  subst hm
  have h := zb_orA (a := a) (b := b) (k := k) (by exact_mod_cast ha.2)
  rw [show (((b * 2 ^ k : Nat) : Int)) = (b : Int) * 2 ^ k by norm_cast, show (((a + b * 2 ^ k : Nat) : Int)) = (a : Int) + (b : Int) * 2 ^ k by norm_cast] at h
  exact h
theorem mt_classOf {x : Int} (hx : 0 ≤ x ∧ x ≤ 2147483647) : ni_Pu xs 1 98 [ni_z x] (some (ni_z (x / 1024 % 4))) := by
  intro M
  refine wp_enter (Nat.le_of_ble_eq_true rfl) rfl ?_
  refine wp_Ld rfl rfl rfl ?_
  refine wp_P (g := ni_gPush (.int (10)) 3) rfl (wp_push (z := 10) rfl) ?_
  refine wp_P rfl (wp_I (c := x / 1024) (zb_s10 ⟨by omega, by omega⟩)) ?_
  refine wp_P (g := ni_gPush (.int (3)) 5) rfl (wp_push (z := 3) rfl) ?_
  refine wp_P rfl (wp_I (c := x / 1024 % 4) (zb_m3 (by omega))) ?_
  exact wp_R rfl rfl ⟨rfl, rfl⟩
theorem mt_flowOf {x : Int} (hx : 0 ≤ x ∧ x ≤ 2147483647) : ni_Pu xs 1 99 [ni_z x] (some (ni_z (x % 16))) := by
  intro M
  refine wp_enter (Nat.le_of_ble_eq_true rfl) rfl ?_
  refine wp_Ld rfl rfl rfl ?_
  refine wp_P (g := ni_gPush (.int (15)) 3) rfl (wp_push (z := 15) rfl) ?_
  refine wp_P rfl (wp_I (c := x % 16) (zb_m15 (by omega))) ?_
  exact wp_R rfl rfl ⟨rfl, rfl⟩
theorem mt_lifeOf {x : Int} (hx : 0 ≤ x ∧ x ≤ 2147483647) : ni_Pu xs 1 100 [ni_z x] (some (ni_z (x / 2097152))) := by
  intro M
  refine wp_enter (Nat.le_of_ble_eq_true rfl) rfl ?_
  refine wp_Ld rfl rfl rfl ?_
  refine wp_P (g := ni_gPush (.int (21)) 3) rfl (wp_push (z := 21) rfl) ?_
  refine wp_P rfl (wp_I (c := x / 2097152) (zb_s21 ⟨by omega, by omega⟩)) ?_
  exact wp_R rfl rfl ⟨rfl, rfl⟩
theorem mt_numberOf {x : Int} (hx : 0 ≤ x ∧ x ≤ 2147483647) : ni_Pu xs 1 101 [ni_z x] (some (ni_z (x / 16 % 64))) := by
  intro M
  refine wp_enter (Nat.le_of_ble_eq_true rfl) rfl ?_
  refine wp_Ld rfl rfl rfl ?_
  refine wp_P (g := ni_gPush (.int (4)) 2) rfl (wp_push (z := 4) rfl) ?_
  refine wp_P rfl (wp_I (c := x / 16) (zb_s4 ⟨by omega, by omega⟩)) ?_
  refine wp_P (g := ni_gPush (.int (63)) 5) rfl (wp_push (z := 63) rfl) ?_
  refine wp_P rfl (wp_I (c := x / 16 % 64) (zb_m63 (by omega))) ?_
  exact wp_R rfl rfl ⟨rfl, rfl⟩
theorem mt_older {x : Int}  : ni_Pu xs 1 103 [ni_z x] (some (ni_z (x - 2097152))) := by
  intro M
  refine wp_enter (Nat.le_of_ble_eq_true rfl) rfl ?_
  refine wp_Ld rfl rfl rfl ?_
  refine wp_P (g := ni_gPush (.int (2097152)) 3) rfl (wp_push (z := 2097152) rfl) ?_
  refine wp_P rfl wp_sub ?_
  exact wp_R rfl rfl ⟨rfl, rfl⟩
theorem mt_sizeOf {x : Int} (hx : 0 ≤ x ∧ x ≤ 2147483647) : ni_Pu xs 1 104 [ni_z x] (some (ni_z (x / 4096 % 512))) := by
  intro M
  refine wp_enter (Nat.le_of_ble_eq_true rfl) rfl ?_
  refine wp_Ld rfl rfl rfl ?_
  refine wp_P (g := ni_gPush (.int (12)) 3) rfl (wp_push (z := 12) rfl) ?_
  refine wp_P rfl (wp_I (c := x / 4096) (zb_s12 ⟨by omega, by omega⟩)) ?_
  refine wp_P (g := ni_gPush (.int (511)) 7) rfl (wp_push (z := 511) rfl) ?_
  refine wp_P rfl (wp_I (c := x / 4096 % 512) (zb_m511 (by omega))) ?_
  exact wp_R rfl rfl ⟨rfl, rfl⟩
theorem mt_pkOf {f n s c : Int} (hf : 0 ≤ f ∧ f < 16) (hn : 0 ≤ n ∧ n < 64) (hs : 0 ≤ s ∧ s < 512) (hc : 0 ≤ c ∧ c < 4) : ni_Pu xs 1 102 [ni_z f, ni_z n, ni_z s, ni_z c] (some (ni_z (f + n * 16 + c * 1024 + s * 4096 + 12 * 2097152))) := by
  intro M
  refine wp_enter (Nat.le_of_ble_eq_true rfl) rfl ?_
  refine wp_Ld rfl rfl rfl ?_
  refine wp_Ld rfl rfl rfl ?_
  refine wp_P (g := ni_gPush (.int (4)) 3) rfl (wp_push (z := 4) rfl) ?_
  refine wp_P rfl (wp_I (c := n * 16) zb_l4) ?_
  refine wp_P rfl (wp_I (c := f + n * 16) (zb_o (k := 4) 16 rfl (by omega) (by omega))) ?_
  refine wp_Ld rfl rfl rfl ?_
  refine wp_P (g := ni_gPush (.int (10)) 8) rfl (wp_push (z := 10) rfl) ?_
  refine wp_P rfl (wp_I (c := c * 1024) zb_l10) ?_
  refine wp_P rfl (wp_I (c := f + n * 16 + c * 1024) (zb_o (k := 10) 1024 rfl (by omega) (by omega))) ?_
  refine wp_Ld rfl rfl rfl ?_
  refine wp_P (g := ni_gPush (.int (12)) 13) rfl (wp_push (z := 12) rfl) ?_
  refine wp_P rfl (wp_I (c := s * 4096) zb_l12) ?_
  refine wp_P rfl (wp_I (c := f + n * 16 + c * 1024 + s * 4096) (zb_o (k := 12) 4096 rfl (by omega) (by omega))) ?_
  refine wp_P (g := ni_gPush (.int (25165824)) 17) rfl (wp_push (z := 25165824) rfl) ?_
  refine wp_P rfl (wp_I (c := f + n * 16 + c * 1024 + s * 4096 + 12 * 2097152) (zb_o (k := 21) (b := 12) 2097152 rfl (by omega) (by omega))) ?_
  exact wp_R rfl rfl ⟨rfl, rfl⟩
theorem mt_fm {x m : Int} (hx : 0 ≤ x ∧ x ≤ 2147483647) (hm : 0 < m ∧ m ≤ 2147483647) : ni_Pu xs 1 158 [ni_z x, ni_z m] (some (ni_z (x % m))) := by
  intro M
  refine wp_enter (Nat.le_of_ble_eq_true rfl) rfl ?_
  have hm0 : 0 ≤ x % m := Int.emod_nonneg _ (by omega)
  obtain ⟨zx, hz0, hz⟩ : ∃ zx : Int, (0 ≤ zx ∧ zx ≤ 2147483647) ∧ Int32.ofInt x ^^^ Int32.ofInt m = Int32.ofInt zx := by
    obtain ⟨a, ha⟩ := Int.eq_ofNat_of_zero_le hx.1
    obtain ⟨b, hb⟩ := Int.eq_ofNat_of_zero_le (Int.le_of_lt hm.1)
    refine ⟨((a ^^^ b : Nat) : Int), ?_, by rw [ha, hb]; exact zb_xor a b⟩
    have := Nat.xor_lt_two_pow (x := a) (y := b) (n := 31) (by omega) (by omega)
    omega
  refine wp_Ld rfl rfl rfl ?_
  refine wp_Ld rfl rfl rfl ?_
  refine wp_P rfl (wp_I0 (c := x % m) (zi_rem ⟨by omega, by omega⟩ (by omega) (by omega))) ?_
  refine wp_St rfl rfl rfl ?_
  refine wp_Ld rfl rfl rfl ?_
  refine wp_Ld rfl rfl rfl ?_
  refine wp_P rfl (wp_I (c := zx) hz) ?_
  refine wp_If true rfl (zf_ge_t ⟨by omega, by omega⟩ (by omega)) ?_
  refine wp_Ld rfl rfl rfl ?_
  exact wp_R rfl rfl ⟨rfl, rfl⟩
end MPK
