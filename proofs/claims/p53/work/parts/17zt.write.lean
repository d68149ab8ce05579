/-! A LETTER IS WRITTEN -/
section NXW
variable {xs : List Int32} {St : Nat → Option ni_C} {M M' M0 : ni_H} {ad rw cp : Nat → Nat} {A : Nat → Nat → Int}
theorem nx_wrT {a : Nat} {c c' : ni_C} {M2 : ni_H} (h : wp_wr M a c M') (h' : wp_wr M' a c' M2) : wp_wr M a c' M2 := by
  obtain ⟨a1, a2, a3, a4⟩ := h
  obtain ⟨b1, b2, b3, b4⟩ := h'
  exact ⟨b1, fun b hb => by rw [b2 b hb, a2 b hb], by rw [b3, a3], by rw [b4, a4]⟩
theorem mt_touchW {l : Nat} {r : Int} (hr : 0 ≤ r ∧ r ≤ 100) (h0a : 0 ≤ A l 0 ∧ A l 0 ≤ 100) (h1a : 0 ≤ A l 1 ∧ A l 1 ≤ 100) (hs : ni_us l = true) (hk : ni_kd l = 3) (hR : ni_Rep St M ad rw cp A (ni_live A)) : wp_C xs 1 74 [.ref (ad l), ni_z r] M (fun u M' => (∃ b : Int, (b = 0 ∨ b = 1) ∧ u = some (ni_z b)) ∧ M' = M) := by
  have hx : ni_Sx St M ad rw cp M rw cp A (ni_live A) := ⟨hR, ni_KpR⟩
  refine wp_enter (Nat.le_of_ble_eq_true rfl) (ls := [.ref (ad l), ni_z r]) rfl ?_
  refine wp_Ld rfl rfl rfl ?_
  refine wp_Ld rfl rfl rfl ?_
  refine ws_Get (v := ni_z (A l 0)) rfl hx hs hk rfl rfl rfl ?_
  by_cases c : r = A l 0
  · refine wp_Ic true rfl (zc_eq_t ⟨by omega, by omega⟩ ⟨by omega, by omega⟩ c) ?_
    refine wp_P (g := ni_gPush (.int 1) 17) rfl (wp_push (z := 1) rfl) ?_
    refine wp_P (g := ni_gGo 21) rfl rfl ?_
    exact wp_R rfl rfl ⟨⟨1, Or.inr rfl, rfl⟩, rfl⟩
  · refine wp_Ic false rfl (zc_eq_f ⟨by omega, by omega⟩ ⟨by omega, by omega⟩ c) ?_
    refine wp_Ld rfl rfl rfl ?_
    refine wp_Ld rfl rfl rfl ?_
    refine ws_Get (v := ni_z (A l 1)) rfl hx hs hk rfl rfl rfl ?_
    by_cases c2 : r = A l 1
    · refine wp_Ic false rfl (zc_ne_f ⟨by omega, by omega⟩ ⟨by omega, by omega⟩ (by omega)) ?_
      refine wp_P (g := ni_gPush (.int 1) 17) rfl (wp_push (z := 1) rfl) ?_
      refine wp_P (g := ni_gGo 21) rfl rfl ?_
      exact wp_R rfl rfl ⟨⟨1, Or.inr rfl, rfl⟩, rfl⟩
    · refine wp_Ic true rfl (zc_ne_t ⟨by omega, by omega⟩ ⟨by omega, by omega⟩ c2) ?_
      refine wp_P (g := ni_gPush (.int 0) 21) rfl (wp_push (z := 0) rfl) ?_
      exact wp_R rfl rfl ⟨⟨0, Or.inl rfl, rfl⟩, rfl⟩
/-- a letter's own fields -/
theorem mt_ltI {a ca na : Nat} {x0 x1 x2 x3 x4 : Value} {o n s : Int} (ha : M.1[a]? = some (1, [x0, x1, x2, x3, x4])) : wp_C xs 1 59 [.ref a, ni_z o, ni_z n, ni_z s, .ref ca, .ref na] M (fun u M' => u = none ∧ wp_wr M a (1, [ni_z o, ni_z n, ni_z s, .ref ca, .ref na]) M') := by
  refine wp_enter (Nat.le_of_ble_eq_true rfl) (ls := [.ref a, ni_z o, ni_z n, ni_z s, .ref ca, .ref na]) rfl ?_
  refine wp_Ld rfl rfl rfl ?_
  refine wp_P (g := ni_gObj 4) rfl rfl ?_
  refine wp_Ld rfl rfl rfl ?_
  refine wp_Ld rfl rfl rfl ?_
  refine wp_Put rfl ha (by simp) rfl rfl fun M1 w1 => ?_
  refine wp_Ld rfl rfl rfl ?_
  refine wp_Ld rfl rfl rfl ?_
  refine wp_Put rfl w1.1 (by simp) rfl rfl fun M2 w2 => ?_
  refine wp_Ld rfl rfl rfl ?_
  refine wp_Ld rfl rfl rfl ?_
  refine wp_Put rfl w2.1 (by simp) rfl rfl fun M3 w3 => ?_
  refine wp_Ld rfl rfl rfl ?_
  refine wp_Ld rfl rfl rfl ?_
  refine wp_Put rfl w3.1 (by simp) ni_fitR rfl fun M4 w4 => ?_
  refine wp_Ld rfl rfl rfl ?_
  refine wp_Ld rfl rfl rfl ?_
  refine wp_Put rfl w4.1 (by simp) ni_fitR rfl fun M5 w5 => ?_
  exact wp_Rv rfl rfl ⟨rfl, nx_wrT (nx_wrT (nx_wrT (nx_wrT w1 w2) w3) w4) w5⟩
/-- costs, as far as the links' set tells -/
def nx_cs (s : Nat) (vs : List Value) : Prop := vs.length = 14 ∧ ∀ k : Nat, k < 14 → ∃ c : Int, vs[k]? = some (ni_z c) ∧ 0 ≤ c ∧ c ≤ 50 ∧ (s / 2 ^ k % 2 = 1 → 1 ≤ c)
theorem nx_bit {s i k : Nat} (hs : s < 2 ^ i) (hk : k ≠ i) (h : (s + 1 * 2 ^ i) / 2 ^ k % 2 = 1) : s / 2 ^ k % 2 = 1 := by
  by_cases c : k < i
  · have e : 2 ^ i = 2 ^ k * (2 * 2 ^ (i - k - 1)) := by
      rw [← Nat.pow_succ', ← Nat.pow_add]
      congr 1
      omega
    rw [Nat.one_mul, e, Nat.add_mul_div_left _ _ (Nat.two_pow_pos k)] at h
    omega
  · have e : s + 1 * 2 ^ i < 2 ^ k := by
      have := Nat.pow_le_pow_right (show 0 < 2 by decide) (show i + 1 ≤ k by omega)
      rw [Nat.pow_succ] at this
      omega
    rw [Nat.div_eq_of_lt e] at h
    omega
theorem nx_csS {s i : Nat} {vs : List Value} {c : Int} (hs : s < 2 ^ i) (h : nx_cs s vs) (hi : i < 14) (hc : 1 ≤ c ∧ c ≤ 50) : nx_cs (s + 1 * 2 ^ i) (vs.set i (ni_z c)) := by
  obtain ⟨h1, h2⟩ := h
  refine ⟨by simp [h1], fun k hk => ?_⟩
  by_cases e : k = i
  · subst e
    exact ⟨c, List.getElem?_set_self (by omega), by omega, hc.2, fun _ => hc.1⟩
  · obtain ⟨c', g1, g2, g3, g4⟩ := h2 k hk
    refine ⟨c', ?_, g2, g3, fun z => g4 (nx_bit hs e z)⟩
    rw [List.getElem?_set_ne (fun z => e z.symm)]
    exact g1
/-- the costs of links -/
def nq_CO (A : Nat → Nat → Int) : Prop := ∀ l : Nat, l < 14 → (l : Int) < A 0 2 → 1 ≤ A (48 + 17 * l) 2 ∧ A (48 + 17 * l) 2 ≤ 50
theorem mt_wlL {n r : Nat} {Q : Option Value → ni_H → Prop} (hR : ni_Rep St M0 ad rw cp A (ni_live A)) (hb : M0.1.length + 57345 ≤ 900000 + ni_gz cp) (hLB : ni_LB A) (hCO : nq_CO A) (hn : A 0 2 = n) (hn14 : n ≤ 14) (hr : r < 8) (hk : ∀ (s : Nat) (M : ni_H) (vs : List Value), s < 16384 → nx_mo M0 M (100, vs) → nx_cs s vs → wp_G xs 5 97 82 [.ref (ad 0), ni_z (r : Int), .ref (ad (286 + 11 * r)), ni_z (s : Int), .ref M0.1.length, ni_z (n : Int), ni_J] [] M Q) : ∀ k i s : Nat, i + k = n → s < 2 ^ i → ∀ M vs, nx_mo M0 M (100, vs) → nx_cs s vs → wp_G xs 5 97 18 [.ref (ad 0), ni_z (r : Int), .ref (ad (286 + 11 * r)), ni_z (s : Int), .ref M0.1.length, ni_z (i : Int), ni_J] [] M Q := by
  intro k
  induction k with
  | zero =>
    intro i s hi hs M vs hm hc
    have hx1 : ni_Sx St M ad rw cp M rw cp A (ni_live A) := ⟨nx_moR hR hm hb, ni_KpR⟩
    have hin : i = n := by omega
    subst hin
    refine wp_Ld rfl rfl rfl ?_
    refine wp_Ld rfl rfl rfl ?_
    refine ws_Get (v := ni_z (A 0 2)) rfl hx1 (show ni_us 0 = true by decide +kernel) (show ni_kd 0 = 4 by decide +kernel) rfl rfl rfl ?_
    refine wp_Ic true rfl (zc_ge_t ⟨by omega, by omega⟩ ⟨by omega, by omega⟩ (by omega)) ?_
    have h14 := Nat.pow_le_pow_right (show 0 < 2 by decide) hn14
    exact hk s M vs (Nat.lt_of_lt_of_le hs h14) hm hc
  | succ k ih =>
    intro i s hi hs M vs hm hc
    have hx1 : ni_Sx St M ad rw cp M rw cp A (ni_live A) := ⟨nx_moR hR hm hb, ni_KpR⟩
    have hl := hLB i (by omega)
    have hco := hCO i (by omega) (by omega)
    have hli := ni_liS i (by omega)
    have hp2 : 2 ^ (i + 1) = 2 * 2 ^ i := by rw [Nat.pow_succ, Nat.mul_comm]
    refine wp_Ld rfl rfl rfl ?_
    refine wp_Ld rfl rfl rfl ?_
    refine ws_Get (v := ni_z (A 0 2)) rfl hx1 (show ni_us 0 = true by decide +kernel) (show ni_kd 0 = 4 by decide +kernel) rfl rfl rfl ?_
    refine wp_Ic false rfl (zc_ge_f ⟨by omega, by omega⟩ ⟨by omega, by omega⟩ (by omega)) ?_
    refine wp_Ld rfl rfl rfl ?_
    refine ws_Get (v := .ref (ad 2)) rfl hx1 (show ni_us 0 = true by decide +kernel) (show ni_kd 0 = 4 by decide +kernel) rfl rfl rfl ?_
    refine wp_Ld rfl rfl rfl ?_
    refine ws_Qld (q := 34) (y := 97) (pc := 33) (s := 2) (n := 14) (t := 102) (j := i) (v := .ref (ad (48 + 17 * i))) rfl hx1 (show ni_us 2 = true by decide +kernel) (show ni_kd 2 = 102 by decide +kernel) (show ni_ln 2 = 14 by decide +kernel) ⟨by decide, rfl⟩ rfl (by omega) (by decide) (ni_LR hx1 (show ni_us 2 = true by decide +kernel) (by decide +kernel) (by omega)) rfl rfl ?_
    refine ws_Get (v := ni_z (A (48 + 17 * i) 5)) rfl hx1 hli.1 hli.2 rfl rfl rfl ?_
    have hne : wp_G xs 5 97 76 [.ref (ad 0), ni_z (r : Int), .ref (ad (286 + 11 * r)), ni_z (s : Int), .ref M0.1.length, ni_z (i : Int), ni_J] [] M Q := by
      refine wp_Inc (ls' := [.ref (ad 0), ni_z (r : Int), .ref (ad (286 + 11 * r)), ni_z (s : Int), .ref M0.1.length, ni_z ((i : Int) + 1), ni_J]) rfl rfl (zi_inc (z := 1) rfl) rfl ?_
      refine wp_P (g := ni_gGo 18) rfl rfl ?_
      exact ih (i + 1) s (by omega) (by omega) M vs hm hc
    by_cases c1 : A (48 + 17 * i) 5 = 0
    · refine wp_If true rfl (zf_eq_t ⟨by omega, by omega⟩ c1) ?_
      exact hne
    · refine wp_If false rfl (zf_eq_f ⟨by omega, by omega⟩ c1) ?_
      refine wp_Ld rfl rfl rfl ?_
      refine ws_Get (v := .ref (ad 2)) rfl hx1 (show ni_us 0 = true by decide +kernel) (show ni_kd 0 = 4 by decide +kernel) rfl rfl rfl ?_
      refine wp_Ld rfl rfl rfl ?_
      refine ws_Qld (q := 47) (y := 97) (pc := 46) (s := 2) (n := 14) (t := 102) (j := i) (v := .ref (ad (48 + 17 * i))) rfl hx1 (show ni_us 2 = true by decide +kernel) (show ni_kd 2 = 102 by decide +kernel) (show ni_ln 2 = 14 by decide +kernel) ⟨by decide, rfl⟩ rfl (by omega) (by decide) (ni_LR hx1 (show ni_us 2 = true by decide +kernel) (by decide +kernel) (by omega)) rfl rfl ?_
      refine wp_Ld rfl rfl rfl ?_
      obtain ⟨lv, lw1⟩ := nx_cell hx1.1 hli.1 hli.2 rfl
      refine wp_V (r := []) (as := [ni_z (r : Int)]) rfl rfl rfl lw1 (Nat.le_of_ble_eq_true rfl) (wp_up (mt_touchW (by omega) (by omega) (by omega) hli.1 hli.2 hx1.1) (by decide)) ?_
      rintro u M2 ⟨⟨b, hb01, hu⟩, hM2⟩
      subst hM2
      rw [hu]
      by_cases c2 : b = 0
      · refine wp_If true rfl (zf_eq_t ⟨by omega, by omega⟩ c2) ?_
        exact hne
      · refine wp_If false rfl (zf_eq_f ⟨by omega, by omega⟩ c2) ?_
        refine wp_Ld rfl rfl rfl ?_
        refine wp_P (g := ni_gPush (.int 1) 56) rfl (wp_push (z := 1) rfl) ?_
        refine wp_Ld rfl rfl rfl ?_
        refine wp_P rfl (wp_I (c := ((1 * 2 ^ i : Nat) : Int)) ?_) ?_
        · rw [zb_shl (by omega)]
          congr 1
        refine wp_P rfl (wp_I (c := ((s + 1 * 2 ^ i : Nat) : Int)) (zb_orA hs)) ?_
        refine wp_St (ls' := [.ref (ad 0), ni_z (r : Int), .ref (ad (286 + 11 * r)), ni_z ((s + 1 * 2 ^ i : Nat) : Int), .ref M0.1.length, ni_z (i : Int), ni_J]) rfl rfl rfl ?_
        refine wp_Ld rfl rfl rfl ?_
        refine wp_Ld rfl rfl rfl ?_
        refine wp_Ld rfl rfl rfl ?_
        refine ws_Get (v := .ref (ad 2)) rfl hx1 (show ni_us 0 = true by decide +kernel) (show ni_kd 0 = 4 by decide +kernel) rfl rfl rfl ?_
        refine wp_Ld rfl rfl rfl ?_
        refine ws_Qld (q := 72) (y := 97) (pc := 71) (s := 2) (n := 14) (t := 102) (j := i) (v := .ref (ad (48 + 17 * i))) rfl hx1 (show ni_us 2 = true by decide +kernel) (show ni_kd 2 = 102 by decide +kernel) (show ni_ln 2 = 14 by decide +kernel) ⟨by decide, rfl⟩ rfl (by omega) (by decide) (ni_LR hx1 (show ni_us 2 = true by decide +kernel) (by decide +kernel) (by omega)) rfl rfl ?_
        refine ws_Get (v := ni_z (A (48 + 17 * i) 2)) rfl hx1 hli.1 hli.2 rfl rfl rfl ?_
        have hzi := ni_clZ (x := (i : Int)) (by omega)
        refine wp_Ast (q := 76) (y := 97) (pc := 75) rfl hm.2.2.2.1 ⟨by decide, rfl, hzi.1, by rw [hzi.2, Int.toNat_natCast]; have := hc.1; omega, rfl, rfl⟩ rfl fun M3 w2 => ?_
        rw [hzi.2, Int.toNat_natCast] at w2
        refine wp_Inc (ls' := [.ref (ad 0), ni_z (r : Int), .ref (ad (286 + 11 * r)), ni_z ((s + 1 * 2 ^ i : Nat) : Int), .ref M0.1.length, ni_z ((i : Int) + 1), ni_J]) rfl rfl (zi_inc (z := 1) rfl) rfl ?_
        refine wp_P (g := ni_gGo 18) rfl rfl ?_
        exact ih (i + 1) (s + 1 * 2 ^ i) (by omega) (by omega) M3 _ (nx_moW hm w2 (by simp)) (nx_csS hs hc (by omega) hco)
end NXW
