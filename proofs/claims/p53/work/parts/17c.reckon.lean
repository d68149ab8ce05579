/-! A ROUTER RECKONS -/
section NRK
variable {Z : (Nat → Nat) → Prop} {xs : List Int32} {St : Nat → Option ni_C} {A : Nat → Nat → Int}
theorem E_VS {d y pc q : Nat} {ls st : List ni_a} {A : Nat → Nat → Int} {L : Nat → Nat} {P : Option ni_a → (Nat → Nat → Int) → Prop} {y' nn ci b : Nat} {vs : List Value} {r as : List ni_a} {v : (Nat → Nat) → Option Value} {w : Option ni_a} {asf : (Nat → Nat) → List Value} {A2 : Nat → Nat → Int} (hp : ni_prog xs y pc = ni_sV y' nn ci q) (hd : st.drop nn = ni_aL b :: r) (ht : (st.take nn).reverse = as) (hb : St b = some (ci, vs)) (hc : r.length ≤ 4) (hl : ∀ ad rw rw' : Nat → Nat, (ls ++ r).map (ni_dn ad rw) = (ls ++ r).map (ni_dn ad rw')) (hD : ni_Dc xs St d y' asf A v A2) (has : ∀ ad rw, asf ad = .ref b :: as.map (ni_dn ad rw)) (hw : ∀ ad rw, v ad = w.map (ni_dn ad rw)) (k : ni_E xs St Z d y q ls (w.toList ++ r) A2 (ni_live A2) P) : ni_E xs St Z d y pc ls st A L P := by
  refine E_pre (fun M0 ad _ _ M rw cp _ _ h c k => ?_) k
  have hr := hD M ad rw cp (ni_RepC h.1 c)
  rw [has ad rw] at hr
  refine wp_V (r := r.map (ni_dn ad rw)) (as := as.map (ni_dn ad rw)) hp ?_ ?_ (h.1.2.2.2.2.1 b _ hb).1 (ni_csZ ad rw r hc) hr ?_
  · rw [← List.map_drop, hd]
    rfl
  · rw [← List.map_take, ← List.map_reverse, ht]
  · rintro u M' ⟨hu, rw', cp', hR, hK⟩
    rw [hu]
    have g := k M' rw' cp' ⟨hR, ni_KpT h.2 hK⟩ (ni_clR A2)
    have e := hl ad rw rw'
    rw [List.map_append, List.map_append] at e
    obtain ⟨e1, e2⟩ := List.append_inj e (by rw [List.length_map, List.length_map])
    rw [e1, e2, hw ad rw']
    rw [List.map_append] at g
    have e3 : (w.map (ni_dn ad rw')).toList = w.toList.map (ni_dn ad rw') := by cases w <;> rfl
    rw [e3]
    exact g
/-- a letter as it was written -/
def ni_LW (St : Nat → Option ni_C) (b : Nat) : Prop := ∃ (o n s : Int) (ca na : Nat) (cs ns : List Value), St b = some (1, [ni_z o, ni_z n, ni_z s, .ref ca, .ref na]) ∧ (0 ≤ o ∧ o < 8) ∧ (0 ≤ n ∧ n ≤ 1000000) ∧ (0 ≤ s ∧ s < 16384) ∧ St ca = some (100, cs) ∧ (∀ k : Nat, k < 14 → ∃ c : Int, cs[k]? = some (ni_z c) ∧ 0 ≤ c ∧ c ≤ 50 ∧ (s / 2 ^ k % 2 = 1 → 1 ≤ c)) ∧ St na = some (100, ns) ∧ ns.length ≤ 24 ∧ ∀ i : Nat, i < ns.length → ∃ c : Int, ns[i]? = some (ni_z c) ∧ 0 ≤ c ∧ c < 2097152 ∧ c % 32 ≤ 16
/-- distances and first links go together -/
def ni_rd (r o : Nat) (D a b : Int) : Prop := (o = r → a = 0 ∧ b = 0) ∧ (o ≠ r → (a = -1 ∧ b = 0) ∨ (0 < a ∧ a ≤ D ∧ 0 < b ∧ b < 16384))
def ni_RD (A : Nat → Nat → Int) (s r : Nat) (D : Int) : Prop := A s 0 = r ∧ ∀ o : Nat, o < 8 → ni_rd r o D (A (s + 5) o) (A (s + 6) o)
/-- distances and first links alone are others -/
def ni_fr56 (A A' : Nat → Nat → Int) (s : Nat) : Prop := ∀ s' j, s' ≠ s + 5 → s' ≠ s + 6 → A' s' j = A s' j
theorem ni_fr56r {A : Nat → Nat → Int} {s : Nat} : ni_fr56 A A s := fun _ _ _ _ => rfl
theorem ni_fr56t {A A' A2 : Nat → Nat → Int} {s : Nat} (h : ni_fr56 A A' s) (h' : ni_fr56 A' A2 s) : ni_fr56 A A2 s := fun s' j h1 h2 => (h' s' j h1 h2).trans (h s' j h1 h2)
theorem ni_ctR : ∀ r : Nat, r < 8 → ni_ct (286 + 11 * r + 4) = (998, r) := by decide +kernel
theorem ni_rdM {r o : Nat} {D D' a b : Int} (h : ni_rd r o D a b) (hd : D ≤ D') : ni_rd r o D' a b := ⟨h.1, fun g => (h.2 g).elim Or.inl (fun z => Or.inr ⟨z.1, Int.le_trans z.2.1 hd, z.2.2⟩)⟩
theorem ni_RDm {A : Nat → Nat → Int} {s r : Nat} {D D' : Int} (h : ni_RD A s r D) (hd : D ≤ D') : ni_RD A s r D' := ⟨h.1, fun o ho => ni_rdM (h.2 o ho) hd⟩
theorem ni_rdSet {A : Nat → Nat → Int} {s r t : Nat} {D x b : Int} (h : ni_RD A s r D) (ht : t ≠ r) (hx : 0 < x ∧ x ≤ D + 50) (hb : 0 < b ∧ b < 16384) : ni_RD (ni_u2 (ni_u2 A (s + 5) t x) (s + 6) t b) s r (D + 50) := by
  refine ⟨by rw [ni_u2n (by omega), ni_u2n (by omega)]; exact h.1, fun o ho => ?_⟩
  by_cases e : o = t
  · subst e
    rw [ni_u2n (by omega), ni_u2e, ni_u2e]
    exact ⟨fun z => absurd z ht, fun _ => Or.inr ⟨hx.1, hx.2, hb⟩⟩
  · rw [ni_u2n (by omega), ni_u2n (by omega), ni_u2n (by omega), ni_u2n (by omega)]
    exact ni_rdM (h.2 o ho) (by omega)
theorem ni_rdOr {A : Nat → Nat → Int} {s r t : Nat} {D b : Int} (h : ni_RD A s r D) (ht8 : t < 8) (ht : t ≠ r) (hx : 0 < A (s + 5) t) (hb : 0 < b ∧ b < 16384) : ni_RD (ni_u2 A (s + 6) t b) s r (D + 50) := by
  refine ⟨by rw [ni_u2n (by omega)]; exact h.1, fun o ho => ?_⟩
  by_cases e : o = t
  · subst e
    rw [ni_u2n (by omega), ni_u2e]
    refine ⟨fun z => absurd z ht, fun _ => Or.inr ⟨hx, ?_, hb⟩⟩
    have := (h.2 o ho).2 ht
    omega
  · rw [ni_u2n (by omega), ni_u2n (by omega)]
    exact ni_rdM (h.2 o ho) (by omega)
theorem ni_or14 {a b : Int} (ha : 0 ≤ a ∧ a < 16384) (hb : 0 < b ∧ b < 16384) : ∃ c : Int, Int32.ofInt a ||| Int32.ofInt b = Int32.ofInt c ∧ 0 < c ∧ c < 16384 := by
  obtain ⟨m, rfl⟩ := Int.eq_ofNat_of_zero_le ha.1
  obtain ⟨n, rfl⟩ := Int.eq_ofNat_of_zero_le (Int.le_of_lt hb.1)
  refine ⟨((m ||| n : Nat) : Int), zb_or m n, ?_, ?_⟩
  · have : n ≤ m ||| n := Nat.right_le_or
    omega
  · have : m ||| n < 2 ^ 14 := Nat.or_lt_two_pow (by omega) (by omega)
    have e : (2 : Nat) ^ 14 = 16384 := rfl
    omega
theorem ni_sh14 : ∀ k : Nat, k < 14 → 0 < 2 ^ k ∧ 2 ^ k < 16384 := by decide +kernel
theorem ni_sh1 {k : Nat} (hk : k < 14) : ∃ c : Int, Int32.ofInt 1 <<< (Int32.ofInt (k : Int) &&& 31) = Int32.ofInt c ∧ 0 < c ∧ c < 16384 := by
  refine ⟨((2 ^ k : Nat) : Int), ?_, ?_, ?_⟩
  · rw [zb_shl (by omega), Int.one_mul]
    norm_cast
  · have := (ni_sh14 k hk).1
    omega
  · have := (ni_sh14 k hk).2
    omega
theorem mt_other {l : Nat} {r : Int} (hr : 0 ≤ r ∧ r ≤ 100) (h0a : 0 ≤ A l 0 ∧ A l 0 < 8) (h1a : 0 ≤ A l 1 ∧ A l 1 < 8) (hs : ni_us l = true) (hk : ni_kd l = 3) : ∃ v : Nat, v < 8 ∧ ni_Dc xs St 1 72 (fun ad => [.ref (ad l), ni_z r]) A (fun _ => some (ni_z (v : Int))) A := by
  obtain ⟨a, ha⟩ := Int.eq_ofNat_of_zero_le h0a.1
  obtain ⟨b, hb⟩ := Int.eq_ofNat_of_zero_le h1a.1
  by_cases h : r = A l 0
  · have g := mt_other1 (xs := xs) (St := St) hr (by omega) (by omega) h hs hk
    rw [hb] at g
    exact ⟨b, by omega, g⟩
  · have g := mt_other0 (xs := xs) (St := St) hr (by omega) (by omega) h hs hk
    rw [ha] at g
    exact ⟨a, by omega, g⟩
theorem mt_nearL {s : Nat} {dn : Int} (hs : ni_us s = true) (hk : ni_kd s = 7) (hR : ∀ o : Nat, o < 8 → -1 ≤ A (s + 5) o ∧ A (s + 5) o ≤ 1000000) : ∀ k i : Nat, i + k = 8 → ∀ (best : Int) (w4 : Value), (best = -1 ∨ (0 ≤ best ∧ best < 8 ∧ ¬ A (s + 5) best.toNat = -1)) → ni_E xs St Z 0 138 4 [ni_aP (s), ni_aI (dn), ni_aI (best), ni_aI ((i : Int)), .inl w4] [] A (ni_live A) (fun v A' => ∃ b : Int, v = some (ni_aI b) ∧ A' = A ∧ (b = -1 ∨ (0 ≤ b ∧ b < 8 ∧ ¬ A (s + 5) b.toNat = -1))) := by
  have h374 := (ni_usT hs).1
  intro k
  induction k with
  | zero =>
    intro i hi best w4 hb
    refine E_Ld (q := 5) rfl rfl (fun _ _ => rfl) ?_
    refine E_push (q := 7) (c := 8) (z := 8) rfl rfl ?_
    refine E_Ic true rfl (zc_ge_t ⟨by omega, by omega⟩ ⟨by omega, by omega⟩ (by omega)) ?_
    refine E_Ld (q := 69) rfl rfl (fun _ _ => rfl) ?_
    refine E_R rfl (fun _ _ => rfl) (fun _ _ => rfl) ?_
    exact ⟨best, rfl, rfl, hb⟩
  | succ k ih =>
    intro i hi best w4 hb
    have hRi := hR i (by omega)
    have hRb := fun h => hR best.toNat h
    obtain ⟨c1, h1, g1⟩ := zi_ex (Int32.ofInt dn >>> (Int32.ofInt (i : Int) &&& 31))
    obtain ⟨c2, h2, q1, q2⟩ := zi_ex (Int32.ofInt c1 &&& Int32.ofInt 1)
    refine E_Ld (q := 5) rfl rfl (fun _ _ => rfl) ?_
    refine E_push (q := 7) (c := 8) (z := 8) rfl rfl ?_
    refine E_Ic false rfl (zc_ge_f ⟨by omega, by omega⟩ ⟨by omega, by omega⟩ (by omega)) ?_
    refine E_Ld (q := 11) rfl rfl (fun _ _ => rfl) ?_
    refine E_Ld (q := 12) rfl rfl (fun _ _ => rfl) ?_
    refine E_I (q := 13) (c := c1) rfl h1 ?_
    refine E_push (q := 14) (c := 1) (z := 1) rfl rfl ?_
    refine E_I (q := 15) (c := c2) rfl h2 ?_
    by_cases g15 : ¬ c2 = 0
    · refine E_If true rfl (zf_ne_t ⟨by omega, by omega⟩ g15) ?_
      refine E_push (q := 33) (c := 0) (z := 0) rfl rfl ?_
      refine E_St (q := 35) (ls' := [ni_aP (s), ni_aI (dn), ni_aI (best), ni_aI ((i : Int)), ni_aI (0)]) rfl (fun _ _ => rfl) (fun _ _ => rfl) ?_
      refine E_Ld (q := 37) rfl rfl (fun _ _ => rfl) ?_
      refine E_If true rfl (zf_eq_t ⟨by omega, by omega⟩ (by omega)) ?_
      refine E_Inc (q := 65) (ls' := [ni_aP (s), ni_aI (dn), ni_aI (best), ni_aI ((i : Int) + 1), ni_aI (0)]) (z := 1) rfl rfl rfl (fun _ _ => rfl) ?_
      refine E_Go (q := 4) rfl ?_
      exact ih (i + 1) (by omega) best _ hb
    · refine E_If false rfl (zf_ne_f ⟨by omega, by omega⟩ g15) ?_
      refine E_Ld (q := 19) rfl rfl (fun _ _ => rfl) ?_
      refine E_Get (q := 22) (v := ni_aP (s + 5)) rfl hs hk rfl rfl (fun _ _ => rfl) ?_
      refine E_Ld (q := 23) rfl rfl (fun _ _ => rfl) ?_
      refine E_Ald (q := 24) (j := i) (e := A (s + 5) (i)) rfl (ni_o7_5 hs hk).1 (ni_o7_5 hs hk).2.1 (ni_o7_5 hs hk).2.2.1 rfl (by omega) (by decide) (ni_L9 (ni_o7_5 hs hk).1 (ni_o7_5 hs hk).2.2.2 (by omega)) (fun _ _ => rfl) ?_
      refine E_push (q := 25) (c := -1) (z := -1) rfl rfl ?_
      by_cases g25 : (A (s + 5) (i)) = ((-1))
      · refine E_Ic true rfl (zc_eq_t ⟨by omega, by omega⟩ ⟨by omega, by omega⟩ g25) ?_
        refine E_push (q := 33) (c := 0) (z := 0) rfl rfl ?_
        refine E_St (q := 35) (ls' := [ni_aP (s), ni_aI (dn), ni_aI (best), ni_aI ((i : Int)), ni_aI (0)]) rfl (fun _ _ => rfl) (fun _ _ => rfl) ?_
        refine E_Ld (q := 37) rfl rfl (fun _ _ => rfl) ?_
        refine E_If true rfl (zf_eq_t ⟨by omega, by omega⟩ (by omega)) ?_
        refine E_Inc (q := 65) (ls' := [ni_aP (s), ni_aI (dn), ni_aI (best), ni_aI ((i : Int) + 1), ni_aI (0)]) (z := 1) rfl rfl rfl (fun _ _ => rfl) ?_
        refine E_Go (q := 4) rfl ?_
        exact ih (i + 1) (by omega) best _ hb
      · refine E_Ic false rfl (zc_eq_f ⟨by omega, by omega⟩ ⟨by omega, by omega⟩ g25) ?_
        refine E_push (q := 29) (c := 1) (z := 1) rfl rfl ?_
        refine E_Go (q := 33) rfl ?_
        refine E_St (q := 35) (ls' := [ni_aP (s), ni_aI (dn), ni_aI (best), ni_aI ((i : Int)), ni_aI (1)]) rfl (fun _ _ => rfl) (fun _ _ => rfl) ?_
        refine E_Ld (q := 37) rfl rfl (fun _ _ => rfl) ?_
        refine E_If false rfl (zf_eq_f ⟨by omega, by omega⟩ (by omega)) ?_
        refine E_Ld (q := 41) rfl rfl (fun _ _ => rfl) ?_
        refine E_push (q := 42) (c := -1) (z := -1) rfl rfl ?_
        by_cases g42 : best = ((-1))
        · refine E_Ic true rfl (zc_eq_t ⟨by omega, by omega⟩ ⟨by omega, by omega⟩ g42) ?_
          refine E_Ld (q := 61) rfl rfl (fun _ _ => rfl) ?_
          refine E_St (q := 62) (ls' := [ni_aP (s), ni_aI (dn), ni_aI ((i : Int)), ni_aI ((i : Int)), ni_aI (1)]) rfl (fun _ _ => rfl) (fun _ _ => rfl) ?_
          refine E_Inc (q := 65) (ls' := [ni_aP (s), ni_aI (dn), ni_aI ((i : Int)), ni_aI ((i : Int) + 1), ni_aI (1)]) (z := 1) rfl rfl rfl (fun _ _ => rfl) ?_
          refine E_Go (q := 4) rfl ?_
          exact ih (i + 1) (by omega) (i : Int) _ (Or.inr ⟨by omega, by omega, by rw [Int.toNat_natCast]; omega⟩)
        · refine E_Ic false rfl (zc_eq_f ⟨by omega, by omega⟩ ⟨by omega, by omega⟩ g42) ?_
          refine E_Ld (q := 46) rfl rfl (fun _ _ => rfl) ?_
          refine E_Get (q := 49) (v := ni_aP (s + 5)) rfl hs hk rfl rfl (fun _ _ => rfl) ?_
          refine E_Ld (q := 50) rfl rfl (fun _ _ => rfl) ?_
          refine E_Ald (q := 51) (j := i) (e := A (s + 5) (i)) rfl (ni_o7_5 hs hk).1 (ni_o7_5 hs hk).2.1 (ni_o7_5 hs hk).2.2.1 rfl (by omega) (by decide) (ni_L9 (ni_o7_5 hs hk).1 (ni_o7_5 hs hk).2.2.2 (by omega)) (fun _ _ => rfl) ?_
          refine E_Ld (q := 52) rfl rfl (fun _ _ => rfl) ?_
          refine E_Get (q := 55) (v := ni_aP (s + 5)) rfl hs hk rfl rfl (fun _ _ => rfl) ?_
          refine E_Ld (q := 56) rfl rfl (fun _ _ => rfl) ?_
          refine E_Ald (q := 57) (j := (best).toNat) (e := A (s + 5) ((best).toNat)) rfl (ni_o7_5 hs hk).1 (ni_o7_5 hs hk).2.1 (ni_o7_5 hs hk).2.2.1 (by omega) (by omega) (by decide) (ni_L9 (ni_o7_5 hs hk).1 (ni_o7_5 hs hk).2.2.2 (by omega)) (fun _ _ => rfl) ?_
          by_cases g57 : (A (s + 5) ((best).toNat)) ≤ (A (s + 5) (i))
          · refine E_Ic true rfl (zc_ge_t ⟨by omega, by omega⟩ ⟨by omega, by omega⟩ g57) ?_
            refine E_Inc (q := 65) (ls' := [ni_aP (s), ni_aI (dn), ni_aI (best), ni_aI ((i : Int) + 1), ni_aI (1)]) (z := 1) rfl rfl rfl (fun _ _ => rfl) ?_
            refine E_Go (q := 4) rfl ?_
            exact ih (i + 1) (by omega) best _ hb
          · refine E_Ic false rfl (zc_ge_f ⟨by omega, by omega⟩ ⟨by omega, by omega⟩ g57) ?_
            refine E_Ld (q := 61) rfl rfl (fun _ _ => rfl) ?_
            refine E_St (q := 62) (ls' := [ni_aP (s), ni_aI (dn), ni_aI ((i : Int)), ni_aI ((i : Int)), ni_aI (1)]) rfl (fun _ _ => rfl) (fun _ _ => rfl) ?_
            refine E_Inc (q := 65) (ls' := [ni_aP (s), ni_aI (dn), ni_aI ((i : Int)), ni_aI ((i : Int) + 1), ni_aI (1)]) (z := 1) rfl rfl rfl (fun _ _ => rfl) ?_
            refine E_Go (q := 4) rfl ?_
            exact ih (i + 1) (by omega) (i : Int) _ (Or.inr ⟨by omega, by omega, by rw [Int.toNat_natCast]; omega⟩)
theorem mt_near {s : Nat} {dn : Int} (hs : ni_us s = true) (hk : ni_kd s = 7) (hR : ∀ o : Nat, o < 8 → -1 ≤ A (s + 5) o ∧ A (s + 5) o ≤ 1000000) : ni_M xs St 1 138 [ni_aP s, ni_aI dn] A (fun v A' => ∃ b : Int, v = some (ni_aI b) ∧ A' = A ∧ (b = -1 ∨ (0 ≤ b ∧ b < 8 ∧ ¬ A (s + 5) b.toNat = -1))) := by
  have g := mt_nearL (Z := fun _ => True) (xs := xs) (St := St) (dn := dn) hs hk hR 8 0 (by omega) (-1) ni_J (Or.inl rfl)
  refine ni_Min (ls := [ni_aP (s), ni_aI (dn), .inl ni_J, .inl ni_J, .inl ni_J]) (fun _ => Nat.le_of_ble_eq_true rfl) (fun _ _ => rfl) ?_
  refine E_push (q := 1) (c := -1) (z := -1) rfl rfl ?_
  refine E_St (q := 2) (ls' := [ni_aP (s), ni_aI (dn), ni_aI ((-1)), .inl ni_J, .inl ni_J]) rfl (fun _ _ => rfl) (fun _ _ => rfl) ?_
  refine E_push (q := 3) (c := 0) (z := 0) rfl rfl ?_
  refine E_St (q := 4) (ls' := [ni_aP (s), ni_aI (dn), ni_aI ((-1)), ni_aI (0), .inl ni_J]) rfl (fun _ _ => rfl) (fun _ _ => rfl) ?_
  exact g
theorem mt_goOn {s r f k t : Nat} {D o1 n1 s1 o2 n2 s2 c : Int} {ca1 na1 ca2 na2 : Nat} {cs1 : List Value} (hs : ni_us s = true) (hk : ni_kd s = 7) (hr8 : r < 8) (hct : ni_ct (s + 4) = (998, r)) (hrc : (r : Int) < A 0 1) (hf : f < 8) (ht : t < 8) (hkk : k < 14) (hRD : ni_RD A s r D) (hD : 0 ≤ D ∧ D ≤ 100000) (hfd : ¬ A (s + 5) f = -1) (hbf : St (A (s + 4) f).toNat = some (1, [ni_z o1, ni_z n1, ni_z s1, .ref ca1, .ref na1])) (hca : St ca1 = some (100, cs1)) (hcs : cs1[k]? = some (ni_z c)) (hc : 1 ≤ c ∧ c ≤ 50) (hbt : St (A (s + 4) t).toNat = some (1, [ni_z o2, ni_z n2, ni_z s2, .ref ca2, .ref na2])) (hs2 : 0 ≤ s2 ∧ s2 < 16384) : ni_M xs St 2 136 [ni_aP s, ni_aI (f : Int), ni_aI (k : Int), ni_aI (t : Int)] A (fun v A' => v = none ∧ ni_fr56 A A' s ∧ ni_RD A' s r (D + 50) ∧ ∀ o : Nat, o < 8 → ¬ A (s + 5) o = -1 → ¬ A' (s + 5) o = -1) := by
  have h374 := (ni_usT hs).1
  have hnum := hRD.1
  have hRf := hRD.2 f hf
  have hRt := hRD.2 t ht
  unfold ni_rd at hRf hRt
  obtain ⟨q2, h2, g2⟩ := ni_sh1 hkk
  refine ni_Min (ls := [ni_aP (s), ni_aI ((f : Int)), ni_aI ((k : Int)), ni_aI ((t : Int)), .inl ni_J, .inl ni_J]) (fun _ => Nat.le_of_ble_eq_true rfl) (fun _ _ => rfl) ?_
  refine E_Ld (q := 1) rfl rfl (fun _ _ => rfl) ?_
  refine E_Get (q := 4) (v := ni_aP (s + 4)) rfl hs hk rfl rfl (fun _ _ => rfl) ?_
  refine E_Ld (q := 5) rfl rfl (fun _ _ => rfl) ?_
  refine E_Qld (q := 6) (j := t) (v := ni_aL (A (s + 4) (t)).toNat) rfl (ni_o7_4 hs hk).1 (ni_o7_4 hs hk).2.1 (ni_o7_4 hs hk).2.2.1 ⟨by decide, rfl⟩ rfl (by omega) (by decide) (ni_L7 (ni_o7_4 hs hk).1 hct hrc ht) (fun _ _ => rfl) (fun _ _ => rfl) ?_
  refine E_Ld (q := 7) rfl rfl (fun _ _ => rfl) ?_
  refine E_VS (q := 10) (w := some (ni_aI (s2 / 2 ^ k % 2))) rfl rfl rfl hbt (Nat.le_of_ble_eq_true rfl) (fun _ _ _ => rfl) (mt_hasLink hbt hkk hs2) (fun _ _ => rfl) (fun _ _ => rfl) ?_
  by_cases g10 : ¬ (s2 / 2 ^ k % 2) = 0
  · refine E_If true rfl (zf_ne_t ⟨by omega, by omega⟩ g10) ?_
    refine E_Ld (q := 15) rfl rfl (fun _ _ => rfl) ?_
    refine E_Get (q := 18) (v := ni_aP (s + 5)) rfl hs hk rfl rfl (fun _ _ => rfl) ?_
    refine E_Ld (q := 19) rfl rfl (fun _ _ => rfl) ?_
    refine E_Ald (q := 20) (j := f) (e := A (s + 5) (f)) rfl (ni_o7_5 hs hk).1 (ni_o7_5 hs hk).2.1 (ni_o7_5 hs hk).2.2.1 rfl (by omega) (by decide) (ni_L9 (ni_o7_5 hs hk).1 (ni_o7_5 hs hk).2.2.2 (by omega)) (fun _ _ => rfl) ?_
    refine E_Ld (q := 21) rfl rfl (fun _ _ => rfl) ?_
    refine E_Get (q := 24) (v := ni_aP (s + 4)) rfl hs hk rfl rfl (fun _ _ => rfl) ?_
    refine E_Ld (q := 25) rfl rfl (fun _ _ => rfl) ?_
    refine E_Qld (q := 26) (j := f) (v := ni_aL (A (s + 4) (f)).toNat) rfl (ni_o7_4 hs hk).1 (ni_o7_4 hs hk).2.1 (ni_o7_4 hs hk).2.2.1 ⟨by decide, rfl⟩ rfl (by omega) (by decide) (ni_L7 (ni_o7_4 hs hk).1 hct hrc hf) (fun _ _ => rfl) (fun _ _ => rfl) ?_
    refine E_GetS (q := 29) (v := ni_aL (ca1)) rfl hbf (fun _ _ => rfl) ?_
    refine E_Ld (q := 30) rfl rfl (fun _ _ => rfl) ?_
    refine E_AldS (q := 31) (j := k) (e := c) rfl hca rfl (by omega) hcs ?_
    refine E_add (q := 32) rfl ?_
    refine E_St (q := 34) (ls' := [ni_aP (s), ni_aI ((f : Int)), ni_aI ((k : Int)), ni_aI ((t : Int)), ni_aI ((A (s + 5) (f)) + c), .inl ni_J]) rfl (fun _ _ => rfl) (fun _ _ => rfl) ?_
    refine E_Ld (q := 35) rfl rfl (fun _ _ => rfl) ?_
    refine E_Ld (q := 36) rfl rfl (fun _ _ => rfl) ?_
    refine E_GetI (q := 39) (e := A (s) 0) rfl hs hk rfl rfl (fun _ _ => rfl) ?_
    by_cases g39 : ¬ ((f : Int)) = (A (s) 0)
    · refine E_Ic true rfl (zc_ne_t ⟨by omega, by omega⟩ ⟨by omega, by omega⟩ g39) ?_
      refine E_Ld (q := 49) rfl rfl (fun _ _ => rfl) ?_
      refine E_Get (q := 52) (v := ni_aP (s + 6)) rfl hs hk rfl rfl (fun _ _ => rfl) ?_
      refine E_Ld (q := 53) rfl rfl (fun _ _ => rfl) ?_
      refine E_Ald (q := 54) (j := f) (e := A (s + 6) (f)) rfl (ni_o7_6 hs hk).1 (ni_o7_6 hs hk).2.1 (ni_o7_6 hs hk).2.2.1 rfl (by omega) (by decide) (ni_L9 (ni_o7_6 hs hk).1 (ni_o7_6 hs hk).2.2.2 (by omega)) (fun _ _ => rfl) ?_
      refine E_St (q := 56) (ls' := [ni_aP (s), ni_aI ((f : Int)), ni_aI ((k : Int)), ni_aI ((t : Int)), ni_aI ((A (s + 5) (f)) + c), ni_aI (A (s + 6) (f))]) rfl (fun _ _ => rfl) (fun _ _ => rfl) ?_
      refine E_Ld (q := 57) rfl rfl (fun _ _ => rfl) ?_
      refine E_Get (q := 60) (v := ni_aP (s + 5)) rfl hs hk rfl rfl (fun _ _ => rfl) ?_
      refine E_Ld (q := 61) rfl rfl (fun _ _ => rfl) ?_
      refine E_Ald (q := 62) (j := t) (e := A (s + 5) (t)) rfl (ni_o7_5 hs hk).1 (ni_o7_5 hs hk).2.1 (ni_o7_5 hs hk).2.2.1 rfl (by omega) (by decide) (ni_L9 (ni_o7_5 hs hk).1 (ni_o7_5 hs hk).2.2.2 (by omega)) (fun _ _ => rfl) ?_
      refine E_push (q := 63) (c := -1) (z := -1) rfl rfl ?_
      by_cases g63 : (A (s + 5) (t)) = ((-1))
      · refine E_Ic true rfl (zc_eq_t ⟨by omega, by omega⟩ ⟨by omega, by omega⟩ g63) ?_
        refine E_Ld (q := 78) rfl rfl (fun _ _ => rfl) ?_
        refine E_Get (q := 81) (v := ni_aP (s + 5)) rfl hs hk rfl rfl (fun _ _ => rfl) ?_
        refine E_Ld (q := 82) rfl rfl (fun _ _ => rfl) ?_
        refine E_Ld (q := 84) rfl rfl (fun _ _ => rfl) ?_
        refine E_Ast (q := 85) (j := t) rfl (ni_o7_5 hs hk).1 (ni_o7_5 hs hk).2.1 (ni_o7_5 hs hk).2.2.1 rfl (by omega) (by decide) ?_
        refine E_Ld (q := 86) rfl rfl (fun _ _ => rfl) ?_
        refine E_Get (q := 89) (v := ni_aP (s + 6)) rfl hs hk rfl rfl (fun _ _ => rfl) ?_
        refine E_Ld (q := 90) rfl rfl (fun _ _ => rfl) ?_
        refine E_Ld (q := 92) rfl rfl (fun _ _ => rfl) ?_
        refine E_Ast (q := 93) (j := t) rfl (ni_o7_6 hs hk).1 (ni_o7_6 hs hk).2.1 (ni_o7_6 hs hk).2.2.1 rfl (by omega) (by decide) ?_
        refine E_Go (q := 118) rfl ?_
        refine E_Rv rfl rfl ?_
        exact ⟨rfl, fun s' j h5 h6 => by rw [ni_u2n (Or.inl h6), ni_u2n (Or.inl h5)], ni_rdSet hRD (by omega) (by omega) (by omega), fun o ho h => by
                  by_cases e : o = t
                  · rw [ni_u2n (by omega), e, ni_u2e]; omega
                  · rw [ni_u2n (by omega), ni_u2n (by omega)]; exact h⟩
      · refine E_Ic false rfl (zc_eq_f ⟨by omega, by omega⟩ ⟨by omega, by omega⟩ g63) ?_
        refine E_Ld (q := 68) rfl rfl (fun _ _ => rfl) ?_
        refine E_Ld (q := 69) rfl rfl (fun _ _ => rfl) ?_
        refine E_Get (q := 72) (v := ni_aP (s + 5)) rfl hs hk rfl rfl (fun _ _ => rfl) ?_
        refine E_Ld (q := 73) rfl rfl (fun _ _ => rfl) ?_
        refine E_Ald (q := 74) (j := t) (e := A (s + 5) (t)) rfl (ni_o7_5 hs hk).1 (ni_o7_5 hs hk).2.1 (ni_o7_5 hs hk).2.2.1 rfl (by omega) (by decide) (ni_L9 (ni_o7_5 hs hk).1 (ni_o7_5 hs hk).2.2.2 (by omega)) (fun _ _ => rfl) ?_
        by_cases g74 : (A (s + 5) (t)) ≤ ((A (s + 5) (f)) + c)
        · refine E_Ic true rfl (zc_ge_t ⟨by omega, by omega⟩ ⟨by omega, by omega⟩ g74) ?_
          refine E_Ld (q := 98) rfl rfl (fun _ _ => rfl) ?_
          refine E_Ld (q := 99) rfl rfl (fun _ _ => rfl) ?_
          refine E_Get (q := 102) (v := ni_aP (s + 5)) rfl hs hk rfl rfl (fun _ _ => rfl) ?_
          refine E_Ld (q := 103) rfl rfl (fun _ _ => rfl) ?_
          refine E_Ald (q := 104) (j := t) (e := A (s + 5) (t)) rfl (ni_o7_5 hs hk).1 (ni_o7_5 hs hk).2.1 (ni_o7_5 hs hk).2.2.1 rfl (by omega) (by decide) (ni_L9 (ni_o7_5 hs hk).1 (ni_o7_5 hs hk).2.2.2 (by omega)) (fun _ _ => rfl) ?_
          by_cases g104 : ¬ ((A (s + 5) (f)) + c) = (A (s + 5) (t))
          · refine E_Ic true rfl (zc_ne_t ⟨by omega, by omega⟩ ⟨by omega, by omega⟩ g104) ?_
            refine E_Rv rfl rfl ?_
            exact ⟨rfl, ni_fr56r, ni_RDm hRD (by omega), fun _ _ h => h⟩
          · refine E_Ic false rfl (zc_ne_f ⟨by omega, by omega⟩ ⟨by omega, by omega⟩ g104) ?_
            refine E_Ld (q := 108) rfl rfl (fun _ _ => rfl) ?_
            refine E_Get (q := 111) (v := ni_aP (s + 6)) rfl hs hk rfl rfl (fun _ _ => rfl) ?_
            refine E_Ld (q := 112) rfl rfl (fun _ _ => rfl) ?_
            refine E_Dup2 (q := 113) rfl (fun _ _ => ⟨rfl, rfl⟩) ?_
            refine E_Ald (q := 114) (j := t) (e := A (s + 6) (t)) rfl (ni_o7_6 hs hk).1 (ni_o7_6 hs hk).2.1 (ni_o7_6 hs hk).2.2.1 rfl (by omega) (by decide) (ni_L9 (ni_o7_6 hs hk).1 (ni_o7_6 hs hk).2.2.2 (by omega)) (fun _ _ => rfl) ?_
            refine E_Ld (q := 116) rfl rfl (fun _ _ => rfl) ?_
            obtain ⟨c3, h3, g3⟩ := ni_or14 (a := A (s + 6) (t)) (b := A (s + 6) (f)) (by omega) (by omega)
            refine E_I (q := 117) (c := c3) rfl h3 ?_
            refine E_Ast (q := 118) (j := t) rfl (ni_o7_6 hs hk).1 (ni_o7_6 hs hk).2.1 (ni_o7_6 hs hk).2.2.1 rfl (by omega) (by decide) ?_
            refine E_Rv rfl rfl ?_
            exact ⟨rfl, fun s' j h5 h6 => by rw [ni_u2n (Or.inl h6)], ni_rdOr hRD ht (by omega) (by omega) (by omega), fun o ho h => by rw [ni_u2n (by omega)]; exact h⟩
        · refine E_Ic false rfl (zc_ge_f ⟨by omega, by omega⟩ ⟨by omega, by omega⟩ g74) ?_
          refine E_Ld (q := 78) rfl rfl (fun _ _ => rfl) ?_
          refine E_Get (q := 81) (v := ni_aP (s + 5)) rfl hs hk rfl rfl (fun _ _ => rfl) ?_
          refine E_Ld (q := 82) rfl rfl (fun _ _ => rfl) ?_
          refine E_Ld (q := 84) rfl rfl (fun _ _ => rfl) ?_
          refine E_Ast (q := 85) (j := t) rfl (ni_o7_5 hs hk).1 (ni_o7_5 hs hk).2.1 (ni_o7_5 hs hk).2.2.1 rfl (by omega) (by decide) ?_
          refine E_Ld (q := 86) rfl rfl (fun _ _ => rfl) ?_
          refine E_Get (q := 89) (v := ni_aP (s + 6)) rfl hs hk rfl rfl (fun _ _ => rfl) ?_
          refine E_Ld (q := 90) rfl rfl (fun _ _ => rfl) ?_
          refine E_Ld (q := 92) rfl rfl (fun _ _ => rfl) ?_
          refine E_Ast (q := 93) (j := t) rfl (ni_o7_6 hs hk).1 (ni_o7_6 hs hk).2.1 (ni_o7_6 hs hk).2.2.1 rfl (by omega) (by decide) ?_
          refine E_Go (q := 118) rfl ?_
          refine E_Rv rfl rfl ?_
          exact ⟨rfl, fun s' j h5 h6 => by rw [ni_u2n (Or.inl h6), ni_u2n (Or.inl h5)], ni_rdSet hRD (by omega) (by omega) (by omega), fun o ho h => by
                      by_cases e : o = t
                      · rw [ni_u2n (by omega), e, ni_u2e]; omega
                      · rw [ni_u2n (by omega), ni_u2n (by omega)]; exact h⟩
    · refine E_Ic false rfl (zc_ne_f ⟨by omega, by omega⟩ ⟨by omega, by omega⟩ g39) ?_
      refine E_push (q := 43) (c := 1) (z := 1) rfl rfl ?_
      refine E_Ld (q := 44) rfl rfl (fun _ _ => rfl) ?_
      refine E_I (q := 45) (c := q2) rfl h2 ?_
      refine E_Go (q := 54) rfl ?_
      refine E_St (q := 56) (ls' := [ni_aP (s), ni_aI ((f : Int)), ni_aI ((k : Int)), ni_aI ((t : Int)), ni_aI ((A (s + 5) (f)) + c), ni_aI (q2)]) rfl (fun _ _ => rfl) (fun _ _ => rfl) ?_
      refine E_Ld (q := 57) rfl rfl (fun _ _ => rfl) ?_
      refine E_Get (q := 60) (v := ni_aP (s + 5)) rfl hs hk rfl rfl (fun _ _ => rfl) ?_
      refine E_Ld (q := 61) rfl rfl (fun _ _ => rfl) ?_
      refine E_Ald (q := 62) (j := t) (e := A (s + 5) (t)) rfl (ni_o7_5 hs hk).1 (ni_o7_5 hs hk).2.1 (ni_o7_5 hs hk).2.2.1 rfl (by omega) (by decide) (ni_L9 (ni_o7_5 hs hk).1 (ni_o7_5 hs hk).2.2.2 (by omega)) (fun _ _ => rfl) ?_
      refine E_push (q := 63) (c := -1) (z := -1) rfl rfl ?_
      by_cases g63 : (A (s + 5) (t)) = ((-1))
      · refine E_Ic true rfl (zc_eq_t ⟨by omega, by omega⟩ ⟨by omega, by omega⟩ g63) ?_
        refine E_Ld (q := 78) rfl rfl (fun _ _ => rfl) ?_
        refine E_Get (q := 81) (v := ni_aP (s + 5)) rfl hs hk rfl rfl (fun _ _ => rfl) ?_
        refine E_Ld (q := 82) rfl rfl (fun _ _ => rfl) ?_
        refine E_Ld (q := 84) rfl rfl (fun _ _ => rfl) ?_
        refine E_Ast (q := 85) (j := t) rfl (ni_o7_5 hs hk).1 (ni_o7_5 hs hk).2.1 (ni_o7_5 hs hk).2.2.1 rfl (by omega) (by decide) ?_
        refine E_Ld (q := 86) rfl rfl (fun _ _ => rfl) ?_
        refine E_Get (q := 89) (v := ni_aP (s + 6)) rfl hs hk rfl rfl (fun _ _ => rfl) ?_
        refine E_Ld (q := 90) rfl rfl (fun _ _ => rfl) ?_
        refine E_Ld (q := 92) rfl rfl (fun _ _ => rfl) ?_
        refine E_Ast (q := 93) (j := t) rfl (ni_o7_6 hs hk).1 (ni_o7_6 hs hk).2.1 (ni_o7_6 hs hk).2.2.1 rfl (by omega) (by decide) ?_
        refine E_Go (q := 118) rfl ?_
        refine E_Rv rfl rfl ?_
        exact ⟨rfl, fun s' j h5 h6 => by rw [ni_u2n (Or.inl h6), ni_u2n (Or.inl h5)], ni_rdSet hRD (by omega) (by omega) (by omega), fun o ho h => by
                  by_cases e : o = t
                  · rw [ni_u2n (by omega), e, ni_u2e]; omega
                  · rw [ni_u2n (by omega), ni_u2n (by omega)]; exact h⟩
      · refine E_Ic false rfl (zc_eq_f ⟨by omega, by omega⟩ ⟨by omega, by omega⟩ g63) ?_
        refine E_Ld (q := 68) rfl rfl (fun _ _ => rfl) ?_
        refine E_Ld (q := 69) rfl rfl (fun _ _ => rfl) ?_
        refine E_Get (q := 72) (v := ni_aP (s + 5)) rfl hs hk rfl rfl (fun _ _ => rfl) ?_
        refine E_Ld (q := 73) rfl rfl (fun _ _ => rfl) ?_
        refine E_Ald (q := 74) (j := t) (e := A (s + 5) (t)) rfl (ni_o7_5 hs hk).1 (ni_o7_5 hs hk).2.1 (ni_o7_5 hs hk).2.2.1 rfl (by omega) (by decide) (ni_L9 (ni_o7_5 hs hk).1 (ni_o7_5 hs hk).2.2.2 (by omega)) (fun _ _ => rfl) ?_
        by_cases g74 : (A (s + 5) (t)) ≤ ((A (s + 5) (f)) + c)
        · refine E_Ic true rfl (zc_ge_t ⟨by omega, by omega⟩ ⟨by omega, by omega⟩ g74) ?_
          refine E_Ld (q := 98) rfl rfl (fun _ _ => rfl) ?_
          refine E_Ld (q := 99) rfl rfl (fun _ _ => rfl) ?_
          refine E_Get (q := 102) (v := ni_aP (s + 5)) rfl hs hk rfl rfl (fun _ _ => rfl) ?_
          refine E_Ld (q := 103) rfl rfl (fun _ _ => rfl) ?_
          refine E_Ald (q := 104) (j := t) (e := A (s + 5) (t)) rfl (ni_o7_5 hs hk).1 (ni_o7_5 hs hk).2.1 (ni_o7_5 hs hk).2.2.1 rfl (by omega) (by decide) (ni_L9 (ni_o7_5 hs hk).1 (ni_o7_5 hs hk).2.2.2 (by omega)) (fun _ _ => rfl) ?_
          by_cases g104 : ¬ ((A (s + 5) (f)) + c) = (A (s + 5) (t))
          · refine E_Ic true rfl (zc_ne_t ⟨by omega, by omega⟩ ⟨by omega, by omega⟩ g104) ?_
            refine E_Rv rfl rfl ?_
            exact ⟨rfl, ni_fr56r, ni_RDm hRD (by omega), fun _ _ h => h⟩
          · refine E_Ic false rfl (zc_ne_f ⟨by omega, by omega⟩ ⟨by omega, by omega⟩ g104) ?_
            refine E_Ld (q := 108) rfl rfl (fun _ _ => rfl) ?_
            refine E_Get (q := 111) (v := ni_aP (s + 6)) rfl hs hk rfl rfl (fun _ _ => rfl) ?_
            refine E_Ld (q := 112) rfl rfl (fun _ _ => rfl) ?_
            refine E_Dup2 (q := 113) rfl (fun _ _ => ⟨rfl, rfl⟩) ?_
            refine E_Ald (q := 114) (j := t) (e := A (s + 6) (t)) rfl (ni_o7_6 hs hk).1 (ni_o7_6 hs hk).2.1 (ni_o7_6 hs hk).2.2.1 rfl (by omega) (by decide) (ni_L9 (ni_o7_6 hs hk).1 (ni_o7_6 hs hk).2.2.2 (by omega)) (fun _ _ => rfl) ?_
            refine E_Ld (q := 116) rfl rfl (fun _ _ => rfl) ?_
            obtain ⟨c3, h3, g3⟩ := ni_or14 (a := A (s + 6) (t)) (b := q2) (by omega) (by omega)
            refine E_I (q := 117) (c := c3) rfl h3 ?_
            refine E_Ast (q := 118) (j := t) rfl (ni_o7_6 hs hk).1 (ni_o7_6 hs hk).2.1 (ni_o7_6 hs hk).2.2.1 rfl (by omega) (by decide) ?_
            refine E_Rv rfl rfl ?_
            exact ⟨rfl, fun s' j h5 h6 => by rw [ni_u2n (Or.inl h6)], ni_rdOr hRD ht (by omega) (by omega) (by omega), fun o ho h => by rw [ni_u2n (by omega)]; exact h⟩
        · refine E_Ic false rfl (zc_ge_f ⟨by omega, by omega⟩ ⟨by omega, by omega⟩ g74) ?_
          refine E_Ld (q := 78) rfl rfl (fun _ _ => rfl) ?_
          refine E_Get (q := 81) (v := ni_aP (s + 5)) rfl hs hk rfl rfl (fun _ _ => rfl) ?_
          refine E_Ld (q := 82) rfl rfl (fun _ _ => rfl) ?_
          refine E_Ld (q := 84) rfl rfl (fun _ _ => rfl) ?_
          refine E_Ast (q := 85) (j := t) rfl (ni_o7_5 hs hk).1 (ni_o7_5 hs hk).2.1 (ni_o7_5 hs hk).2.2.1 rfl (by omega) (by decide) ?_
          refine E_Ld (q := 86) rfl rfl (fun _ _ => rfl) ?_
          refine E_Get (q := 89) (v := ni_aP (s + 6)) rfl hs hk rfl rfl (fun _ _ => rfl) ?_
          refine E_Ld (q := 90) rfl rfl (fun _ _ => rfl) ?_
          refine E_Ld (q := 92) rfl rfl (fun _ _ => rfl) ?_
          refine E_Ast (q := 93) (j := t) rfl (ni_o7_6 hs hk).1 (ni_o7_6 hs hk).2.1 (ni_o7_6 hs hk).2.2.1 rfl (by omega) (by decide) ?_
          refine E_Go (q := 118) rfl ?_
          refine E_Rv rfl rfl ?_
          exact ⟨rfl, fun s' j h5 h6 => by rw [ni_u2n (Or.inl h6), ni_u2n (Or.inl h5)], ni_rdSet hRD (by omega) (by omega) (by omega), fun o ho h => by
                      by_cases e : o = t
                      · rw [ni_u2n (by omega), e, ni_u2e]; omega
                      · rw [ni_u2n (by omega), ni_u2n (by omega)]; exact h⟩
  · refine E_If false rfl (zf_ne_f ⟨by omega, by omega⟩ g10) ?_
    refine E_Rv rfl rfl ?_
    exact ⟨rfl, ni_fr56r, ni_RDm hRD (by omega), fun _ _ h => h⟩
end NRK
