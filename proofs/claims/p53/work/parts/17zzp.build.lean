/-! BUILD: ROUTERS, THEN LINKS -/
section NBD
variable {xs : List Int32} {St St' : Nat → Option ni_C} {M M' : ni_H} {A A' B : Nat → Nat → Int} {own : Nat → Int} {c z : Nat}
set_option maxRecDepth 20000 in
theorem wp_NewaM {d y pc q kk : Nat} {ls st : List Value} {Q : Option Value → ni_H → Prop} {ty : FieldType} {c : Int} (hp : ni_prog xs y pc = ni_sNewa kk ty q) (hc : 0 ≤ c ∧ c ≤ 1000000) (h2 : M.2 = 0) (hb : M.1.length < 1000000) (k : ∀ M', nx_mo M M' (100 + kk, List.replicate c.toNat (ni_df ty)) → wp_G xs d y q ls (.ref M.1.length :: st) M' Q) : wp_G xs d y pc ls (ni_z c :: st) M Q := wp_Newa hp hc h2 hb (k _ (nx_moA h2))
set_option maxRecDepth 20000 in
theorem wp_ANewM {d y pc q kk : Nat} {ls st : List Value} {Q : Option Value → ni_H → Prop} {c : Int} (hp : ni_prog xs y pc = ni_sANew kk q) (hc : 0 ≤ c ∧ c ≤ 1000000) (h2 : M.2 = 0) (hb : M.1.length < 1000000) (k : ∀ M', nx_mo M M' (100 + kk, List.replicate c.toNat .null) → wp_G xs d y q ls (.ref M.1.length :: st) M' Q) : wp_G xs d y pc ls (ni_z c :: st) M Q := wp_ANew hp hc h2 hb (k _ (nx_moA h2))
set_option maxRecDepth 20000 in
theorem lz_rem {a b n : Int} (ha : 0 ≤ a ∧ a < n) (hb : 0 ≤ b ∧ b < n - 1) : 0 ≤ (a + 1 + b) % n ∧ (a + 1 + b) % n < n ∧ a ≠ (a + 1 + b) % n := by
  by_cases c : a + 1 + b < n
  · rw [Int.emod_eq_of_lt (by omega) c]
    omega
  · have e : (a + 1 + b) % n = a + 1 + b - n := by
      rw [show a + 1 + b = (a + 1 + b - n) + n by omega, Int.add_emod_right, Int.emod_eq_of_lt (by omega) (by omega)]
      omega
    rw [e]
    omega
/-- a link's row -/
def lz_k (St : Nat → Option ni_C) (A : Nat → Nat → Int) (vs : List Value) (l : Nat) : Prop := ∃ (x : Nat) (ws : List Value), vs[l]? = some (.ref x) ∧ St x = some (100, ws) ∧ ws[0]? = some (ni_z (A (48 + 17 * l) 0)) ∧ 1 ≤ A (48 + 17 * l) 4
/-- while links come -/
def lz_2 (n k nl la : Nat) (M : ni_H) : Prop := ∃ (St : Nat → Option ni_C) (own : Nat → Int) (A : Nat → Nat → Int) (vs : List Value), lz_R St M A (na_A 1) (400 + 8 * k) (43000 + 100 * k) ∧ nq_Inv St own A 0 ∧ nq_CO A ∧ na_Fr A ∧ (∀ x, own x ≤ 2 * k) ∧ (A 0 0 = 0 ∧ A 0 1 = n ∧ A 0 2 = k ∧ A 0 3 = 0 ∧ A 8 3 = 0 ∧ A 4 3 = 0) ∧ la ≠ 0 ∧ St la = some (105, vs) ∧ vs.length = nl ∧ ∀ l : Nat, l < k → lz_k St A vs l
set_option maxRecDepth 20000 in
/-- a link comes: its row is told, and the net has it -/
theorem lz_2S {n k nl la : Nat} {a b c d x : Int} {St : Nat → Option ni_C} {own : Nat → Int} {A : Nat → Nat → Int} {vs : List Value} {M1 M2 : ni_H} (hR : lz_R St M A (na_A 1) (400 + 8 * k) (43000 + 100 * k)) (hI : nq_Inv St own A 0) (hCO : nq_CO A) (hF : na_Fr A) (hown : ∀ x, own x ≤ 2 * k) (hc : A 0 0 = 0 ∧ A 0 1 = n ∧ A 0 2 = k ∧ A 0 3 = 0 ∧ A 8 3 = 0 ∧ A 4 3 = 0) (hla0 : la ≠ 0) (hla : St la = some (105, vs)) (hvl : vs.length = nl) (hvs : ∀ l : Nat, l < k → lz_k St A vs l) (hk : k < nl) (hnl : nl ≤ 14) (hn : n ≤ 8) (hm : nx_mo M M1 (100, [ni_z a, ni_z b, ni_z c, ni_z 1, ni_z x])) (hw : wp_wr M1 la (105, vs.set k (.ref M.1.length)) M2) (ha : 0 ≤ a ∧ a < n) (hb : 0 ≤ b ∧ b < n) (hab : a ≠ b) (hcc : 1 ≤ c ∧ c ≤ 50) (hd : 1 ≤ d ∧ d ≤ 200) (hx : 1 ≤ x ∧ x ≤ 20) : M2.1[la]? = some (105, vs.set k (.ref M.1.length)) ∧ M2.1[M.1.length]? = some (100, [ni_z a, ni_z b, ni_z c, ni_z 1, ni_z x]) ∧ M2.1[0]? = some (9, [.ref 1, .ref 375]) ∧ wp_C xs 25 2 [.ref 0, ni_z a, ni_z b, ni_z c, ni_z d, ni_z x] M2 (fun u M' => (∃ y : Int, u = some (ni_z y)) ∧ lz_2 n (k + 1) nl la M') := by
  have hlt := lz_lt hR hla
  have e1 := lz_n hR hm (by omega)
  have hla1 : nx_ad St M.1.length (100, [ni_z a, ni_z b, ni_z c, ni_z 1, ni_z x]) la = some (105, vs) := by rw [nx_adN (by omega)]; exact hla
  have e2 := lz_w e1 hla0 hla1 hw (by simp)
  have hrow : nx_ad (nx_ad St M.1.length (100, [ni_z a, ni_z b, ni_z c, ni_z 1, ni_z x])) la (105, vs.set k (.ref M.1.length)) M.1.length = some (100, [ni_z a, ni_z b, ni_z c, ni_z 1, ni_z x]) := by
    rw [nx_adN (by omega)]
    exact nx_adE
  have hla2 : nx_ad (nx_ad St M.1.length (100, [ni_z a, ni_z b, ni_z c, ni_z 1, ni_z x])) la (105, vs.set k (.ref M.1.length)) la = some (105, vs.set k (.ref M.1.length)) := nx_adE
  have hmono : ∀ a' c', c'.1 = 1 ∨ c'.1 = 100 → St a' = some c' → nx_ad (nx_ad St M.1.length (100, [ni_z a, ni_z b, ni_z c, ni_z 1, ni_z x])) la (105, vs.set k (.ref M.1.length)) a' = some c' := fun a' c' hc' ha' => by
    have h1 := (lz_lt hR ha').1
    by_cases e : a' = la
    · rw [e, hla] at ha'
      cases ha'
      rcases hc' with z | z <;> cases z
    · rw [nx_adN e, nx_adN (by omega)]
      exact ha'
  have hI2 := lz_Inv hmono hI
  revert e2 hrow hla2 hmono hI2
  generalize nx_ad (nx_ad St M.1.length (100, [ni_z a, ni_z b, ni_z c, ni_z 1, ni_z x])) la (105, vs.set k (.ref M.1.length)) = S2
  intro e2 hrow hla2 hmono hI2
  have m2 := lz_lt e2 hla2
  have m3 := lz_lt e2 hrow
  have h6 : S2 0 = some (9, [.ref 1, .ref 375]) := by
    obtain ⟨rw, cp, rw', cp', r1, r2, r3, r4, r5, r6⟩ := e2
    exact r6
  refine ⟨m2.2, m3.2, (lz_lt e2 h6).2, ?_⟩
  obtain ⟨A2, hA2⟩ : ∃ A2, A2 = ni_u2 (ni_u2 (ni_u2 (ni_u2 (ni_u2 (ni_u2 A 0 2 ((k : Int) + 1)) (48 + 17 * k) 0 a) (48 + 17 * k) 1 b) (48 + 17 * k) 2 c) (48 + 17 * k) 3 d) (48 + 17 * k) 4 x := ⟨_, rfl⟩
  obtain ⟨A3, hA3⟩ : ∃ A3, A3 = ni_u2 A2 (48 + 17 * k) 5 1 := ⟨_, rfl⟩
  have u : ∀ s j, ¬ (s = 0 ∧ j = 2) → ¬ (s = 48 + 17 * k ∧ j < 6) → A3 s j = A s j := fun s j g1 g2 => by
    rw [hA3, hA2, ni_u2n (by omega), ni_u2n (by omega), ni_u2n (by omega), ni_u2n (by omega), ni_u2n (by omega), ni_u2n (by omega), ni_u2n (by omega)]
  have u2 : A3 0 2 = (k : Int) + 1 := by rw [hA3, hA2, ni_u2n (by omega), ni_u2n (by omega), ni_u2n (by omega), ni_u2n (by omega), ni_u2n (by omega), ni_u2n (by omega)]; exact ni_u2e
  have f0 : A3 (48 + 17 * k) 0 = a := by rw [hA3, hA2, ni_u2n (by omega), ni_u2n (by omega), ni_u2n (by omega), ni_u2n (by omega), ni_u2n (by omega)]; exact ni_u2e
  have f1 : A3 (48 + 17 * k) 1 = b := by rw [hA3, hA2, ni_u2n (by omega), ni_u2n (by omega), ni_u2n (by omega), ni_u2n (by omega)]; exact ni_u2e
  have f2 : A3 (48 + 17 * k) 2 = c := by rw [hA3, hA2, ni_u2n (by omega), ni_u2n (by omega), ni_u2n (by omega)]; exact ni_u2e
  have f3 : A3 (48 + 17 * k) 3 = d := by rw [hA3, hA2, ni_u2n (by omega), ni_u2n (by omega)]; exact ni_u2e
  have f4 : A3 (48 + 17 * k) 4 = x := by rw [hA3, hA2, ni_u2n (by omega)]; exact ni_u2e
  have f5 : A3 (48 + 17 * k) 5 = 1 := by rw [hA3]; exact ni_u2e
  obtain ⟨i3, fr3⟩ := na_link (c := c) (d := d) (x := x) hI2 hF (by omega) hc.2.2.1 (by rw [hc.2.1]; exact ha) (by rw [hc.2.1]; exact hb) (by omega) hx u u2 f0 f1 f3 f4 f5
  have co3 : nq_CO A3 := fun l hl hl2 => by
    rw [u2] at hl2
    by_cases e : l = k
    · rw [e, f2]
      exact hcc
    · rw [u _ _ (by omega) (by omega)]
      exact hCO l hl (by omega)
  obtain ⟨rw, cp, rw', cp', r1, r2, r3, r4, r5, r6⟩ := e2
  have b1 := np_gz r1.2.2.1
  have b2 := np_gz r2.2.2.1
  have g := fx_addLink (xs := xs) (m := 0) (n1 := 375) (own := own) (e := 0) (l := k) (a := a) (b := b) (c := c) (d := d) (x := x) (ad := na_1) r6 r1 (fun y => by have := hown y; omega) (by omega) (by omega) (by omega) (by omega) hab hcc hd hx hA2 (by rw [← hA3]; exact i3) (by rw [← hA3]; exact co3) (by omega) hc.2.2.1
  rw [← hA3] at g
  refine wp_mono g ?_
  rintro w M' ⟨hw', hQ⟩
  obtain ⟨S', own', A4, q1, q2, q3, q4, q5, q6⟩ := lz_x r1 r2 r3 r4 r5 r6 (by omega) hQ
  have fl := nx_fl q3
  have low : ∀ s j, s < 12 → A4 s j = A3 s j := fun s j hs => fl.2.2 s j (by omega)
  refine ⟨hw', S', own', A4, vs.set k (.ref M.1.length), ?_, q2, nx_COf co3 q3, nx_ddF (by rw [u 0 1 (by omega) (by omega)]; omega) q3 q4 fr3, fun y => by have := q6 y; have := hown y; omega, ⟨?_, ?_, ?_, ?_, ?_, ?_⟩, hla0, q5 _ _ hla2, by simp [hvl], fun l hl => ?_⟩
  · obtain ⟨w1, w2, w3, w4, t1, t2, t3, t4, t5, t6⟩ := q1
    refine ⟨w1, w2, w3, w4, t1, t2, t3, by omega, ?_, t6⟩
    have : ((100, [ni_z a, ni_z b, ni_z c, ni_z 1, ni_z x]) : ni_C).2.length = 5 := rfl
    omega
  · rw [low 0 0 (by omega), u 0 0 (by omega) (by omega)]; exact hc.1
  · rw [low 0 1 (by omega), u 0 1 (by omega) (by omega)]; exact hc.2.1
  · rw [low 0 2 (by omega), u2]; omega
  · rw [low 0 3 (by omega), u 0 3 (by omega) (by omega)]; exact hc.2.2.2.1
  · rw [low 8 3 (by omega), u 8 3 (by omega) (by omega)]; exact hc.2.2.2.2.1
  · rw [low 4 3 (by omega), u 4 3 (by omega) (by omega)]; exact hc.2.2.2.2.2
  · by_cases e : l = k
    · subst e
      refine ⟨M.1.length, _, List.getElem?_set_self (by omega), q5 _ _ hrow, ?_, ?_⟩
      · rw [fl.2.1 l 0 (by omega), f0]
        rfl
      · rw [fl.2.1 l 4 (by omega), f4]
        exact hx.1
    · obtain ⟨y, ws, v1, v2, v3, v4⟩ := hvs l (by omega)
      refine ⟨y, ws, by rw [List.getElem?_set_ne (fun z => e z.symm)]; exact v1, q5 _ _ (hmono _ _ (Or.inr rfl) v2), ?_, ?_⟩
      · rw [fl.2.1 l 0 (by omega), u _ _ (by omega) (by omega)]
        exact v3
      · rw [fl.2.1 l 4 (by omega), u _ _ (by omega) (by omega)]
        exact v4
set_option maxRecDepth 20000 in
theorem mt_bdL {n nl la : Nat} (hxs : xs.length ≤ 100000) (hn2 : 2 ≤ n) (hn8 : n ≤ 6) (hnl : nl ≤ 14) : ∀ k i : Nat, i + k = nl → ∀ (M : ni_H) (w5 w6 w7 : Value), lz_2 n i nl la M → wp_G xs 30 153 38 [.ref 0, .ref ni_big, ni_z (n : Int), .ref la, ni_z (i : Int), w5, w6, w7] [] M (fun u M' => ∃ la, u = some (.ref la) ∧ lz_2 n nl nl la M') := by
  intro k
  induction k with
  | zero =>
    intro i hi M w5 w6 w7 hS
    have hS0 := hS
    obtain ⟨St, own, A, vs, hR, hI, hCO, hF, hown, hc, hla0, hla, hvl, hvs⟩ := hS
    have hla1 := (lz_lt hR hla).2
    refine wp_Ld rfl rfl rfl ?_
    refine wp_Ld rfl rfl rfl ?_
    refine wp_Len rfl hla1 ⟨by decide, by decide⟩ (show Int32.ofNat vs.length = Int32.ofInt (nl : Int) by rw [hvl]; rfl) ?_
    refine wp_Ic true rfl (zc_ge_t ⟨by omega, by omega⟩ ⟨by omega, by omega⟩ (by omega)) ?_
    refine wp_Ld rfl rfl rfl ?_
    have hin : i = nl := by omega
    subst hin
    exact wp_R rfl rfl ⟨la, rfl, hS0⟩
  | succ k ih =>
    intro i hi M w5 w6 w7 hS
    have hS0 := hS
    obtain ⟨St, own, A, vs, hR, hI, hCO, hF, hown, hc, hla0, hla, hvl, hvs⟩ := hS
    have hla1 := (lz_lt hR hla).2
    have hM0 := lz_M hR (by omega)
    have hn8 : n ≤ 8 := by omega
    have hrest : ∀ x : Int, ni_R32 x → ∀ a b : Int, (0 ≤ a ∧ a < n) → (0 ≤ b ∧ b < n) → a ≠ b → wp_G xs 30 153 122 [.ref 0, .ref ni_big, ni_z (n : Int), .ref la, ni_z (i : Int), ni_z x, ni_z a, ni_z b] [] M (fun u M' => ∃ la, u = some (.ref la) ∧ lz_2 n nl nl la M') := by
      intro x hx a b ha hb hab
      refine wp_Ld rfl rfl rfl ?_
      refine wp_Ld rfl rfl rfl ?_
      refine wp_P (g := ni_gPush (.int (5)) 126) rfl (wp_push (z := 5) rfl) ?_
      refine wp_NewaM (c := 5) rfl (by omega) hM0.1 hM0.2 (fun M0 hm0 => ?_)
      have hm0 : nx_mo M M0 (100, [ni_z 0, ni_z 0, ni_z 0, ni_z 0, ni_z 0]) := hm0
      refine wp_P (g := ni_gDup 129) rfl rfl ?_
      refine wp_P (g := ni_gPush (.int (0)) 130) rfl (wp_push (z := 0) rfl) ?_
      refine wp_Ld rfl rfl rfl ?_
      have hzi0 := ni_clZ (x := 0) (by omega)
      refine wp_Ast (vs' := [ni_z (a), ni_z 0, ni_z 0, ni_z 0, ni_z 0]) rfl hm0.2.2.2.1 ⟨by decide, rfl, hzi0.1, by rw [hzi0.2]; exact Nat.le_of_ble_eq_true rfl, rfl, rfl⟩ (by rw [hzi0.2]; rfl) fun M1 hw0 => ?_
      have hm1 := nx_moW hm0 hw0 rfl
      refine wp_P (g := ni_gDup 134) rfl rfl ?_
      refine wp_P (g := ni_gPush (.int (1)) 135) rfl (wp_push (z := 1) rfl) ?_
      refine wp_Ld rfl rfl rfl ?_
      have hzi1 := ni_clZ (x := 1) (by omega)
      refine wp_Ast (vs' := [ni_z (a), ni_z (b), ni_z 0, ni_z 0, ni_z 0]) rfl hm1.2.2.2.1 ⟨by decide, rfl, hzi1.1, by rw [hzi1.2]; exact Nat.le_of_ble_eq_true rfl, rfl, rfl⟩ (by rw [hzi1.2]; rfl) fun M2 hw1 => ?_
      have hm2 := nx_moW hm1 hw1 rfl
      refine wp_P (g := ni_gDup 139) rfl rfl ?_
      refine wp_P (g := ni_gPush (.int (2)) 140) rfl (wp_push (z := 2) rfl) ?_
      refine wp_P (g := ni_gPush (.int (1)) 141) rfl (wp_push (z := 1) rfl) ?_
      refine wp_Ld rfl rfl rfl ?_
      refine wp_P (g := ni_gPush (.int (2)) 144) rfl (wp_push (z := 2) rfl) ?_
      refine lz_shr (n := 2) (x := x) rfl (by omega) hx (fun v501 hv501 => ?_)
      refine wp_P (g := ni_gPush (.int (4)) 146) rfl (wp_push (z := 4) rfl) ?_
      refine wp_S (r := [ni_z (1), ni_z (2), .ref M.1.length, .ref M.1.length, ni_z ((i : Int)), .ref la]) (as := [ni_z (v501), ni_z (4)]) rfl (Nat.le_of_ble_eq_true rfl) rfl rfl (Nat.le_of_ble_eq_true rfl) (wp_up (mt_below (v := v501) (n := 4) (by omega)) (by decide)) ?_
      rintro u502 M504 ⟨⟨b503, hb503, huu502⟩, hMM504⟩
      rw [huu502, hMM504]
      refine wp_P rfl wp_add ?_
      have hzi2 := ni_clZ (x := 2) (by omega)
      refine wp_Ast (vs' := [ni_z (a), ni_z (b), ni_z (1 + b503), ni_z 0, ni_z 0]) rfl hm2.2.2.2.1 ⟨by decide, rfl, hzi2.1, by rw [hzi2.2]; exact Nat.le_of_ble_eq_true rfl, rfl, rfl⟩ (by rw [hzi2.2]; rfl) fun M3 hw2 => ?_
      have hm3 := nx_moW hm2 hw2 rfl
      refine wp_P (g := ni_gDup 152) rfl rfl ?_
      refine wp_P (g := ni_gPush (.int (3)) 153) rfl (wp_push (z := 3) rfl) ?_
      refine wp_P (g := ni_gPush (.int (1)) 154) rfl (wp_push (z := 1) rfl) ?_
      have hzi3 := ni_clZ (x := 3) (by omega)
      refine wp_Ast (vs' := [ni_z (a), ni_z (b), ni_z (1 + b503), ni_z (1), ni_z 0]) rfl hm3.2.2.2.1 ⟨by decide, rfl, hzi3.1, by rw [hzi3.2]; exact Nat.le_of_ble_eq_true rfl, rfl, rfl⟩ (by rw [hzi3.2]; rfl) fun M4 hw3 => ?_
      have hm4 := nx_moW hm3 hw3 rfl
      refine wp_P (g := ni_gDup 156) rfl rfl ?_
      refine wp_P (g := ni_gPush (.int (4)) 157) rfl (wp_push (z := 4) rfl) ?_
      refine wp_P (g := ni_gPush (.int (1)) 158) rfl (wp_push (z := 1) rfl) ?_
      refine wp_Ld rfl rfl rfl ?_
      refine wp_P (g := ni_gPush (.int (4)) 161) rfl (wp_push (z := 4) rfl) ?_
      refine lz_shr (n := 4) (x := x) rfl (by omega) hx (fun v505 hv505 => ?_)
      refine wp_P (g := ni_gPush (.int (3)) 163) rfl (wp_push (z := 3) rfl) ?_
      refine wp_S (r := [ni_z (1), ni_z (4), .ref M.1.length, .ref M.1.length, ni_z ((i : Int)), .ref la]) (as := [ni_z (v505), ni_z (3)]) rfl (Nat.le_of_ble_eq_true rfl) rfl rfl (Nat.le_of_ble_eq_true rfl) (wp_up (mt_below (v := v505) (n := 3) (by omega)) (by decide)) ?_
      rintro u506 M508 ⟨⟨b507, hb507, huu506⟩, hMM508⟩
      rw [huu506, hMM508]
      refine wp_P rfl wp_add ?_
      have hzi4 := ni_clZ (x := 4) (by omega)
      refine wp_Ast (vs' := [ni_z (a), ni_z (b), ni_z (1 + b503), ni_z (1), ni_z (1 + b507)]) rfl hm4.2.2.2.1 ⟨by decide, rfl, hzi4.1, by rw [hzi4.2]; exact Nat.le_of_ble_eq_true rfl, rfl, rfl⟩ (by rw [hzi4.2]; rfl) fun M5 hw4 => ?_
      have hm5 := nx_moW hm4 hw4 rfl
      have hla5 : M5.1[la]? = some (105, vs) := by rw [hm5.2.2.1 la (lz_lt hR hla).1]; exact (lz_lt hR hla).2
      refine wp_QsA rfl hla5 (by omega) (by rw [Int.toNat_natCast]; omega) hm5.2.2.2.1 fun M6 hw6 => ?_
      rw [Int.toNat_natCast] at hw6
      obtain ⟨k1, k2, k3, hC⟩ := lz_2S (xs := xs) (d := 100) hR hI hCO hF hown hc hla0 hla hvl hvs (by omega) hnl hn8 hm5 hw6 ha hb hab (by omega) (by omega) (by omega)
      refine wp_Ld rfl rfl rfl ?_
      refine wp_Ld rfl rfl rfl ?_
      refine wp_Ld rfl rfl rfl ?_
      refine wp_Ld rfl rfl rfl ?_
      refine wp_Ld rfl rfl rfl ?_
      refine wp_QlA (b := M.1.length) rfl k1 (by omega) (by rw [Int.toNat_natCast]; exact List.getElem?_set_self (by omega)) ?_
      refine wp_P (g := ni_gPush (.int (2)) 179) rfl (wp_push (z := 2) rfl) ?_
      have hzj2 := ni_clZ (x := 2) (by omega)
      refine wp_Ald (v := ni_z (1 + b503)) rfl k2 ⟨by decide, rfl, hzj2.1⟩ (by rw [hzj2.2]; rfl) rfl ?_
      refine wp_P (g := ni_gPush (.int (100)) 182) rfl (wp_push (z := 100) rfl) ?_
      refine wp_Ld rfl rfl rfl ?_
      refine wp_Ld rfl rfl rfl ?_
      refine wp_QlA (b := M.1.length) rfl k1 (by omega) (by rw [Int.toNat_natCast]; exact List.getElem?_set_self (by omega)) ?_
      refine wp_P (g := ni_gPush (.int (4)) 187) rfl (wp_push (z := 4) rfl) ?_
      have hzj4 := ni_clZ (x := 4) (by omega)
      refine wp_Ald (v := ni_z (1 + b507)) rfl k2 ⟨by decide, rfl, hzj4.1⟩ (by rw [hzj4.2]; rfl) rfl ?_
      refine wp_V (r := []) (as := [ni_z (a), ni_z (b), ni_z (1 + b503), ni_z (100), ni_z (1 + b507)]) rfl rfl rfl k3 (Nat.le_of_ble_eq_true rfl) (wp_up hC (by decide)) ?_
      rintro u9 M9 ⟨⟨y9, hu9⟩, hS⟩
      rw [hu9]
      refine wp_P (g := ni_gPop 192) rfl rfl ?_
      refine wp_Inc (ls' := [.ref 0, .ref ni_big, ni_z ((n : Int)), .ref la, ni_z ((i : Int) + 1), ni_z (x), ni_z (a), ni_z (b)]) (x' := (i : Int) + 1) rfl rfl (zi_inc (z := 1) rfl) rfl ?_
      refine wp_P (g := ni_gGo 38) rfl rfl ?_
      exact ih (i + 1) (by omega) _ _ _ _ hS
    refine wp_Ld rfl rfl rfl ?_
    refine wp_Ld rfl rfl rfl ?_
    refine wp_Len rfl hla1 ⟨by decide, by decide⟩ (show Int32.ofNat vs.length = Int32.ofInt (nl : Int) by rw [hvl]; rfl) ?_
    refine wp_Ic false rfl (zc_ge_f ⟨by omega, by omega⟩ ⟨by omega, by omega⟩ (by omega)) ?_
    refine wp_Ld rfl rfl rfl ?_
    refine wp_P (g := ni_gPush (.int (2)) 47) rfl (wp_push (z := 2) rfl) ?_
    refine wp_Ld rfl rfl rfl ?_
    refine wp_P (g := ni_gPush (.int (8)) 51) rfl (wp_push (z := 8) rfl) ?_
    refine wp_P rfl (wp_I0 (zi_rem (by unfold ni_R32; omega) (by omega) (by omega))) ?_
    refine wp_P rfl wp_add ?_
    rw [show (2 : Int) + (i : Int) % 8 = ((2 + i % 8 : Nat) : Int) by omega]
    refine wp_S (r := []) (as := [.ref ni_big, ni_z ((2 + i % 8 : Nat) : Int)]) rfl (Nat.le_of_ble_eq_true rfl) rfl rfl (Nat.le_of_ble_eq_true rfl) (wp_up (mt_cell (k := 2 + i % 8) (by omega) hxs) (by decide)) ?_
    rintro u1 M3 ⟨⟨v2, hv2, huu1⟩, hMM3⟩
    rw [huu1, hMM3]
    refine wp_Ld rfl rfl rfl ?_
    refine wp_P (g := ni_gPush (.int (8)) 60) rfl (wp_push (z := 8) rfl) ?_
    refine wp_P rfl (wp_I0 (zi_div (by unfold ni_R32; omega) (by omega) (by omega))) ?_
    refine wp_P (g := ni_gPush (.int (6)) 63) rfl (wp_push (z := 6) rfl) ?_
    refine wp_P rfl wp_mul ?_
    rw [show (i : Int) / 8 * 6 = ((i / 8 * 6 : Nat) : Int) by omega]
    refine lz_shr (n := i / 8 * 6) (x := v2) rfl (by omega) hv2 (fun x hx => ?_)
    refine wp_St (ls' := [.ref 0, .ref ni_big, ni_z ((n : Int)), .ref la, ni_z ((i : Int)), ni_z (x), w6, w7]) rfl rfl rfl ?_
    refine wp_Ld rfl rfl rfl ?_
    refine wp_Ld rfl rfl rfl ?_
    refine wp_P (g := ni_gPush (.int (1)) 71) rfl (wp_push (z := 1) rfl) ?_
    refine wp_P rfl wp_sub ?_
    by_cases g72 : (((n : Int)) - 1) ≤ ((i : Int))
    · refine wp_Ic true rfl (zc_ge_t ⟨by omega, by omega⟩ ⟨by omega, by omega⟩ g72) ?_
      refine wp_Ld rfl rfl rfl ?_
      refine wp_Ld rfl rfl rfl ?_
      refine wp_S (r := []) (as := [ni_z (x), ni_z ((n : Int))]) rfl (Nat.le_of_ble_eq_true rfl) rfl rfl (Nat.le_of_ble_eq_true rfl) (wp_up (mt_below (v := x) (n := (n : Int)) (by omega)) (by decide)) ?_
      rintro u4 M6 ⟨⟨b5, hb5, huu4⟩, hMM6⟩
      rw [huu4, hMM6]
      refine wp_St (ls' := [.ref 0, .ref ni_big, ni_z ((n : Int)), .ref la, ni_z ((i : Int)), ni_z (x), ni_z (b5), w7]) rfl rfl rfl ?_
      refine wp_Ld rfl rfl rfl ?_
      refine wp_Ld rfl rfl rfl ?_
      refine wp_P (g := ni_gPush (.int (1)) 92) rfl (wp_push (z := 1) rfl) ?_
      refine wp_P rfl wp_sub ?_
      refine wp_Ic true rfl (zc_ge_t ⟨by omega, by omega⟩ ⟨by omega, by omega⟩ g72) ?_
      refine wp_Ld rfl rfl rfl ?_
      refine wp_P (g := ni_gPush (.int (1)) 106) rfl (wp_push (z := 1) rfl) ?_
      refine wp_P rfl wp_add ?_
      refine wp_Ld rfl rfl rfl ?_
      refine wp_P (g := ni_gPush (.int (3)) 110) rfl (wp_push (z := 3) rfl) ?_
      refine lz_shr (n := 3) (x := x) rfl (by omega) hx (fun v7 hv7 => ?_)
      refine wp_Ld rfl rfl rfl ?_
      refine wp_P (g := ni_gPush (.int (1)) 113) rfl (wp_push (z := 1) rfl) ?_
      refine wp_P rfl wp_sub ?_
      refine wp_S (r := [ni_z (b5 + 1)]) (as := [ni_z (v7), ni_z (((n : Int)) - 1)]) rfl (Nat.le_of_ble_eq_true rfl) rfl rfl (Nat.le_of_ble_eq_true rfl) (wp_up (mt_below (v := v7) (n := ((n : Int)) - 1) (by omega)) (by decide)) ?_
      rintro u8 M10 ⟨⟨b9, hb9, huu8⟩, hMM10⟩
      rw [huu8, hMM10]
      refine wp_P rfl wp_add ?_
      refine wp_Ld rfl rfl rfl ?_
      refine wp_P rfl (wp_I0 (zi_rem (by unfold ni_R32; omega) (by omega) (by omega))) ?_
      refine wp_St (ls' := [.ref 0, .ref ni_big, ni_z ((n : Int)), .ref la, ni_z ((i : Int)), ni_z (x), ni_z (b5), ni_z (((b5 + 1) + b9) % ((n : Int)))]) rfl rfl rfl ?_
      obtain ⟨r1, r2, r3⟩ := lz_rem (a := b5) (b := b9) (n := (n : Int)) (by omega) (by omega)
      exact hrest x hx (b5) (((b5 + 1) + b9) % ((n : Int))) (by omega) ⟨r1, r2⟩ r3
    · refine wp_Ic false rfl (zc_ge_f ⟨by omega, by omega⟩ ⟨by omega, by omega⟩ g72) ?_
      refine wp_Ld rfl rfl rfl ?_
      refine wp_P (g := ni_gGo 86) rfl rfl ?_
      refine wp_St (ls' := [.ref 0, .ref ni_big, ni_z ((n : Int)), .ref la, ni_z ((i : Int)), ni_z (x), ni_z ((i : Int)), w7]) rfl rfl rfl ?_
      refine wp_Ld rfl rfl rfl ?_
      refine wp_Ld rfl rfl rfl ?_
      refine wp_P (g := ni_gPush (.int (1)) 92) rfl (wp_push (z := 1) rfl) ?_
      refine wp_P rfl wp_sub ?_
      refine wp_Ic false rfl (zc_ge_f ⟨by omega, by omega⟩ ⟨by omega, by omega⟩ g72) ?_
      refine wp_Ld rfl rfl rfl ?_
      refine wp_P (g := ni_gPush (.int (1)) 99) rfl (wp_push (z := 1) rfl) ?_
      refine wp_P rfl wp_add ?_
      refine wp_P (g := ni_gGo 120) rfl rfl ?_
      refine wp_St (ls' := [.ref 0, .ref ni_big, ni_z ((n : Int)), .ref la, ni_z ((i : Int)), ni_z (x), ni_z ((i : Int)), ni_z (((i : Int)) + 1)]) rfl rfl rfl ?_
      exact hrest x hx ((i : Int)) (((i : Int)) + 1) (by omega) (by omega) (by omega)
set_option maxRecDepth 20000 in
theorem mt_bdR {n : Nat} (hxs : xs.length ≤ 100000) (hn2 : 2 ≤ n) (hn8 : n ≤ 6) : ∀ k i : Nat, i + k = n → ∀ M : ni_H, lz_1 i M → wp_G xs 30 153 2 [.ref 0, .ref ni_big, ni_z (n : Int), ni_z (i : Int), ni_J, ni_J, ni_J, ni_J] [] M (fun u M' => ∃ nl la, u = some (.ref la) ∧ (1 ≤ nl ∧ nl ≤ 14) ∧ lz_2 n nl nl la M') := by
  intro k
  induction k with
  | zero =>
    intro i hi M hS
    refine wp_Ld rfl rfl rfl ?_
    refine wp_Ld rfl rfl rfl ?_
    refine wp_Ic true rfl (zc_ge_t ⟨by omega, by omega⟩ ⟨by omega, by omega⟩ (by omega)) ?_
    refine wp_Ld rfl rfl rfl ?_
    refine wp_P (g := ni_gPush (.int (1)) 20) rfl (wp_push (z := 1) rfl) ?_
    refine wp_P rfl wp_sub ?_
    refine wp_Ld rfl rfl rfl ?_
    refine wp_P (g := ni_gPush (.int (1)) 23) rfl (wp_push (z := 1) rfl) ?_
    refine wp_S (r := [ni_z (((n : Int)) - 1)]) (as := [.ref ni_big, ni_z ((1 : Nat) : Int)]) rfl (Nat.le_of_ble_eq_true rfl) rfl rfl (Nat.le_of_ble_eq_true rfl) (wp_up (mt_cell (k := 1) (by omega) hxs) (by decide)) ?_
    rintro u1 M3 ⟨⟨v2, hv2, huu1⟩, hMM3⟩
    rw [huu1, hMM3]
    refine wp_P (g := ni_gPush (.int (5)) 27) rfl (wp_push (z := 5) rfl) ?_
    refine wp_S (r := [ni_z (((n : Int)) - 1)]) (as := [ni_z (v2), ni_z (5)]) rfl (Nat.le_of_ble_eq_true rfl) rfl rfl (Nat.le_of_ble_eq_true rfl) (wp_up (mt_below (v := v2) (n := 5) (by omega)) (by decide)) ?_
    rintro u4 M6 ⟨⟨b5, hb5, huu4⟩, hMM6⟩
    rw [huu4, hMM6]
    refine wp_P rfl wp_add ?_
    obtain ⟨nl, hnl⟩ : ∃ nl : Nat, (nl : Int) = (((n : Int)) - 1) + b5 := ⟨((((n : Int)) - 1) + b5).toNat, by omega⟩
    have hin : n = i := by omega
    subst hin
    obtain ⟨A, q1, q2, q3, q4, q5, q6, q7, q8, q9, q10⟩ := lz_1E hS (by omega)
    have hM0 := lz_M q1 (by omega)
    refine wp_ANewM rfl (by omega) hM0.1 hM0.2 (fun M0 hm0 => ?_)
    rw [show ((((n : Int)) - 1) + b5).toNat = nl by omega] at hm0
    have g1 := lz_n q1 hm0 (by omega)
    refine wp_St (ls' := [.ref 0, .ref ni_big, ni_z ((n : Int)), .ref M.1.length, ni_J, ni_J, ni_J, ni_J]) rfl rfl rfl ?_
    refine wp_P (g := ni_gPush (.int (0)) 36) rfl (wp_push (z := 0) rfl) ?_
    refine wp_St (ls' := [.ref 0, .ref ni_big, ni_z ((n : Int)), .ref M.1.length, ni_z (0), ni_J, ni_J, ni_J]) rfl rfl rfl ?_
    refine wp_Gmono (mt_bdL (nl := nl) (la := M.1.length) hxs hn2 hn8 (by omega) nl 0 (by omega) _ _ _ _ ⟨nx_ad na_S0 M.1.length (105, List.replicate nl .null), fun _ => 0, A, List.replicate nl .null, ?_, lz_Inv (fun a c hc ha => ?_) q2, q3, q4, fun _ => by show (0 : Int) ≤ 2 * ((0 : Nat) : Int); omega, ⟨q5, q6, q7, q8, q9, q10⟩, ?_, nx_adE, by simp, fun l hl => by omega⟩) (fun u M' hu => hu.elim fun la h => ⟨nl, la, h.1, ⟨by omega, by omega⟩, h.2⟩)
    · obtain ⟨w1, w2, w3, w4, t1, t2, t3, t4, t5, t6⟩ := g1
      refine ⟨w1, w2, w3, w4, t1, t2, t3, by omega, ?_, t6⟩
      have : ((100 + 5, List.replicate nl .null) : ni_C).2.length = nl := by simp
      omega
    · rw [nx_adN (by have := (lz_lt q1 ha).1; omega)]
      exact ha
    · obtain ⟨w1, w2, w3, w4, t1, t2, t3, t4, t5, t6⟩ := q1
      have := nx_ltS t1 t6
      omega
  | succ k ih =>
    intro i hi M hS
    refine wp_Ld rfl rfl rfl ?_
    refine wp_Ld rfl rfl rfl ?_
    refine wp_Ic false rfl (zc_ge_f ⟨by omega, by omega⟩ ⟨by omega, by omega⟩ (by omega)) ?_
    refine wp_Ld rfl rfl rfl ?_
    have h0 : M.1[0]? = some (9, [.ref 1, .ref 375]) := by
      obtain ⟨A, _, _, h3, _⟩ := hS
      exact (h3.2.2.2.2.1 0 _ rfl).1
    refine wp_V (r := []) (as := []) rfl rfl rfl h0 (Nat.le_of_ble_eq_true rfl) (wp_up (lz_1R (xs := xs) hS (by omega)) (by decide)) ?_
    rintro u9 M9 ⟨⟨y9, hu9⟩, hS9⟩
    rw [hu9]
    refine wp_P (g := ni_gPop 12) rfl rfl ?_
    refine wp_Inc (ls' := [.ref 0, .ref ni_big, ni_z ((n : Int)), ni_z ((i : Int) + 1), ni_J, ni_J, ni_J, ni_J]) (x' := (i : Int) + 1) rfl rfl (zi_inc (z := 1) rfl) rfl ?_
    refine wp_P (g := ni_gGo 2) rfl rfl ?_
    exact ih (i + 1) (by omega) M9 hS9
set_option maxRecDepth 20000 in
/-- BUILD -/
theorem mt_build {n : Nat} (hxs : xs.length ≤ 100000) (hn2 : 2 ≤ n) (hn8 : n ≤ 6) (hS : lz_1 0 M) : wp_C xs 31 153 [.ref 0, .ref ni_big, ni_z (n : Int)] M (fun u M' => ∃ nl la, u = some (.ref la) ∧ (1 ≤ nl ∧ nl ≤ 14) ∧ lz_2 n nl nl la M') := by
  refine wp_enter (Nat.le_of_ble_eq_true rfl) (ls := [.ref 0, .ref ni_big, ni_z (n : Int), ni_J, ni_J, ni_J, ni_J, ni_J]) rfl ?_
  refine wp_P (g := ni_gPush (.int 0) 1) rfl (wp_push (z := 0) rfl) ?_
  refine wp_St (ls' := [.ref 0, .ref ni_big, ni_z (n : Int), ni_z ((0 : Nat) : Int), ni_J, ni_J, ni_J, ni_J]) rfl rfl rfl ?_
  exact mt_bdR hxs hn2 hn8 n 0 (by omega) M hS
end NBD
