/-! THE LAW'S OWN STATE -/
section NLB
variable {xs : List Int32} {St St' : Nat → Option ni_C} {M M' : ni_H} {A A' B B' : Nat → Nat → Int} {own : Nat → Int} {c z : Nat}
def na_1 (s : Nat) : Nat := 1 + s
def na_2 (s : Nat) : Nat := 375 + s
/-- two nets, and how large the heap is -/
def lz_R (St : Nat → Option ni_C) (M : ni_H) (A B : Nat → Nat → Int) (c z : Nat) : Prop := ∃ rw cp rw' cp' : Nat → Nat, ni_Rep St M na_1 rw cp A (ni_live A) ∧ ni_Rep St M na_2 rw' cp' B (ni_live B) ∧ np_dj na_1 rw na_2 rw' ∧ M.1.length ≤ c + ni_gz cp + ni_gz cp' ∧ ni_zs M ≤ z + 4 * ni_gz cp + 4 * ni_gz cp' ∧ St 0 = some (9, [.ref 1, .ref 375])
theorem lz_P {rw cp rw' cp' : Nat → Nat} (h1 : ni_Rep St M na_1 rw cp A (ni_live A)) (h2 : ni_Rep St M na_2 rw' cp' B (ni_live B)) (h3 : np_dj na_1 rw na_2 rw') (h4 : M.1.length ≤ c + ni_gz cp + ni_gz cp') (hc : c ≤ 100000) : np_R St M na_1 rw cp na_2 rw' cp' A B := ⟨h1, h2, h3, by omega⟩
/-- a call that touches the net alone -/
theorem lz_f {d y : Nat} {as : List ni_a} {P : Option ni_a → (Nat → Nat → Int) → Prop} (hF : nf_F xs St (fun a => a 0 = na_1 0) d y as A P) (hc : c ≤ 100000) : ∃ v A', P v A' ∧ ∀ (B : Nat → Nat → Int) (M : ni_H), lz_R St M A B c z → wp_C xs d y (as.map (ni_dn na_1 na_1)) M (fun u M' => u = v.map (ni_dn na_1 na_1) ∧ lz_R St M' A' B c z) := by
  obtain ⟨v, A', h1, h2⟩ := np_face hF
  refine ⟨v, A', h1, fun B M hR => ?_⟩
  obtain ⟨rw, cp, rw', cp', r1, r2, r3, r4, r5, r6⟩ := hR
  refine wp_mono (h2 B na_2 M rw cp rw' cp' (lz_P r1 r2 r3 r4 hc)) ?_
  rintro u M' ⟨hu, rw3, cp3, g3, g4⟩
  obtain ⟨p1, p2, p3, p4⟩ := g3
  obtain ⟨k1, k2, k3, k4, k5, k6⟩ := g4
  exact ⟨hu, rw3, cp3, rw', cp', p1, p2, p3, by omega, by omega, r6⟩
/-- the same, of a question -/
theorem lz_q {d y : Nat} {as : List ni_a} {Pv : Option ni_a → Prop} (hF : nf_F xs St (fun a => a 0 = na_1 0) d y as A (fun v A' => Pv v ∧ A' = A)) (hc : c ≤ 100000) (hR : lz_R St M A B c z) : wp_C xs d y (as.map (ni_dn na_1 na_1)) M (fun u M' => ∃ v, Pv v ∧ u = v.map (ni_dn na_1 na_1) ∧ lz_R St M' A B c z) := by
  obtain ⟨v, A', ⟨h1, hA⟩, h2⟩ := lz_f (z := z) hF hc
  subst hA
  exact wp_mono (h2 B M hR) (fun u M' hu => ⟨v, h1, hu⟩)
theorem lz_K {rw cp rw' cp' rw3 cp3 rw4 cp4 : Nat → Nat} (h4 : M.1.length ≤ c + ni_gz cp + ni_gz cp') (h5 : ni_zs M ≤ z + 4 * ni_gz cp + 4 * ni_gz cp') (h6 : St 0 = some (9, [.ref 1, .ref 375])) (hP : np_R St M' na_1 rw3 cp3 na_2 rw4 cp4 A' B') (hK : np_K M na_1 rw cp na_2 rw' cp' M' rw3 cp3 rw4 cp4) : lz_R St M' A' B' c z := by
  obtain ⟨p1, p2, p3, p4⟩ := hP
  obtain ⟨k1, k2, k3, k4, k5, k6⟩ := hK
  exact ⟨rw3, cp3, rw4, cp4, p1, p2, p3, by omega, by omega, h6⟩
/-- a call that writes letters -/
theorem lz_x {rw cp rw' cp' : Nat → Nat} {e : Int} {k : Nat} {St0 : Nat → Option ni_C} (h1 : ni_Rep St0 M na_1 rw cp A (ni_live A)) (h2 : ni_Rep St0 M na_2 rw' cp' B (ni_live B)) (h3 : np_dj na_1 rw na_2 rw') (h4 : M.1.length ≤ c + ni_gz cp + ni_gz cp') (h5 : ni_zs M ≤ z + 4 * ni_gz cp + 4 * ni_gz cp') (h6 : St0 0 = some (9, [.ref 1, .ref 375])) (hc : c + 3 * k ≤ 100000) (hQ : nx_Q St0 own A' e k M na_1 rw cp M') : ∃ (St' : Nat → Option ni_C) (own' : Nat → Int) (A2 : Nat → Nat → Int), lz_R St' M' A2 B (c + 3 * k) (z + 43 * k) ∧ nq_Inv St' own' A2 e ∧ nq_fr1 A' A2 ∧ (∀ q, ni_ln0 q → 48 + 17 * A' 0 2 ≤ q → A2 q 2 = A' q 2) ∧ (∀ a c, St0 a = some c → St' a = some c) ∧ (∀ x, own' x ≤ own x + k) := by
  obtain ⟨St', own', A2, g1, g2, g3, g4, g5, rw1, cp1, g6, g7⟩ := hQ
  obtain ⟨k1, k2, k3, k4, k5⟩ := g7
  have b1 := np_gz h1.2.2.1
  have b2 := np_gz h2.2.2.1
  have b3 := np_gz g6.2.2.1
  have lt2 : ∀ s, ni_us s = true → ni_pl na_2 rw' s < M.1.length := fun s hs => nx_ltP h2 hs
  have hdj : np_dj na_1 rw1 na_2 rw' := fun s t hs ht e => by
    have hlt := lt2 t ht
    have h3s := h3 s t hs ht
    unfold ni_pl at e h3s hlt
    cases hl : ni_lr s with
    | false =>
      rw [hl, cond_false] at e h3s
      exact h3s e
    | true =>
      rw [hl, cond_true] at e h3s
      rcases k2 s hs with zz | zz
      · rw [zz] at e
        exact h3s e
      · omega
  obtain ⟨r1, r2, r3, r4, r5, r6, r7, r8⟩ := h2
  refine ⟨St', own', A2, ⟨rw1, cp1, rw', cp', g6, ⟨r1, fun s hs => ?_, r3, r4, fun a c ha => ⟨(g6.2.2.2.2.1 a c ha).1, fun s hs => ?_⟩, g6.2.2.2.2.2.1, by omega, r8⟩, hdj, by omega, by omega, g4.1 _ _ h6⟩, g1, g2, g3, g4.1, fun x => (g5 x).2⟩
  · obtain ⟨vs, w1, w2, w3⟩ := r2 s hs
    refine ⟨vs, ?_, w2, w3⟩
    rw [k1 _ (lt2 s hs) (fun t ht => h3 t s ht hs)]
    exact w1
  · rcases g4.2 a c ha with zz | zz
    · exact (r5 a c zz).2 s hs
    · have := lt2 s hs
      omega
/-- a cell that is told changes, and is told anew -/
theorem lz_w {la : Nat} {c0 c1 : ni_C} (hR : lz_R St M A B c z) (h0 : la ≠ 0) (hla : St la = some c0) (hw : wp_wr M la c1 M') (hl : c1.2.length = c0.2.length) : lz_R (nx_ad St la c1) M' A B c z := by
  obtain ⟨rw, cp, rw', cp', r1, r2, r3, r4, r5, r6⟩ := hR
  have m0 := (r1.2.2.2.2.1 la c0 hla).1
  have hz := ni_zsW m0 hw (by rw [hl])
  obtain ⟨w1, w2, w3, w4⟩ := hw
  have key : ∀ (ad rw cp : Nat → Nat) (X : Nat → Nat → Int), ni_Rep St M ad rw cp X (ni_live X) → ni_Rep (nx_ad St la c1) M' ad rw cp X (ni_live X) := fun ad rw cp X h => by
    obtain ⟨q1, q2, q3, q4, q5, q6, q7, q8⟩ := h
    refine ⟨q1, fun s hs => ?_, q3, q4, fun a c' ha => ?_, by rw [w4]; exact q6, by rw [w3]; exact q7, q8⟩
    · obtain ⟨vs, v1, v2, v3⟩ := q2 s hs
      exact ⟨vs, by rw [w2 _ ((q5 la c0 hla).2 s hs)]; exact v1, v2, v3⟩
    · by_cases e : a = la
      · subst e
        rw [nx_adE] at ha
        cases ha
        exact ⟨w1, (q5 a c0 hla).2⟩
      · rw [nx_adN e] at ha
        exact ⟨by rw [w2 a e]; exact (q5 a c' ha).1, (q5 a c' ha).2⟩
  exact ⟨rw, cp, rw', cp', key _ _ _ _ r1, key _ _ _ _ r2, r3, by rw [w3]; exact r4, by rw [hz]; exact r5, by rw [nx_adN (fun e => h0 e.symm)]; exact r6⟩
/-- a new cell is told -/
theorem lz_n {c1 : ni_C} (hR : lz_R St M A B c z) (hm : nx_mo M M' c1) (hc : c + 1 ≤ 100000) : lz_R (nx_ad St M.1.length c1) M' A B (c + 1) (z + c1.2.length) := by
  obtain ⟨rw, cp, rw', cp', r1, r2, r3, r4, r5, r6⟩ := hR
  have b1 := np_gz r1.2.2.1
  have b2 := np_gz r2.2.2.1
  have h0 := nx_ltS r1 r6
  have e1 := nx_moR r1 hm (by omega)
  have e2 := nx_moR r2 hm (by omega)
  exact ⟨rw, cp, rw', cp', nx_put e1 hm.2.2.2.1 (fun s hs e => by have := nx_ltP r1 hs; omega), nx_put e2 hm.2.2.2.1 (fun s hs e => by have := nx_ltP r2 hs; omega), r3, by have := hm.1; omega, by have := hm.2.2.2.2; omega, by rw [nx_adN (by omega)]; exact r6⟩
theorem lz_lt (hR : lz_R St M A B c z) {a : Nat} {c1 : ni_C} (h : St a = some c1) : a < M.1.length ∧ M.1[a]? = some c1 := by
  obtain ⟨rw, cp, rw', cp', r1, r2, r3, r4, r5, r6⟩ := hR
  exact ⟨nx_ltS r1 h, (r1.2.2.2.2.1 a c1 h).1⟩
theorem lz_M (hR : lz_R St M A B c z) (hc : c ≤ 100000) : M.2 = 0 ∧ M.1.length < 1000000 := by
  obtain ⟨rw, cp, rw', cp', r1, r2, r3, r4, r5, r6⟩ := hR
  have b1 := np_gz r1.2.2.1
  have b2 := np_gz r2.2.2.1
  exact ⟨r1.2.2.2.2.2.1, by omega⟩
end NLB
/-! THE LAW'S NUMBERS -/
section NLN
variable {xs : List Int32} {M : ni_H}
theorem lz_and {v : Int} : ∃ b : Int, 0 ≤ b ∧ b ≤ 2147483647 ∧ Int32.ofInt v &&& Int32.ofInt 2147483647 = Int32.ofInt b := by
  obtain ⟨k, hk⟩ : ∃ k : Nat, k = ((Int32.ofInt v).toBitVec &&& (Int32.ofInt 2147483647).toBitVec).toNat := ⟨_, rfl⟩
  have h1 : k < 2 ^ 31 := by
    rw [hk, BitVec.toNat_and]
    exact Nat.and_lt_two_pow _ (by decide)
  refine ⟨(k : Int), by omega, by omega, ?_⟩
  apply Int32.toBitVec_inj.mp
  rw [zb_N, hk, BitVec.ofNat_toNat, BitVec.setWidth_eq]
  rfl
theorem mt_below {v n : Int} (hn : 1 ≤ n ∧ n ≤ 1000000) : wp_C xs 1 152 [ni_z v, ni_z n] M (fun u M' => (∃ b : Int, (0 ≤ b ∧ b < n) ∧ u = some (ni_z b)) ∧ M' = M) := by
  obtain ⟨b, b0, b1, hb⟩ := lz_and (v := v)
  refine wp_enter (Nat.le_of_ble_eq_true rfl) (ls := [ni_z v, ni_z n]) rfl ?_
  refine wp_Ld rfl rfl rfl ?_
  refine wp_P (g := ni_gPush (.int 2147483647) 3) rfl (wp_push (z := 2147483647) rfl) ?_
  refine wp_P rfl (wp_I (c := b) hb) ?_
  refine wp_Ld rfl rfl rfl ?_
  refine wp_P rfl (wp_I0 (zi_rem (by unfold ni_R32; omega) (by omega) b0)) ?_
  exact wp_R rfl rfl ⟨⟨b % n, ⟨Int.emod_nonneg _ (by omega), Int.emod_lt_of_pos _ (by omega)⟩, rfl⟩, rfl⟩
theorem mt_cell {k : Nat} (hk : k ≤ 1000) (hx : xs.length ≤ 100000) : wp_C xs 1 154 [.ref ni_big, ni_z (k : Int)] M (fun u M' => (∃ v : Int, ni_R32 v ∧ u = some (ni_z v)) ∧ M' = M) := by
  refine wp_enter (Nat.le_of_ble_eq_true rfl) (ls := [.ref ni_big, ni_z (k : Int)]) rfl ?_
  refine wp_Ld rfl rfl rfl ?_
  refine wp_Ld rfl rfl rfl ?_
  have hln : ∀ {d y pc q : Nat} {ls st : List Value} {Q : Option Value → ni_H → Prop}, ni_prog xs y pc = ni_sSln xs q → wp_G xs d y q ls (ni_z (xs.length : Int) :: st) M Q → wp_G xs d y pc ls (.ref ni_big :: st) M Q := fun hp hg => by
    obtain ⟨u, M', ⟨n, h1⟩, h3⟩ := hg
    refine ⟨u, M', ⟨n + 1, ?_⟩, h3⟩
    rw [ni_exS, hp]
    unfold ni_sSln
    dsimp only
    rw [if_pos rfl]
    exact h1
  refine hln (q := 3) rfl ?_
  by_cases c : (xs.length : Int) ≤ k
  · refine wp_Ic true rfl (zc_ge_t ⟨by omega, by omega⟩ ⟨by omega, by omega⟩ c) ?_
    refine wp_P (g := ni_gPush (.int 790386105) 14) rfl (wp_push (z := 790386105) rfl) ?_
    refine wp_Ld rfl rfl rfl ?_
    refine wp_P (g := ni_gPush (.int 3) 16) rfl (wp_push (z := 3) rfl) ?_
    refine wp_P rfl wp_add ?_
    refine wp_P rfl wp_mul ?_
    obtain ⟨v, h1, h2⟩ := zi_ex (Int32.ofInt (790386105 * ((k : Int) + 3)))
    exact wp_R rfl rfl ⟨⟨v, h2, congrArg (fun z => some (Value.int z)) h1⟩, rfl⟩
  · refine wp_Ic false rfl (zc_ge_f ⟨by omega, by omega⟩ ⟨by omega, by omega⟩ c) ?_
    refine wp_Ld rfl rfl rfl ?_
    refine wp_Ld rfl rfl rfl ?_
    have hk2 : k < xs.length := by omega
    have hsl : ∀ {d y pc q : Nat} {ls st : List Value} {Q : Option Value → ni_H → Prop}, ni_prog xs y pc = ni_sSld xs q → wp_G xs d y q ls (.int xs[k] :: st) M Q → wp_G xs d y pc ls (ni_z (k : Int) :: .ref ni_big :: st) M Q := fun hp hg => by
      obtain ⟨u, M', ⟨n, h1⟩, h3⟩ := hg
      have hz := ni_clZ (x := (k : Int)) (by omega)
      refine ⟨u, M', ⟨n + 1, ?_⟩, h3⟩
      rw [ni_exS, hp]
      unfold ni_sSld
      dsimp only
      rw [if_pos ⟨rfl, hz.1⟩, hz.2, Int.toNat_natCast, List.getElem?_eq_getElem hk2]
      exact h1
    refine hsl (q := 9) rfl ?_
    refine wp_P (g := ni_gGo 18) rfl rfl ?_
    obtain ⟨v, h1, h2⟩ := zi_ex xs[k]
    exact wp_R rfl rfl ⟨⟨v, h2, congrArg (fun z => some (Value.int z)) h1⟩, rfl⟩
theorem lz_shr {d y pc q n : Nat} {x : Int} {ls st : List Value} {Q : Option Value → ni_H → Prop} (hp : ni_prog xs y pc = ni_sP (ni_gI (fun x y => x >>> (y &&& 31)) q)) (hn : n < 32) (hx : ni_R32 x) (k : ∀ v : Int, ni_R32 v → wp_G xs d y q ls (ni_z v :: st) M Q) : wp_G xs d y pc ls (ni_z (n : Int) :: ni_z x :: st) M Q := by
  obtain ⟨v, h1, h2⟩ := zi_ex (Int32.ofInt (x / 2 ^ n))
  refine wp_P hp (wp_I (c := v) ?_) (k v h2)
  rw [zb_shr hx hn]
  exact h1
end NLN
