/-! CELLS THAT COME TO STAY -/
section NXC
variable {xs : List Int32} {St : Nat → Option ni_C} {M M' M0 M1 : ni_H} {ad rw cp rw0 cp0 rw1 cp1 : Nat → Nat} {A : Nat → Nat → Int} {L : Nat → Nat}
section X
variable {d y pc q : Nat} {ls st : List Value} {Q : Option Value → ni_H → Prop}
theorem wp_New {ci : Nat} {fs : List Value} (hp : ni_prog xs y pc = ni_sNew ci fs q) (h2 : M.2 = 0) (hb : M.1.length < 1000000) (k : wp_G xs d y q ls (.ref M.1.length :: st) (M.1 ++ [(ci, fs)], M.2) Q) : wp_G xs d y pc ls st M Q := by
  obtain ⟨u, M', ⟨n, h1⟩, h3⟩ := k
  refine ⟨u, M', ⟨n + 1, ?_⟩, h3⟩
  rw [ni_exS, hp]
  unfold ni_sNew
  rw [if_pos ⟨h2, hb⟩]
  exact h1
theorem wp_Ini {y' nn a : Nat} {r as : List Value} {Q1 : Option Value → ni_H → Prop} (hp : ni_prog xs y pc = ni_sI y' nn q) (hd : st.drop nn = .ref a :: r) (ht : (st.take nn).reverse = as) (hc : ni_cs r ≤ 8) (hr : wp_C xs d y' (.ref a :: as) M Q1) (hn : ∀ v M', Q1 v M' → v = none) (k : ∀ M', Q1 none M' → wp_G xs d y q ls r M' Q) : wp_G xs d y pc ls st M Q := by
  obtain ⟨v, M1, h1, h2⟩ := hr
  have e := hn v M1 h2
  subst e
  obtain ⟨u, M2, h3, h4⟩ := k M1 h2
  exact ⟨u, M2, ni_xI hp hd ht hc h1 h3, h4⟩
end X
def nx_ad (St : Nat → Option ni_C) (a : Nat) (c : ni_C) : Nat → Option ni_C := fun b => if b = a then some c else St b
theorem nx_adE {a : Nat} {c : ni_C} : nx_ad St a c a = some c := if_pos rfl
theorem nx_adN {a b : Nat} {c : ni_C} (h : b ≠ a) : nx_ad St a c b = St b := if_neg h
/-- St' knows what St knows, and new cells -/
def nx_sub (n : Nat) (St St' : Nat → Option ni_C) : Prop := (∀ a c, St a = some c → St' a = some c) ∧ ∀ a c, St' a = some c → St a = some c ∨ n ≤ a
theorem nx_subR {n : Nat} : nx_sub n St St := ⟨fun _ _ h => h, fun _ _ h => Or.inl h⟩
theorem nx_subT {n n' : Nat} {S1 S2 : Nat → Option ni_C} (h : nx_sub n St S1) (h' : nx_sub n' S1 S2) (hn : n ≤ n') : nx_sub n St S2 := ⟨fun a c g => h'.1 a c (h.1 a c g), fun a c g => (h'.2 a c g).elim (fun z => h.2 a c z) (fun z => Or.inr (by omega))⟩
theorem nx_ltP (h : ni_Rep St M ad rw cp A L) {s : Nat} (hs : ni_us s = true) : ni_pl ad rw s < M.1.length := by
  obtain ⟨vs, w, _⟩ := h.2.1 s hs
  exact (List.getElem?_eq_some_iff.mp w).1
theorem nx_ltS (h : ni_Rep St M ad rw cp A L) {a : Nat} {c : ni_C} (ha : St a = some c) : a < M.1.length := (List.getElem?_eq_some_iff.mp (h.2.2.2.2.1 a c ha).1).1
theorem nx_cell {s ci : Nat} (h : ni_Rep St M ad rw cp A L) (hs : ni_us s = true) (hk : ni_kd s = ci) (ho : ni_ob ci = true) : ∃ vs, M.1[ad s]? = some (ci, vs) := by
  obtain ⟨o1, o2, o3⟩ := ni_objS hs hk ho
  obtain ⟨vs, g1, g2, g3⟩ := h.2.1 s hs
  have hpl : ni_pl ad rw s = ad s := by
    unfold ni_pl
    rw [o2, cond_false]
  rw [hpl, hk] at g1
  exact ⟨vs, g1⟩
/-- other cells change -/
theorem nx_fr (h : ni_Rep St M ad rw cp A L) (hl : M'.1.length + 57344 ≤ 900000 + ni_gz cp) (h2 : M'.2 = 0) (hP : ∀ s, ni_us s = true → M'.1[ni_pl ad rw s]? = M.1[ni_pl ad rw s]?) (hS : ∀ a c, St a = some c → M'.1[a]? = M.1[a]?) : ni_Rep St M' ad rw cp A L := by
  obtain ⟨r1, r2, r3, r4, r5, r6, r7, r8⟩ := h
  refine ⟨r1, fun s hs => ?_, r3, r4, fun a c ha => ⟨by rw [hS a c ha]; exact (r5 a c ha).1, (r5 a c ha).2⟩, h2, hl, r8⟩
  rw [hP s hs]
  exact r2 s hs
/-- a cell is told -/
theorem nx_put (h : ni_Rep St M ad rw cp A L) {a : Nat} {c : ni_C} (ha : M.1[a]? = some c) (hp : ∀ s, ni_us s = true → ni_pl ad rw s ≠ a) : ni_Rep (nx_ad St a c) M ad rw cp A L := by
  obtain ⟨r1, r2, r3, r4, r5, r6, r7, r8⟩ := h
  refine ⟨r1, r2, r3, r4, fun b c' hb => ?_, r6, r7, r8⟩
  by_cases e : b = a
  · subst e
    rw [nx_adE] at hb
    cases hb
    exact ⟨ha, hp⟩
  · rw [nx_adN e] at hb
    exact r5 b c' hb
/-- what a call keeps; k new cells, z new places -/
def nx_Kp (k z : Nat) (M0 : ni_H) (ad rw0 cp0 : Nat → Nat) (M : ni_H) (rw cp : Nat → Nat) : Prop :=
  (∀ b, b < M0.1.length → (∀ s, ni_us s = true → ni_pl ad rw0 s ≠ b) → M.1[b]? = M0.1[b]?) ∧
  (∀ s, ni_us s = true → rw s = rw0 s ∨ M0.1.length ≤ rw s) ∧
  M0.1.length + ni_gz cp + k ≥ M.1.length + ni_gz cp0 ∧ ni_zs M0 + 4 * ni_gz cp + z ≥ ni_zs M + 4 * ni_gz cp0 ∧ M0.1.length ≤ M.1.length
theorem nx_Kp0 (h : ni_Kp M0 ad rw0 cp0 M rw cp) : nx_Kp 0 0 M0 ad rw0 cp0 M rw cp := by
  obtain ⟨a1, a2, a3, a4, a5⟩ := h
  exact ⟨a1, a2, by omega, by omega, a5⟩
theorem nx_KpT {k z k' z' : Nat} (h : nx_Kp k z M0 ad rw0 cp0 M rw cp) (h' : nx_Kp k' z' M ad rw cp M' rw1 cp1) : nx_Kp (k + k') (z + z') M0 ad rw0 cp0 M' rw1 cp1 := by
  obtain ⟨a1, a2, a3, a4, a5⟩ := h
  obtain ⟨b1, b2, b3, b4, b5⟩ := h'
  refine ⟨fun b hb hn => ?_, fun s hs => ?_, by omega, by omega, by omega⟩
  · rw [b1 b (by omega) (fun s hs => np_plN (a2 s hs) hb (hn s hs))]
    exact a1 b hb hn
  · rcases b2 s hs with r | r
    · rw [r]
      exact a2 s hs
    · exact Or.inr (by omega)
theorem nx_KpM {k z k' z' : Nat} (h : nx_Kp k z M0 ad rw0 cp0 M rw cp) (hk : k ≤ k') (hz : z ≤ z') : nx_Kp k' z' M0 ad rw0 cp0 M rw cp := by
  obtain ⟨a1, a2, a3, a4, a5⟩ := h
  exact ⟨a1, a2, by omega, by omega, a5⟩
end NXC
/-! THE PREFIXES AT A ROUTER -/
section NXP
variable {xs : List Int32} {St : Nat → Option ni_C} {M M' M0 : ni_H} {ad rw cp : Nat → Nat} {A : Nat → Nat → Int}
/-- prefixes -/
def nx_pf (ns : List Value) : Prop := ∀ i : Nat, i < ns.length → ∃ c : Int, ns[i]? = some (ni_z c) ∧ 0 ≤ c ∧ c < 2097152 ∧ c % 32 ≤ 16
/-- one cell more than M0 has, at its end -/
def nx_mo (M0 M : ni_H) (c : ni_C) : Prop := M.1.length = M0.1.length + 1 ∧ M.2 = 0 ∧ (∀ b, b < M0.1.length → M.1[b]? = M0.1[b]?) ∧ M.1[M0.1.length]? = some c ∧ ni_zs M = ni_zs M0 + c.2.length
theorem nx_moA {c : ni_C} (h2 : M.2 = 0) : nx_mo M (M.1 ++ [c], M.2) c := ⟨by simp, h2, fun b hb => by show (M.1 ++ [c])[b]? = _; rw [List.getElem?_append_left hb], by simp, ni_zsA⟩
theorem nx_moR {c : ni_C} {L : Nat → Nat} (h : ni_Rep St M0 ad rw cp A L) (hm : nx_mo M0 M c) (hb : M0.1.length + 57345 ≤ 900000 + ni_gz cp) : ni_Rep St M ad rw cp A L := nx_fr h (by have := hm.1; omega) hm.2.1 (fun s hs => hm.2.2.1 _ (nx_ltP h hs)) (fun a c' ha => hm.2.2.1 _ (nx_ltS h ha))
theorem nx_moW {c c' : ni_C} (hm : nx_mo M0 M c) (hw : wp_wr M M0.1.length c' M') (hl : c'.2.length = c.2.length) : nx_mo M0 M' c' := by
  obtain ⟨m1, m2, m3, m4, m5⟩ := hm
  have hz := ni_zsW m4 hw (by rw [hl])
  obtain ⟨w1, w2, w3, w4⟩ := hw
  exact ⟨by rw [w3, m1], by rw [w4, m2], fun b hb => by rw [w2 b (by omega), m3 b hb], w1, by rw [hz, m5, hl]⟩
theorem mt_pfL2 {n m r : Nat} (hR : ni_Rep St M0 ad rw cp A (ni_live A)) (hb : M0.1.length + 57345 ≤ 900000 + ni_gz cp) (hPL : ni_PL A 4) (hn : A 4 3 = n) (hm : m ≤ n) (hr : r < 8) : ∀ k i x : Nat, i + k = n → x ≤ i → ∀ M ns, nx_mo M0 M (100, ns) → ns.length = m → nx_pf ns → wp_G xs 0 130 46 [.ref (ad 4), ni_z (r : Int), ni_z (m : Int), .ref M0.1.length, ni_z (x : Int), ni_z (i : Int)] [] M (fun u M' => u = some (.ref M0.1.length) ∧ ∃ ns, nx_mo M0 M' (100, ns) ∧ ns.length = m ∧ nx_pf ns) := by
  have h24 := hPL.1
  intro k
  induction k with
  | zero =>
    intro i x hi hx M ns hm1 hl hf
    have hx1 : ni_Sx St M ad rw cp M rw cp A (ni_live A) := ⟨nx_moR hR hm1 hb, ni_KpR⟩
    refine wp_Ld rfl rfl rfl ?_
    refine wp_Ld rfl rfl rfl ?_
    refine ws_Get (v := ni_z (A 4 3)) rfl hx1 (show ni_us 4 = true by decide +kernel) (show ni_kd 4 = 6 by decide +kernel) rfl rfl rfl ?_
    refine wp_Ic true rfl (zc_ge_t ⟨by omega, by omega⟩ ⟨by omega, by omega⟩ (by omega)) ?_
    refine wp_Ld rfl rfl rfl ?_
    exact wp_R rfl rfl ⟨rfl, ns, hm1, hl, hf⟩
  | succ k ih =>
    intro i x hi hx M ns hm1 hl hf
    have hx1 : ni_Sx St M ad rw cp M rw cp A (ni_live A) := ⟨nx_moR hR hm1 hb, ni_KpR⟩
    have hpl : (0 ≤ A 5 i ∧ A 5 i < 8) ∧ (0 ≤ A 6 i ∧ A 6 i < 2097152 ∧ A 6 i % 32 ≤ 16) ∧ (-1 ≤ A 7 i ∧ A 7 i < 14) := hPL.2 i (by omega)
    refine wp_Ld rfl rfl rfl ?_
    refine wp_Ld rfl rfl rfl ?_
    refine ws_Get (v := ni_z (A 4 3)) rfl hx1 (show ni_us 4 = true by decide +kernel) (show ni_kd 4 = 6 by decide +kernel) rfl rfl rfl ?_
    refine wp_Ic false rfl (zc_ge_f ⟨by omega, by omega⟩ ⟨by omega, by omega⟩ (by omega)) ?_
    refine wp_Ld rfl rfl rfl ?_
    refine wp_Ld rfl rfl rfl ?_
    by_cases c1 : m ≤ x
    · refine wp_Ic true rfl (zc_ge_t ⟨by omega, by omega⟩ ⟨by omega, by omega⟩ (by omega)) ?_
      refine wp_Ld rfl rfl rfl ?_
      exact wp_R rfl rfl ⟨rfl, ns, hm1, hl, hf⟩
    · refine wp_Ic false rfl (zc_ge_f ⟨by omega, by omega⟩ ⟨by omega, by omega⟩ (by omega)) ?_
      refine wp_Ld rfl rfl rfl ?_
      refine ws_Get (v := .ref (ad 5)) rfl hx1 (show ni_us 4 = true by decide +kernel) (show ni_kd 4 = 6 by decide +kernel) rfl rfl rfl ?_
      refine wp_Ld rfl rfl rfl ?_
      refine ws_Ald (q := 68) (y := 130) (pc := 67) (s := 5) (n := 24) (t := 100) (j := i) (v := ni_z (A 5 i)) rfl hx1 (show ni_us 5 = true by decide +kernel) (show ni_kd 5 = 100 by decide +kernel) (show ni_ln 5 = 24 by decide +kernel) ⟨by decide, rfl⟩ rfl (by omega) (by decide) (ni_L8 (by decide +kernel) (show ni_ct 5 = (4, 3) by decide +kernel) (by decide) (by omega) (ni_clR A)) rfl rfl ?_
      refine wp_Ld rfl rfl rfl ?_
      by_cases c2 : A 5 i = r
      · refine wp_Ic false rfl (zc_ne_f ⟨by omega, by omega⟩ ⟨by omega, by omega⟩ (by omega)) ?_
        refine wp_Ld rfl rfl rfl ?_
        refine wp_Ld rfl rfl rfl ?_
        refine wp_Ld rfl rfl rfl ?_
        refine ws_Get (v := .ref (ad 6)) rfl hx1 (show ni_us 4 = true by decide +kernel) (show ni_kd 4 = 6 by decide +kernel) rfl rfl rfl ?_
        refine wp_Ld rfl rfl rfl ?_
        refine ws_Ald (q := 82) (y := 130) (pc := 81) (s := 6) (n := 24) (t := 100) (j := i) (v := ni_z (A 6 i)) rfl hx1 (show ni_us 6 = true by decide +kernel) (show ni_kd 6 = 100 by decide +kernel) (show ni_ln 6 = 24 by decide +kernel) ⟨by decide, rfl⟩ rfl (by omega) (by decide) (ni_L8 (by decide +kernel) (show ni_ct 6 = (4, 3) by decide +kernel) (by decide) (by omega) (ni_clR A)) rfl rfl ?_
        have hzi := ni_clZ (x := (x : Int)) (by omega)
        refine wp_Ast (q := 83) (y := 130) (pc := 82) rfl hm1.2.2.2.1 ⟨by decide, rfl, hzi.1, by rw [hzi.2, Int.toNat_natCast]; omega, rfl, rfl⟩ rfl fun M3 w2 => ?_
        rw [hzi.2, Int.toNat_natCast] at w2
        refine wp_Inc (ls' := [.ref (ad 4), ni_z (r : Int), ni_z (m : Int), .ref M0.1.length, ni_z ((x : Int) + 1), ni_z (i : Int)]) rfl rfl (zi_inc (z := 1) rfl) rfl ?_
        refine wp_Inc (ls' := [.ref (ad 4), ni_z (r : Int), ni_z (m : Int), .ref M0.1.length, ni_z ((x : Int) + 1), ni_z ((i : Int) + 1)]) rfl rfl (zi_inc (z := 1) rfl) rfl ?_
        refine wp_P (g := ni_gGo 46) rfl rfl ?_
        refine ih (i + 1) (x + 1) (by omega) (by omega) M3 (ns.set x (ni_z (A 6 i))) (nx_moW hm1 w2 (by simp)) (by simp [hl]) (fun j hj => ?_)
        rw [List.length_set] at hj
        by_cases e : j = x
        · rw [e, List.getElem?_set_self (by omega)]
          exact ⟨_, rfl, hpl.2.1⟩
        · rw [List.getElem?_set_ne (fun z => e z.symm)]
          exact hf j hj
      · refine wp_Ic true rfl (zc_ne_t ⟨by omega, by omega⟩ ⟨by omega, by omega⟩ (by omega)) ?_
        refine wp_Inc (ls' := [.ref (ad 4), ni_z (r : Int), ni_z (m : Int), .ref M0.1.length, ni_z (x : Int), ni_z ((i : Int) + 1)]) rfl rfl (zi_inc (z := 1) rfl) rfl ?_
        refine wp_P (g := ni_gGo 46) rfl rfl ?_
        exact ih (i + 1) x (by omega) (by omega) M ns hm1 hl hf
theorem mt_pfL1 {n r : Nat} (hR : ni_Rep St M0 ad rw cp A (ni_live A)) (hb : M0.1.length + 57345 ≤ 900000 + ni_gz cp) (hPL : ni_PL A 4) (hn : A 4 3 = n) (hr : r < 8) : ∀ k i m : Nat, i + k = n → m ≤ i → wp_G xs 0 130 4 [.ref (ad 4), ni_z (r : Int), ni_z (m : Int), ni_z (i : Int), ni_J, ni_J] [] M0 (fun u M' => u = some (.ref M0.1.length) ∧ ∃ ns, nx_mo M0 M' (100, ns) ∧ ns.length ≤ 24 ∧ nx_pf ns) := by
  have h24 := hPL.1
  have hx1 : ni_Sx St M0 ad rw cp M0 rw cp A (ni_live A) := ⟨hR, ni_KpR⟩
  have hgz := np_gz hR.2.2.1
  intro k
  induction k with
  | zero =>
    intro i m hi hm
    refine wp_Ld rfl rfl rfl ?_
    refine wp_Ld rfl rfl rfl ?_
    refine ws_Get (v := ni_z (A 4 3)) rfl hx1 (show ni_us 4 = true by decide +kernel) (show ni_kd 4 = 6 by decide +kernel) rfl rfl rfl ?_
    refine wp_Ic true rfl (zc_ge_t ⟨by omega, by omega⟩ ⟨by omega, by omega⟩ (by omega)) ?_
    refine wp_Ld rfl rfl rfl ?_
    refine wp_Newa (c := (m : Int)) rfl (by omega) hR.2.2.2.2.2.1 (by omega) ?_
    rw [Int.toNat_natCast]
    refine wp_St (ls' := [.ref (ad 4), ni_z (r : Int), ni_z (m : Int), .ref M0.1.length, ni_J, ni_J]) rfl rfl rfl ?_
    refine wp_P (g := ni_gPush (.int 0) 41) rfl (wp_push (z := 0) rfl) ?_
    refine wp_St (ls' := [.ref (ad 4), ni_z (r : Int), ni_z (m : Int), .ref M0.1.length, ni_z ((0 : Nat) : Int), ni_J]) rfl rfl rfl ?_
    refine wp_P (g := ni_gPush (.int 0) 44) rfl (wp_push (z := 0) rfl) ?_
    refine wp_St (ls' := [.ref (ad 4), ni_z (r : Int), ni_z (m : Int), .ref M0.1.length, ni_z ((0 : Nat) : Int), ni_z ((0 : Nat) : Int)]) rfl rfl rfl ?_
    refine wp_Gmono (mt_pfL2 hR hb hPL hn (by omega) hr n 0 0 (by omega) (by omega) _ (List.replicate m (.int 0)) (nx_moA hR.2.2.2.2.2.1) (by simp) (fun j hj => ?_)) (fun u M' hu => ⟨hu.1, ?_⟩)
    · rw [List.length_replicate] at hj
      exact ⟨0, by rw [List.getElem?_replicate_of_lt hj]; rfl, by omega, by omega, by omega⟩
    · obtain ⟨ns, g1, g2, g3⟩ := hu.2
      exact ⟨ns, g1, by omega, g3⟩
  | succ k ih =>
    intro i m hi hm
    have hpl : (0 ≤ A 5 i ∧ A 5 i < 8) ∧ (0 ≤ A 6 i ∧ A 6 i < 2097152 ∧ A 6 i % 32 ≤ 16) ∧ (-1 ≤ A 7 i ∧ A 7 i < 14) := hPL.2 i (by omega)
    refine wp_Ld rfl rfl rfl ?_
    refine wp_Ld rfl rfl rfl ?_
    refine ws_Get (v := ni_z (A 4 3)) rfl hx1 (show ni_us 4 = true by decide +kernel) (show ni_kd 4 = 6 by decide +kernel) rfl rfl rfl ?_
    refine wp_Ic false rfl (zc_ge_f ⟨by omega, by omega⟩ ⟨by omega, by omega⟩ (by omega)) ?_
    refine wp_Ld rfl rfl rfl ?_
    refine wp_Ld rfl rfl rfl ?_
    refine ws_Get (v := .ref (ad 5)) rfl hx1 (show ni_us 4 = true by decide +kernel) (show ni_kd 4 = 6 by decide +kernel) rfl rfl rfl ?_
    refine wp_Ld rfl rfl rfl ?_
    refine ws_Ald (q := 19) (y := 130) (pc := 18) (s := 5) (n := 24) (t := 100) (j := i) (v := ni_z (A 5 i)) rfl hx1 (show ni_us 5 = true by decide +kernel) (show ni_kd 5 = 100 by decide +kernel) (show ni_ln 5 = 24 by decide +kernel) ⟨by decide, rfl⟩ rfl (by omega) (by decide) (ni_L8 (by decide +kernel) (show ni_ct 5 = (4, 3) by decide +kernel) (by decide) (by omega) (ni_clR A)) rfl rfl ?_
    refine wp_Ld rfl rfl rfl ?_
    by_cases c2 : A 5 i = r
    · refine wp_Ic false rfl (zc_ne_f ⟨by omega, by omega⟩ ⟨by omega, by omega⟩ (by omega)) ?_
      refine wp_P (g := ni_gPush (.int 1) 24) rfl (wp_push (z := 1) rfl) ?_
      refine wp_P (g := ni_gGo 28) rfl rfl ?_
      refine wp_P rfl wp_add ?_
      refine wp_St (ls' := [.ref (ad 4), ni_z (r : Int), ni_z ((m : Int) + 1), ni_z (i : Int), ni_J, ni_J]) rfl rfl rfl ?_
      refine wp_Inc (ls' := [.ref (ad 4), ni_z (r : Int), ni_z ((m : Int) + 1), ni_z ((i : Int) + 1), ni_J, ni_J]) rfl rfl (zi_inc (z := 1) rfl) rfl ?_
      refine wp_P (g := ni_gGo 4) rfl rfl ?_
      exact ih (i + 1) (m + 1) (by omega) (by omega)
    · refine wp_Ic true rfl (zc_ne_t ⟨by omega, by omega⟩ ⟨by omega, by omega⟩ (by omega)) ?_
      refine wp_P (g := ni_gPush (.int 0) 28) rfl (wp_push (z := 0) rfl) ?_
      refine wp_P rfl wp_add ?_
      refine wp_St (ls' := [.ref (ad 4), ni_z (r : Int), ni_z ((m : Int) + 0), ni_z (i : Int), ni_J, ni_J]) rfl rfl rfl ?_
      refine wp_Inc (ls' := [.ref (ad 4), ni_z (r : Int), ni_z ((m : Int) + 0), ni_z ((i : Int) + 1), ni_J, ni_J]) rfl rfl (zi_inc (z := 1) rfl) rfl ?_
      refine wp_P (g := ni_gGo 4) rfl rfl ?_
      have g := ih (i + 1) m (by omega) (by omega)
      rw [Int.add_zero]
      exact g
theorem mt_prefixesAt {r : Nat} (hR : ni_Rep St M0 ad rw cp A (ni_live A)) (hb : M0.1.length + 57345 ≤ 900000 + ni_gz cp) (hPL : ni_PL A 4) (hr : r < 8) : wp_C xs 1 130 [.ref (ad 4), ni_z (r : Int)] M0 (fun u M' => u = some (.ref M0.1.length) ∧ ∃ ns, nx_mo M0 M' (100, ns) ∧ ns.length ≤ 24 ∧ nx_pf ns) := by
  refine wp_enter (Nat.le_of_ble_eq_true rfl) (ls := [.ref (ad 4), ni_z (r : Int), ni_J, ni_J, ni_J, ni_J]) rfl ?_
  refine wp_P (g := ni_gPush (.int 0) 1) rfl (wp_push (z := 0) rfl) ?_
  refine wp_St (ls' := [.ref (ad 4), ni_z (r : Int), ni_z ((0 : Nat) : Int), ni_J, ni_J, ni_J]) rfl rfl rfl ?_
  refine wp_P (g := ni_gPush (.int 0) 3) rfl (wp_push (z := 0) rfl) ?_
  refine wp_St (ls' := [.ref (ad 4), ni_z (r : Int), ni_z ((0 : Nat) : Int), ni_z ((0 : Nat) : Int), ni_J, ni_J]) rfl rfl rfl ?_
  have := hPL.1
  exact mt_pfL1 hR hb hPL (show A 4 3 = ((A 4 3).toNat : Int) by omega) hr (A 4 3).toNat 0 0 (by omega) (by omega)
end NXP
