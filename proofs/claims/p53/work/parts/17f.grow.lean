/-! A LINE'S ROWS GROW -/
section NLG
variable {xs : List Int32} {St : Nat → Option ni_C}
section X
variable {d y pc q : Nat} {ls st : List Value} {M : ni_H} {Q : Option Value → ni_H → Prop}
theorem wp_Newa {kk : Nat} {ty : FieldType} {c : Int} (hp : ni_prog xs y pc = ni_sNewa kk ty q) (hc : 0 ≤ c ∧ c ≤ 1000000) (h2 : M.2 = 0) (hb : M.1.length < 1000000) (k : wp_G xs d y q ls (.ref M.1.length :: st) (M.1 ++ [(100 + kk, List.replicate c.toNat (ni_df ty))], M.2) Q) : wp_G xs d y pc ls (ni_z c :: st) M Q := by
  obtain ⟨u, M', ⟨n, h1⟩, h3⟩ := k
  have hz := ni_clZ (x := c) (by omega)
  refine ⟨u, M', ⟨n + 1, ?_⟩, h3⟩
  rw [ni_exS, hp]
  unfold ni_sNewa
  dsimp only
  rw [if_pos ⟨hz.1, by rw [hz.2]; omega, h2, hb⟩, hz.2]
  exact h1
theorem wp_ANew {kk : Nat} {c : Int} (hp : ni_prog xs y pc = ni_sANew kk q) (hc : 0 ≤ c ∧ c ≤ 1000000) (h2 : M.2 = 0) (hb : M.1.length < 1000000) (k : wp_G xs d y q ls (.ref M.1.length :: st) (M.1 ++ [(100 + kk, List.replicate c.toNat .null)], M.2) Q) : wp_G xs d y pc ls (ni_z c :: st) M Q := by
  obtain ⟨u, M', ⟨n, h1⟩, h3⟩ := k
  have hz := ni_clZ (x := c) (by omega)
  refine ⟨u, M', ⟨n + 1, ?_⟩, h3⟩
  rw [ni_exS, hp]
  unfold ni_sANew
  dsimp only
  rw [if_pos ⟨hz.1, by rw [hz.2]; omega, h2, hb⟩, hz.2]
  exact h1
theorem wp_Qld {a t : Nat} {i : Int} {C : String} {vs : List Value} {v : Value} (hp : ni_prog xs y pc = ni_sQld q) (ha : M.1[a]? = some (t, vs)) (ht : 100 ≤ t ∧ ni_aks[t - 100]? = some (.object C)) (hi : 0 ≤ i ∧ i ≤ 1000000) (hv : vs[i.toNat]? = some v) (hy : ni_ty v = 3) (k : wp_G xs d y q ls (v :: st) M Q) : wp_G xs d y pc ls (ni_z i :: .ref a :: st) M Q := by
  have hz := ni_clZ (x := i) (by omega)
  obtain ⟨u, M', ⟨f, h1⟩, h2⟩ := k
  refine ⟨u, M', ⟨f + 1, ?_⟩, h2⟩
  rw [ni_exS, hp]
  unfold ni_sQld
  simp only [ha]
  rw [if_pos ⟨ht.1, hz.1⟩, ht.2, hz.2, hv]
  dsimp only
  rw [if_pos hy]
  exact h1
theorem wp_Qst {a b : Nat} {i : Int} {vs : List Value} {c : ni_C} (hp : ni_prog xs y pc = ni_sQst q) (ha : M.1[a]? = some (104, vs)) (hi : 0 ≤ i ∧ i ≤ 1000000) (hlt : i.toNat < vs.length) (hb : M.1[b]? = some c) (hc : c.1 = 1) (k : ∀ M', wp_wr M a (104, vs.set i.toNat (.ref b)) M' → wp_G xs d y q ls st M' Q) : wp_G xs d y pc ls (.ref b :: ni_z i :: .ref a :: st) M Q := by
  have hz := ni_clZ (x := i) (by omega)
  obtain ⟨u, M', ⟨f, h1⟩, h2⟩ := k _ (wp_wrS ha)
  refine ⟨u, M', ⟨f + 1, ?_⟩, h2⟩
  rw [ni_exS, hp]
  unfold ni_sQst
  simp only [ha]
  rw [if_pos ⟨by decide, hz.1, by rw [hz.2]; omega⟩]
  rw [hz.2]
  rw [show ni_aks[104 - 100]? = some (FieldType.object "Switchyard$Letter") from rfl]
  simp only [hb]
  rw [hc, if_pos ⟨by decide, by decide +kernel⟩]
  exact h1
end X
theorem ni_fitR {ty : FieldType} {a : Nat} : ni_fit (.array ty) (.ref a) = true := by
  rw [ni_fitE]
  simp [narrow, fits]
/-- two new rows are being filled -/
def ni_fil (A : Nat → Nat → Int) (l m a1 a2 i : Nat) (M2 M' : ni_H) : Prop :=
  (∀ b, b ≠ a1 → b ≠ a2 → M'.1[b]? = M2.1[b]?) ∧ M'.1.length = M2.1.length ∧ M'.2 = M2.2 ∧ ni_zs M' = ni_zs M2 ∧
  (∃ v1, M'.1[a1]? = some (104, v1) ∧ v1.length = m ∧ ∀ j, j < i → v1[j]? = some (.ref (A (l + 1) j).toNat)) ∧
  ∃ v2, M'.1[a2]? = some (100, v2) ∧ v2.length = m ∧ ∀ j, j < i → v2[j]? = some (ni_z (A (l + 2) j))
theorem mt_mrL {l m n a0 a1 a2 r1 r2 : Nat} {A : Nat → Nat → Int} {M2 : ni_H} {fs v1o v2o : List Value} {Q : Option Value → ni_H → Prop} (h0 : M2.1[a0]? = some (2, fs)) (f0 : fs[0]? = some (.ref r1)) (f1 : fs[1]? = some (.ref r2)) (f2 : fs[2]? = some (ni_z (n : Int))) (h1 : M2.1[r1]? = some (104, v1o)) (h2 : M2.1[r2]? = some (100, v2o)) (ho1 : ∀ j, j < n → v1o[j]? = some (.ref (A (l + 1) j).toNat)) (ho2 : ∀ j, j < n → v2o[j]? = some (ni_z (A (l + 2) j))) (hne : a0 ≠ a1 ∧ a0 ≠ a2 ∧ r1 ≠ a1 ∧ r1 ≠ a2 ∧ r2 ≠ a1 ∧ r2 ≠ a2 ∧ a1 ≠ a2) (hn : n ≤ m ∧ m ≤ 100000) (hL : ∀ j, j < n → (A (l + 1) j).toNat ≠ a1 ∧ (A (l + 1) j).toNat ≠ a2 ∧ ∃ c, M2.1[(A (l + 1) j).toNat]? = some c ∧ c.1 = 1) (k : ∀ M', ni_fil A l m a1 a2 n M2 M' → wp_G xs 1 64 49 [.ref a0, ni_z (m : Int), .ref a1, .ref a2, ni_z (n : Int)] [] M' Q) : ∀ j i : Nat, i + j = n → ∀ M', ni_fil A l m a1 a2 i M2 M' → wp_G xs 1 64 12 [.ref a0, ni_z (m : Int), .ref a1, .ref a2, ni_z (i : Int)] [] M' Q := by
  obtain ⟨e1, e2, e3, e4, e5, e6, e7⟩ := hne
  intro j
  induction j with
  | zero =>
    intro i hi M' hM
    have : i = n := by omega
    subst this
    have g0 := hM.1 a0 e1 e2
    rw [h0] at g0
    refine wp_Ld rfl rfl rfl ?_
    refine wp_Ld rfl rfl rfl ?_
    refine wp_Get rfl g0 f2 ?_
    refine wp_Ic true rfl (zc_ge_t ⟨by omega, by omega⟩ ⟨by omega, by omega⟩ (Int.le_refl _)) ?_
    exact k M' hM
  | succ j ih =>
    intro i hi M' hM
    obtain ⟨m1, m2, m3, m4, ⟨v1, p1, p2, p3⟩, v2, q1, q2, q3⟩ := hM
    have g0 := m1 a0 e1 e2
    have g1 := m1 r1 e3 e4
    have g2 := m1 r2 e5 e6
    obtain ⟨hb1, hb2, c, hc1, hc2⟩ := hL i (by omega)
    have g3 := m1 _ hb1 hb2
    rw [h0] at g0
    rw [h1] at g1
    rw [h2] at g2
    rw [hc1] at g3
    refine wp_Ld rfl rfl rfl ?_
    refine wp_Ld rfl rfl rfl ?_
    refine wp_Get rfl g0 f2 ?_
    refine wp_Ic false rfl (zc_ge_f ⟨by omega, by omega⟩ ⟨by omega, by omega⟩ (by omega)) ?_
    refine wp_Ld rfl rfl rfl ?_
    refine wp_Ld rfl rfl rfl ?_
    refine wp_Ld rfl rfl rfl ?_
    refine wp_Get rfl g0 f0 ?_
    refine wp_Ld rfl rfl rfl ?_
    refine wp_Qld rfl g1 ⟨by decide, rfl⟩ (by omega) (by rw [Int.toNat_natCast]; exact ho1 i (by omega)) rfl ?_
    refine wp_Qst rfl p1 (by omega) (by rw [Int.toNat_natCast]; omega) g3 hc2 fun M1 w1 => ?_
    rw [Int.toNat_natCast] at w1
    have z1 := ni_zsW p1 w1 (by simp)
    obtain ⟨w1a, w1b, w1c, w1d⟩ := w1
    refine wp_Ld rfl rfl rfl ?_
    refine wp_Ld rfl rfl rfl ?_
    refine wp_Ld rfl rfl rfl ?_
    refine wp_Get rfl (by rw [w1b _ e1]; exact g0) f1 ?_
    refine wp_Ld rfl rfl rfl ?_
    have hzi := ni_clZ (x := (i : Int)) (by omega)
    refine wp_Ald rfl (by rw [w1b _ e5]; exact g2) ⟨by decide, rfl, hzi.1⟩ (by rw [hzi.2, Int.toNat_natCast]; exact ho2 i (by omega)) rfl ?_
    refine wp_Ast rfl (by rw [w1b _ (fun z => e7 z.symm)]; exact q1) ⟨by decide, rfl, hzi.1, by rw [hzi.2, Int.toNat_natCast]; omega, rfl, rfl⟩ rfl fun M3 w2 => ?_
    rw [hzi.2, Int.toNat_natCast] at w2
    have z2 := ni_zsW (by rw [w1b _ (fun z => e7 z.symm)]; exact q1) w2 (by simp)
    obtain ⟨w2a, w2b, w2c, w2d⟩ := w2
    refine wp_Inc rfl rfl (zi_inc (z := 1) rfl) rfl ?_
    refine wp_P (g := ni_gGo 12) rfl rfl ?_
    refine ih (i + 1) (by omega) M3 ⟨fun b b1 b2 => ?_, by rw [w2c, w1c, m2], by rw [w2d, w1d, m3], by rw [z2, z1, m4], ⟨v1.set i (.ref (A (l + 1) i).toNat), ?_, by simp [p2], fun j' hj' => ?_⟩, v2.set i (ni_z (A (l + 2) i)), w2a, by simp [q2], fun j' hj' => ?_⟩
    · rw [w2b b b2, w1b b b1, m1 b b1 b2]
    · rw [w2b _ e7]
      exact w1a
    · by_cases e : j' = i
      · rw [e, List.getElem?_set_self (by omega)]
      · rw [List.getElem?_set_ne (fun z => e z.symm)]
        exact p3 j' (by omega)
    · by_cases e : j' = i
      · rw [e, List.getElem?_set_self (by omega)]
      · rw [List.getElem?_set_ne (fun z => e z.symm)]
        exact q3 j' (by omega)
/-- a sum with one part another -/
theorem ni_sumU {f g : Nat → Nat} {l : Nat} : ∀ L : List Nat, (∀ p ∈ L, p ≠ l → f p = g p) → L.Nodup → l ∈ L → (L.map f).sum + g l = (L.map g).sum + f l := by
  intro L
  induction L with
  | nil => intro _ _ h; exact absurd h (by simp)
  | cons a L ih =>
    intro hfg hn hl
    rw [List.nodup_cons] at hn
    rw [List.map_cons, List.map_cons, List.sum_cons, List.sum_cons]
    by_cases e : a = l
    · have : L.map f = L.map g := List.map_congr_left fun p hp => hfg p (List.mem_cons_of_mem _ hp) (fun z => hn.1 (by rw [e, ← z]; exact hp))
      rw [this, e]
      omega
    · have h1 := ih (fun p hp => hfg p (List.mem_cons_of_mem _ hp)) hn.2 (by
        rcases List.mem_cons.mp hl with r | r
        · exact absurd r.symm e
        · exact r)
      have h2 := hfg a List.mem_cons_self e
      omega
theorem ni_lnsN : ni_lns.Nodup := by decide +kernel
def ni_rwU (rw : Nat → Nat) (l a1 a2 : Nat) : Nat → Nat := fun s => if s = l + 1 then a1 else if s = l + 2 then a2 else rw s
theorem ni_lnsS : (ni_lns.all fun p => ni_lns.all fun p' => Nat.beq p p' || (!(Nat.beq (p + 1) (p' + 1)) && !(Nat.beq (p + 1) (p' + 2)) && !(Nat.beq (p + 2) (p' + 1)) && !(Nat.beq (p + 2) (p' + 2)))) = true := by decide +kernel
theorem ni_lnsT {p p' : Nat} (h : p ∈ ni_lns) (h' : p' ∈ ni_lns) (hn : p ≠ p') : p + 1 ≠ p' + 1 ∧ p + 1 ≠ p' + 2 ∧ p + 2 ≠ p' + 1 ∧ p + 2 ≠ p' + 2 := by
  have g := List.all_eq_true.mp (List.all_eq_true.mp ni_lnsS p h) p' h'
  simp only [Bool.or_eq_true, Nat.beq_eq, Bool.and_eq_true, Bool.not_eq_true'] at g
  rcases g with g | g
  · exact absurd g hn
  · exact ⟨Nat.ne_of_beq_eq_false g.1.1.1, Nat.ne_of_beq_eq_false g.1.1.2, Nat.ne_of_beq_eq_false g.1.2, Nat.ne_of_beq_eq_false g.2⟩
theorem ni_vkR {c : Nat} {ad rw rw' : Nat → Nat} {A : Nat → Nat → Int} {s j : Nat} (h : c ≠ 2 ∨ (rw' (s + 1) = rw (s + 1) ∧ rw' (s + 2) = rw (s + 2))) : ni_vk c ad rw' A s j = ni_vk c ad rw A s j := by
  unfold ni_vk
  cases hr : ni_rk c s j with
  | none => rfl
  | some t =>
    cases t with
    | inl t => rfl
    | inr t =>
      dsimp only
      unfold ni_rk at hr
      split at hr
      all_goals first | (split at hr <;> first | cases hr | skip) | cases hr
      all_goals (obtain ⟨h1, h2⟩ := h.resolve_left (fun z => z rfl))
      · rw [h1]
      · rw [h2]
theorem ni_lrS {s : Nat} (hs : ni_us s = true) (h : ni_lr s = true) : ∃ p ∈ ni_lns, s = p + 1 ∨ s = p + 2 := by
  have g := List.all_eq_true.mp (show ((List.range 374).all fun s => !(ni_lr s) || (ni_lns.any fun p => Nat.beq s (p + 1) || Nat.beq s (p + 2))) = true by decide +kernel) s (List.mem_range.mpr (ni_usT hs).1)
  rw [h, Bool.not_true, Bool.false_or, List.any_eq_true] at g
  obtain ⟨p, hp, g⟩ := g
  rw [Bool.or_eq_true] at g
  exact ⟨p, hp, g.elim (fun z => Or.inl (Nat.eq_of_beq_eq_true z)) (fun z => Or.inr (Nat.eq_of_beq_eq_true z))⟩
/-- longer rows stand in the place of a line's -/
theorem ni_grown {M M2 M' : ni_H} {ad rw cp : Nat → Nat} {A : Nat → Nat → Int} {l m k' : Nat} {fs v1 v2 : List Value} (hs : ni_us l = true) (hk : ni_kd l = 2) (hR : ni_Rep St M ad rw cp A (ni_live A)) (hm : m = 8 * 2 ^ k') (hk8 : k' ≤ 8) (hcp : 2 * cp (l + 1) ≤ m) (h0 : 0 ≤ A l 2) (hfs : M.1[ad l]? = some (2, fs)) (hM2 : ∀ b, b < M.1.length → M2.1[b]? = M.1[b]?) (hl2 : M2.1.length = M.1.length + 2) (hz2 : ni_zs M2 = ni_zs M + 2 * m) (h20 : M2.2 = 0) (hl : M'.1.length = M2.1.length) (hz : ni_zs M' = ni_zs M2) (h2 : M'.2 = M2.2) (hc : M'.1[ad l]? = some (2, (fs.set 0 (.ref M.1.length)).set 1 (.ref (M.1.length + 1)))) (ho : ∀ b, b ≠ ad l → b ≠ M.1.length → b ≠ M.1.length + 1 → M'.1[b]? = M2.1[b]?) (hv1 : M'.1[M.1.length]? = some (104, v1)) (hv2 : M'.1[M.1.length + 1]? = some (100, v2)) (hw1 : v1.length = m ∧ ∀ j : Nat, (j : Int) < A l 2 → v1[j]? = some (.ref (A (l + 1) j).toNat)) (hw2 : v2.length = m ∧ ∀ j : Nat, (j : Int) < A l 2 → v2[j]? = some (ni_z (A (l + 2) j))) : ∃ rw' cp', ni_Rep St M' ad rw' cp' A (ni_live A) ∧ ni_Kp M ad rw cp M' rw' cp' ∧ cp' (l + 1) = m := by
  have h374 := (ni_usT hs).1
  have hlm := ni_lnsC hs hk
  have b1 := ni_o2_1 hs hk
  have b2 := ni_o2_2 hs hk
  have hlr1 : ni_lr (l + 1) = true := ni_lrO b1.2.2.1
  have hlr2 : ni_lr (l + 2) = true := ni_lrO b2.2.2.1
  have hlr0 : ni_lr l = false := (ni_objS hs hk rfl).2.1
  obtain ⟨r1, r2, r3, r4, r5, r6, r7, r8⟩ := hR
  have hlt : ∀ s, ni_us s = true → ni_pl ad rw s < M.1.length := fun s hs => by
    obtain ⟨vs, g, _⟩ := r2 s hs
    exact (List.getElem?_eq_some_iff.mp g).1
  have hpl0 : ni_pl ad rw l = ad l := by
    unfold ni_pl
    rw [hlr0, cond_false]
  have hadl := hlt l hs
  rw [hpl0] at hadl
  have hcb := ni_cpB r3 hlm
  have hpn : ∀ s, s ≠ l + 1 → s ≠ l + 2 → ni_pl ad (ni_rwU rw l M.1.length (M.1.length + 1)) s = ni_pl ad rw s := fun s e1 e2 => by
    unfold ni_pl ni_rwU
    rw [if_neg e1, if_neg e2]
  have hp1 : ni_pl ad (ni_rwU rw l M.1.length (M.1.length + 1)) (l + 1) = M.1.length := by
    unfold ni_pl ni_rwU
    rw [hlr1, cond_true, if_pos rfl]
  have hp2 : ni_pl ad (ni_rwU rw l M.1.length (M.1.length + 1)) (l + 2) = M.1.length + 1 := by
    unfold ni_pl ni_rwU
    rw [hlr2, cond_true, if_neg (by omega), if_pos rfl]
  have hcn : ∀ p ∈ ni_lns, p ≠ l → ni_rwU cp l m m (p + 1) = cp (p + 1) ∧ ni_rwU cp l m m (p + 2) = cp (p + 2) := fun p hp e => by
    obtain ⟨t1, t2, t3, t4⟩ := ni_lnsT hp hlm e
    unfold ni_rwU
    rw [if_neg t1, if_neg t2, if_neg t3, if_neg t4]
    exact ⟨rfl, rfl⟩
  have hc1 : ni_rwU cp l m m (l + 1) = m := by
    unfold ni_rwU
    rw [if_pos rfl]
  have hc2 : ni_rwU cp l m m (l + 2) = m := by
    unfold ni_rwU
    rw [if_neg (by omega), if_pos rfl]
  have hgz : ni_gz (ni_rwU cp l m m) + cp (l + 1) = ni_gz cp + m := by
    have := ni_sumU (f := fun p => ni_rwU cp l m m (p + 1)) (g := fun p => cp (p + 1)) (l := l) ni_lns (fun p hp e => (hcn p hp e).1) ni_lnsN hlm
    rw [hc1] at this
    exact this
  have hvk : ∀ s j, ni_us s = true → s ≠ l → ni_vk (ni_kd s) ad (ni_rwU rw l M.1.length (M.1.length + 1)) A s j = ni_vk (ni_kd s) ad rw A s j := fun s j hs' e => by
    refine ni_vkR ?_
    by_cases hk2 : ni_kd s = 2
    · obtain ⟨t1, t2, t3, t4⟩ := ni_lnsT (ni_lnsC hs' hk2) hlm e
      refine Or.inr ⟨?_, ?_⟩
      · unfold ni_rwU
        rw [if_neg t1, if_neg t2]
      · unfold ni_rwU
        rw [if_neg t3, if_neg t4]
    · exact Or.inl hk2
  have hA2 := r4 l hlm
  have hlive : ∀ s, ni_ct s = (l, 2) → ni_live A s = (A l 2).toNat := fun s e => ni_liveC e (by omega)
  obtain ⟨vs, g1, g2, g3⟩ := r2 l hs
  rw [hpl0, hk, hfs] at g1
  have evs : fs = vs := by injection g1 with g; exact congrArg Prod.snd g
  subst evs
  rw [hk] at g3
  have hcl : cp l = 5 := by rw [r3.1 l hs hlr0, (ni_objS hs hk rfl).1]; rfl
  refine ⟨ni_rwU rw l M.1.length (M.1.length + 1), ni_rwU cp l m m, ⟨fun s t hs' ht' e => ?_, fun s hs' => ?_, ⟨fun s hs' hlr => ?_, fun p hp => ?_⟩, fun p hp => ?_, fun a c hac => ?_, by rw [h2, h20], by rw [hl, hl2]; omega, r8⟩, ⟨fun b hb hn => ?_, fun s hs' => ?_, by rw [hl, hl2]; omega, by rw [hz, hz2]; omega, by rw [hl, hl2]; omega⟩, hc1⟩
  · by_cases s1 : s = l + 1
    · by_cases t1 : t = l + 1
      · omega
      · rw [s1, hp1] at e
        by_cases t2 : t = l + 2
        · rw [t2, hp2] at e
          omega
        · rw [hpn t t1 t2] at e
          have := hlt t ht'
          omega
    · by_cases s2 : s = l + 2
      · rw [s2, hp2] at e
        by_cases t1 : t = l + 1
        · rw [t1, hp1] at e
          omega
        · by_cases t2 : t = l + 2
          · omega
          · rw [hpn t t1 t2] at e
            have := hlt t ht'
            omega
      · rw [hpn s s1 s2] at e
        by_cases t1 : t = l + 1
        · rw [t1, hp1] at e
          have := hlt s hs'
          omega
        · by_cases t2 : t = l + 2
          · rw [t2, hp2] at e
            have := hlt s hs'
            omega
          · rw [hpn t t1 t2] at e
            exact r1 s t hs' ht' e
  · by_cases s1 : s = l + 1
    · subst s1
      rw [hp1, b1.2.1, hc1]
      refine ⟨v1, hv1, hw1.1, fun j hj hj' => ?_⟩
      rw [hlive _ b1.2.2.2] at hj'
      exact hw1.2 j (by omega)
    · by_cases s2 : s = l + 2
      · subst s2
        rw [hp2, b2.2.1, hc2]
        refine ⟨v2, hv2, hw2.1, fun j hj hj' => ?_⟩
        rw [hlive _ b2.2.2.2] at hj'
        exact hw2.2 j (by omega)
      · have hcs : ni_rwU cp l m m s = cp s := by
          unfold ni_rwU
          rw [if_neg s1, if_neg s2]
        rw [hpn s s1 s2, hcs]
        by_cases s0 : s = l
        · subst s0
          rw [hpl0, hk]
          refine ⟨_, hc, by simp [g2], fun j hj hj' => ?_⟩
          rw [hcl] at hj
          by_cases j0 : j = 0
          · subst j0
            rw [List.getElem?_set_ne (by omega), List.getElem?_set_self (by omega)]
            show _ = some (Value.ref (ni_rwU rw s M.1.length (M.1.length + 1) (s + 1)))
            unfold ni_rwU
            rw [if_pos rfl]
          · by_cases j1 : j = 1
            · subst j1
              rw [List.getElem?_set_self (by rw [List.length_set]; omega)]
              show _ = some (Value.ref (ni_rwU rw s M.1.length (M.1.length + 1) (s + 2)))
              unfold ni_rwU
              rw [if_neg (by omega), if_pos rfl]
            · rw [List.getElem?_set_ne (by omega), List.getElem?_set_ne (by omega), g3 j (by omega) hj']
              obtain e | e | e : j = 2 ∨ j = 3 ∨ j = 4 := by omega
              all_goals (subst e; rfl)
        · obtain ⟨vs, q1, q2, q3⟩ := r2 s hs'
          have hps := hlt s hs'
          refine ⟨vs, ?_, q2, fun j hj hj' => ?_⟩
          · rw [ho _ (fun z => s0 (r1 s l hs' hs (by rw [hpl0]; exact z))) (by omega) (by omega), hM2 _ hps]
            exact q1
          · rw [hvk s j hs' s0]
            exact q3 j hj hj'
  · have s1 : s ≠ l + 1 := fun z => by rw [z, hlr1] at hlr; cases hlr
    have s2 : s ≠ l + 2 := fun z => by rw [z, hlr2] at hlr; cases hlr
    unfold ni_rwU
    rw [if_neg s1, if_neg s2]
    exact r3.1 s hs' hlr
  · by_cases e : p = l
    · subst e
      rw [hc1, hc2]
      exact ⟨rfl, k', hk8, hm⟩
    · obtain ⟨t1, t2⟩ := hcn p hp e
      rw [t1, t2]
      exact r3.2 p hp
  · by_cases e : p = l
    · subst e
      rw [hc1]
      omega
    · rw [(hcn p hp e).1]
      exact r4 p hp
  · obtain ⟨q1, q2⟩ := r5 a c hac
    have ha := (List.getElem?_eq_some_iff.mp q1).1
    refine ⟨?_, fun s hs' z => ?_⟩
    · rw [ho a (fun z => q2 l hs (by rw [hpl0]; exact z.symm)) (by omega) (by omega), hM2 a ha]
      exact q1
    · by_cases s1 : s = l + 1
      · rw [s1, hp1] at z
        omega
      · by_cases s2 : s = l + 2
        · rw [s2, hp2] at z
          omega
        · rw [hpn s s1 s2] at z
          exact q2 s hs' z
  · rw [ho b (fun z => hn l hs (by rw [hpl0]; exact z.symm)) (by omega) (by omega)]
    exact hM2 b hb
  · unfold ni_rwU
    by_cases s1 : s = l + 1
    · rw [if_pos s1]
      exact Or.inr (Nat.le_refl _)
    · by_cases s2 : s = l + 2
      · rw [if_neg s1, if_pos s2]
        exact Or.inr (Nat.le_succ _)
      · rw [if_neg s1, if_neg s2]
        exact Or.inl rfl
theorem ni_zsA {M : ni_H} {c : ni_C} : ni_zs (M.1 ++ [c], M.2) = ni_zs M + c.2.length := by
  unfold ni_zs
  simp
  omega
/-- makeRoom, to twice as many places or more -/
theorem mt_makeRoom {M : ni_H} {ad rw cp : Nat → Nat} {A : Nat → Nat → Int} {l m k' : Nat} (hs : ni_us l = true) (hk : ni_kd l = 2) (hR : ni_Rep St M ad rw cp A (ni_live A)) (hm : m = 8 * 2 ^ k') (hk8 : k' ≤ 8) (hcp : 2 * cp (l + 1) ≤ m) (h0 : 0 ≤ A l 2) (hL : ∀ j : Nat, (j : Int) < A l 2 → ∃ c, St (A (l + 1) j).toNat = some c ∧ c.1 = 1) : wp_C xs 2 64 [.ref (ad l), ni_z (m : Int)] M (fun u M' => u = none ∧ ∃ rw' cp', ni_Rep St M' ad rw' cp' A (ni_live A) ∧ ni_Kp M ad rw cp M' rw' cp' ∧ cp' (l + 1) = m) := by
  have h374 := (ni_usT hs).1
  have hlm := ni_lnsC hs hk
  have b1 := ni_o2_1 hs hk
  have b2 := ni_o2_2 hs hk
  have hlr1 : ni_lr (l + 1) = true := ni_lrO b1.2.2.1
  have hlr2 : ni_lr (l + 2) = true := ni_lrO b2.2.2.1
  have hlr0 : ni_lr l = false := (ni_objS hs hk rfl).2.1
  have hR' := hR
  obtain ⟨r1, r2, r3, r4, r5, r6, r7, r8⟩ := hR'
  have hpl0 : ni_pl ad rw l = ad l := by
    unfold ni_pl
    rw [hlr0, cond_false]
  have hlt : ∀ s, ni_us s = true → ni_pl ad rw s < M.1.length := fun s hs => by
    obtain ⟨vs, g, _⟩ := r2 s hs
    exact (List.getElem?_eq_some_iff.mp g).1
  have l0 := hlt l hs
  have l1 := hlt _ b1.1
  have l2 := hlt _ b2.1
  rw [hpl0] at l0
  rw [ni_plR hlr1] at l1
  rw [ni_plR hlr2] at l2
  have hA2 := r4 l hlm
  have hcb := ni_cpB r3 hlm
  have hgB : ni_gz cp ≤ 57344 := by
    have : ∀ L : List Nat, (∀ p ∈ L, p ∈ ni_lns) → (L.map fun p => cp (p + 1)).sum ≤ 2048 * L.length := by
      intro L
      induction L with
      | nil => intro _; exact Nat.le_refl _
      | cons a L ih =>
        intro h
        rw [List.map_cons, List.sum_cons, List.length_cons]
        have h1 := ih (fun p hp => h p (List.mem_cons_of_mem _ hp))
        have h2 := (ni_cpB r3 (h a List.mem_cons_self)).2.2
        omega
    have g := this ni_lns (fun _ h => h)
    have e : ni_lns.length = 28 := by decide +kernel
    rw [e] at g
    unfold ni_gz
    omega
  have hm1 : m ≤ 2048 := by
    rw [hm]
    have : 2 ^ k' ≤ 2 ^ 8 := Nat.pow_le_pow_right (by omega) hk8
    have e : (2 : Nat) ^ 8 = 256 := rfl
    omega
  obtain ⟨fs, g1, g2, g3⟩ := r2 l hs
  rw [hpl0, hk] at g1
  rw [hk] at g3
  have hcl : cp l = 5 := by rw [r3.1 l hs hlr0, (ni_objS hs hk rfl).1]; rfl
  have h9 : 1000 ≤ ni_live A l := r8 l hs (ni_objS hs hk rfl).2.2
  obtain ⟨v1o, p1, p2, p3⟩ := r2 _ b1.1
  obtain ⟨v2o, q1, q2, q3⟩ := r2 _ b2.1
  rw [ni_plR hlr1, b1.2.1] at p1
  rw [ni_plR hlr2, b2.2.1] at q1
  rw [ni_liveC b1.2.2.2 (by omega), b1.2.1] at p3
  rw [ni_liveC b2.2.2.2 (by omega), b2.2.1] at q3
  obtain ⟨n, hn⟩ := Int.eq_ofNat_of_zero_le h0
  refine wp_enter (Nat.le_of_ble_eq_true rfl) rfl ?_
  refine wp_Ld rfl rfl rfl ?_
  refine wp_ANew (kk := 4) rfl (by omega) r6 (by omega) ?_
  rw [Int.toNat_natCast]
  refine wp_St rfl rfl rfl ?_
  refine wp_Ld rfl rfl rfl ?_
  refine wp_Newa (kk := 0) rfl (by omega) r6 (by rw [List.length_append]; simp; omega) ?_
  rw [Int.toNat_natCast]
  refine wp_St rfl rfl rfl ?_
  refine wp_P (g := ni_gPush (.int (0)) 10) rfl (wp_push (z := 0) rfl) ?_
  refine wp_St rfl rfl rfl ?_
  rw [show (((M.1 ++ [((100 + 4, List.replicate m Value.null) : ni_C)], M.2) : ni_H).1).length = M.1.length + 1 by simp]
  obtain ⟨M2, hM2⟩ : ∃ M2 : ni_H, M2 = ((((M.1 ++ [((100 + 4, List.replicate m Value.null) : ni_C)], M.2) : ni_H).1 ++ [((100 + 0, List.replicate m (ni_df .int)) : ni_C)], ((M.1 ++ [((100 + 4, List.replicate m Value.null) : ni_C)], M.2) : ni_H).2) : ni_H) := ⟨_, rfl⟩
  have hold : ∀ b, b < M.1.length → M2.1[b]? = M.1[b]? := fun b hb => by
    rw [hM2]
    dsimp only
    rw [List.getElem?_append_left (by rw [List.length_append]; omega), List.getElem?_append_left hb]
  have hlen : M2.1.length = M.1.length + 2 := by
    rw [hM2]
    simp
  have hz2 : ni_zs M2 = ni_zs M + 2 * m := by
    rw [hM2, ni_zsA, ni_zsA]
    simp
    omega
  have h20 : M2.2 = 0 := by
    rw [hM2]
    exact r6
  have hn1 : M2.1[M.1.length]? = some (104, List.replicate m Value.null) := by
    rw [hM2]
    dsimp only
    rw [List.getElem?_append_left (by rw [List.length_append]; simp), List.getElem?_append_right (Nat.le_refl _), Nat.sub_self]
    rfl
  have hn2 : M2.1[M.1.length + 1]? = some (100, List.replicate m (ni_z 0)) := by
    rw [hM2]
    dsimp only
    rw [List.getElem?_append_right (by rw [List.length_append]; simp), show M.1.length + 1 - (M.1 ++ [((100 + 4, List.replicate m Value.null) : ni_C)]).length = 0 by simp]
    rfl
  rw [← hM2]
  refine mt_mrL (A := A) (n := n) (l := l) (M2 := M2) (fs := fs) (v1o := v1o) (v2o := v2o) (r1 := rw (l + 1)) (r2 := rw (l + 2)) (by rw [hold _ l0]; exact g1) (g3 0 (by omega) (by omega)) (g3 1 (by omega) (by omega)) (by rw [← hn]; exact g3 2 (by omega) (by omega)) (by rw [hold _ l1]; exact p1) (by rw [hold _ l2]; exact q1) (fun j hj => p3 j (by omega) (by omega)) (fun j hj => q3 j (by omega) (by omega)) ⟨by omega, by omega, by omega, by omega, by omega, by omega, by omega⟩ (by omega) (fun j hj => ?_) (fun M' hM' => ?_) n 0 (by omega) M2 ⟨fun _ _ _ => rfl, rfl, rfl, rfl, ⟨_, hn1, List.length_replicate, fun j hj => absurd hj (Nat.not_lt_zero j)⟩, _, hn2, List.length_replicate, fun j hj => absurd hj (Nat.not_lt_zero j)⟩
  · obtain ⟨c, hc1, hc2⟩ := hL j (by omega)
    have hc3 := (r5 _ c hc1).1
    have hc4 := (List.getElem?_eq_some_iff.mp hc3).1
    exact ⟨by omega, by omega, c, by rw [hold _ hc4]; exact hc3, hc2⟩
  · obtain ⟨m1, m2, m3, m4, ⟨v1, w1, w2, w3⟩, v2, x1, x2, x3⟩ := hM'
    have c0 : M'.1[ad l]? = some (2, fs) := by rw [m1 _ (by omega) (by omega), hold _ l0]; exact g1
    refine wp_Ld rfl rfl rfl ?_
    refine wp_Ld rfl rfl rfl ?_
    refine wp_Put (vs' := fs.set 0 (.ref M.1.length)) rfl c0 (by omega) ni_fitR rfl fun M3 u3 => ?_
    have z3 := ni_zsW c0 u3 (by simp)
    obtain ⟨u3a, u3b, u3c, u3d⟩ := u3
    refine wp_Ld rfl rfl rfl ?_
    refine wp_Ld rfl rfl rfl ?_
    refine wp_Put (vs' := (fs.set 0 (.ref M.1.length)).set 1 (.ref (M.1.length + 1))) rfl u3a (by rw [List.length_set]; omega) ni_fitR rfl fun M4 u4 => ?_
    have z4 := ni_zsW u3a u4 (by simp)
    obtain ⟨u4a, u4b, u4c, u4d⟩ := u4
    refine wp_Rv rfl rfl ⟨rfl, ?_⟩
    refine ni_grown (M2 := M2) hs hk hR hm hk8 hcp h0 g1 hold hlen hz2 h20 (by rw [u4c, u3c, m2]) (by rw [z4, z3, m4]) (by rw [u4d, u3d, m3]) u4a (fun b e1 e2 e3 => by rw [u4b b e1, u3b b e1, m1 b e2 e3]) (v1 := v1) (v2 := v2) (by rw [u4b _ (by omega), u3b _ (by omega)]; exact w1) (by rw [u4b _ (by omega), u3b _ (by omega)]; exact x1) ⟨w2, fun j hj => w3 j (by omega)⟩ ⟨x2, fun j hj => x3 j (by omega)⟩
/-- a letter is put behind the others, if there is room -/
def ni_putL (A : Nat → Nat → Int) (l b : Nat) (t : Int) : Nat → Nat → Int := if 2048 ≤ A l 2 then A else ni_u2 (ni_u2 (ni_u2 A (l + 1) (A l 2).toNat (b : Int)) (l + 2) (A l 2).toNat t) l 2 (A l 2 + 1)
end NLG
