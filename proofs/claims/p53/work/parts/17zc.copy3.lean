/-! COPIES: A LINE -/
section NCY3
variable {xs : List Int32} {St : Nat → Option ni_C} {sd sr : Nat → Nat} {X : Nat → Nat → Int}
theorem ni_grownK {M M2 M' : ni_H} {ad rw cp : Nat → Nat} {A : Nat → Nat → Int} {L : Nat → Nat} {l m k' : Nat} {fs v1 v2 : List Value} (hs : ni_us l = true) (hk : ni_kd l = 2) (hR : ni_Rep St M ad rw cp A (L)) (hLv : ∀ s, ni_ct s = (l, 2) → L s = (A l 2).toNat) (hm : m = 8 * 2 ^ k') (hk8 : k' ≤ 8) (hcp : 2 * cp (l + 1) ≤ m) (h0 : 0 ≤ A l 2) (hfs : M.1[ad l]? = some (2, fs)) (hM2 : ∀ b, b < M.1.length → M2.1[b]? = M.1[b]?) (hl2 : M2.1.length = M.1.length + 2) (hz2 : ni_zs M2 = ni_zs M + 2 * m) (h20 : M2.2 = 0) (hl : M'.1.length = M2.1.length) (hz : ni_zs M' = ni_zs M2) (h2 : M'.2 = M2.2) (hc : M'.1[ad l]? = some (2, (fs.set 0 (.ref M.1.length)).set 1 (.ref (M.1.length + 1)))) (ho : ∀ b, b ≠ ad l → b ≠ M.1.length → b ≠ M.1.length + 1 → M'.1[b]? = M2.1[b]?) (hv1 : M'.1[M.1.length]? = some (104, v1)) (hv2 : M'.1[M.1.length + 1]? = some (100, v2)) (hw1 : v1.length = m ∧ ∀ j : Nat, (j : Int) < A l 2 → v1[j]? = some (.ref (A (l + 1) j).toNat)) (hw2 : v2.length = m ∧ ∀ j : Nat, (j : Int) < A l 2 → v2[j]? = some (ni_z (A (l + 2) j))) : ∃ rw' cp', ni_Rep St M' ad rw' cp' A (L) ∧ ni_Kp M ad rw cp M' rw' cp' ∧ cp' (l + 1) = m := by
  have h374 := (ni_usT hs).1
  have hlm := ni_lnsC hs hk
  have b1 := ni_o2_1 hs hk
  have b2 := ni_o2_2 hs hk
  have hlr1 : ni_lr (l + 1) = true := ni_lrO b1.2.2.1
  have hlr2 : ni_lr (l + 2) = true := ni_lrO b2.2.2.1
  have hlr0 : ni_lr l = false := (ni_objS hs hk rfl).2.1
  obtain ⟨r1, r2, r3, r4, r5, r6, r7, r8⟩ := hR
  have hlt : ∀ s, ni_us s = true → ni_pl ad rw s < M.1.length := fun s hs => by
    obtain ⟨vs, g, _⟩ := r2 s hs
    exact (List.getElem?_eq_some_iff.mp g).1
  have hpl0 : ni_pl ad rw l = ad l := by
    unfold ni_pl
    rw [hlr0, cond_false]
  have hadl := hlt l hs
  rw [hpl0] at hadl
  have hcb := ni_cpB r3 hlm
  have hpn : ∀ s, s ≠ l + 1 → s ≠ l + 2 → ni_pl ad (ni_rwU rw l M.1.length (M.1.length + 1)) s = ni_pl ad rw s := fun s e1 e2 => by
    unfold ni_pl ni_rwU
    rw [if_neg e1, if_neg e2]
  have hp1 : ni_pl ad (ni_rwU rw l M.1.length (M.1.length + 1)) (l + 1) = M.1.length := by
    unfold ni_pl ni_rwU
    rw [hlr1, cond_true, if_pos rfl]
  have hp2 : ni_pl ad (ni_rwU rw l M.1.length (M.1.length + 1)) (l + 2) = M.1.length + 1 := by
    unfold ni_pl ni_rwU
    rw [hlr2, cond_true, if_neg (by omega), if_pos rfl]
  have hcn : ∀ p ∈ ni_lns, p ≠ l → ni_rwU cp l m m (p + 1) = cp (p + 1) ∧ ni_rwU cp l m m (p + 2) = cp (p + 2) := fun p hp e => by
    obtain ⟨t1, t2, t3, t4⟩ := ni_lnsT hp hlm e
    unfold ni_rwU
    rw [if_neg t1, if_neg t2, if_neg t3, if_neg t4]
    exact ⟨rfl, rfl⟩
  have hc1 : ni_rwU cp l m m (l + 1) = m := by
    unfold ni_rwU
    rw [if_pos rfl]
  have hc2 : ni_rwU cp l m m (l + 2) = m := by
    unfold ni_rwU
    rw [if_neg (by omega), if_pos rfl]
  have hgz : ni_gz (ni_rwU cp l m m) + cp (l + 1) = ni_gz cp + m := by
    have := ni_sumU (f := fun p => ni_rwU cp l m m (p + 1)) (g := fun p => cp (p + 1)) (l := l) ni_lns (fun p hp e => (hcn p hp e).1) ni_lnsN hlm
    rw [hc1] at this
    exact this
  have hvk : ∀ s j, ni_us s = true → s ≠ l → ni_vk (ni_kd s) ad (ni_rwU rw l M.1.length (M.1.length + 1)) A s j = ni_vk (ni_kd s) ad rw A s j := fun s j hs' e => by
    refine ni_vkR ?_
    by_cases hk2 : ni_kd s = 2
    · obtain ⟨t1, t2, t3, t4⟩ := ni_lnsT (ni_lnsC hs' hk2) hlm e
      refine Or.inr ⟨?_, ?_⟩
      · unfold ni_rwU
        rw [if_neg t1, if_neg t2]
      · unfold ni_rwU
        rw [if_neg t3, if_neg t4]
    · exact Or.inl hk2
  have hA2 := r4 l hlm
  have hlive := hLv
  obtain ⟨vs, g1, g2, g3⟩ := r2 l hs
  rw [hpl0, hk, hfs] at g1
  have evs : fs = vs := by injection g1 with g; exact congrArg Prod.snd g
  subst evs
  rw [hk] at g3
  have hcl : cp l = 5 := by rw [r3.1 l hs hlr0, (ni_objS hs hk rfl).1]; rfl
  refine ⟨ni_rwU rw l M.1.length (M.1.length + 1), ni_rwU cp l m m, ⟨fun s t hs' ht' e => ?_, fun s hs' => ?_, ⟨fun s hs' hlr => ?_, fun p hp => ?_⟩, fun p hp => ?_, fun a c hac => ?_, by rw [h2, h20], by rw [hl, hl2]; omega, r8⟩, ⟨fun b hb hn => ?_, fun s hs' => ?_, by rw [hl, hl2]; omega, by rw [hz, hz2]; omega, by rw [hl, hl2]; omega⟩, hc1⟩
  · by_cases s1 : s = l + 1
    · by_cases t1 : t = l + 1
      · omega
      · rw [s1, hp1] at e
        by_cases t2 : t = l + 2
        · rw [t2, hp2] at e
          omega
        · rw [hpn t t1 t2] at e
          have := hlt t ht'
          omega
    · by_cases s2 : s = l + 2
      · rw [s2, hp2] at e
        by_cases t1 : t = l + 1
        · rw [t1, hp1] at e
          omega
        · by_cases t2 : t = l + 2
          · omega
          · rw [hpn t t1 t2] at e
            have := hlt t ht'
            omega
      · rw [hpn s s1 s2] at e
        by_cases t1 : t = l + 1
        · rw [t1, hp1] at e
          have := hlt s hs'
          omega
        · by_cases t2 : t = l + 2
          · rw [t2, hp2] at e
            have := hlt s hs'
            omega
          · rw [hpn t t1 t2] at e
            exact r1 s t hs' ht' e
  · by_cases s1 : s = l + 1
    · subst s1
      rw [hp1, b1.2.1, hc1]
      refine ⟨v1, hv1, hw1.1, fun j hj hj' => ?_⟩
      rw [hlive _ b1.2.2.2] at hj'
      exact hw1.2 j (by omega)
    · by_cases s2 : s = l + 2
      · subst s2
        rw [hp2, b2.2.1, hc2]
        refine ⟨v2, hv2, hw2.1, fun j hj hj' => ?_⟩
        rw [hlive _ b2.2.2.2] at hj'
        exact hw2.2 j (by omega)
      · have hcs : ni_rwU cp l m m s = cp s := by
          unfold ni_rwU
          rw [if_neg s1, if_neg s2]
        rw [hpn s s1 s2, hcs]
        by_cases s0 : s = l
        · subst s0
          rw [hpl0, hk]
          refine ⟨_, hc, by simp [g2], fun j hj hj' => ?_⟩
          rw [hcl] at hj
          by_cases j0 : j = 0
          · subst j0
            rw [List.getElem?_set_ne (by omega), List.getElem?_set_self (by omega)]
            show _ = some (Value.ref (ni_rwU rw s M.1.length (M.1.length + 1) (s + 1)))
            unfold ni_rwU
            rw [if_pos rfl]
          · by_cases j1 : j = 1
            · subst j1
              rw [List.getElem?_set_self (by rw [List.length_set]; omega)]
              show _ = some (Value.ref (ni_rwU rw s M.1.length (M.1.length + 1) (s + 2)))
              unfold ni_rwU
              rw [if_neg (by omega), if_pos rfl]
            · rw [List.getElem?_set_ne (by omega), List.getElem?_set_ne (by omega), g3 j (by omega) hj']
              obtain e | e | e : j = 2 ∨ j = 3 ∨ j = 4 := by omega
              all_goals (subst e; rfl)
        · obtain ⟨vs, q1, q2, q3⟩ := r2 s hs'
          have hps := hlt s hs'
          refine ⟨vs, ?_, q2, fun j hj hj' => ?_⟩
          · rw [ho _ (fun z => s0 (r1 s l hs' hs (by rw [hpl0]; exact z))) (by omega) (by omega), hM2 _ hps]
            exact q1
          · rw [hvk s j hs' s0]
            exact q3 j hj hj'
  · have s1 : s ≠ l + 1 := fun z => by rw [z, hlr1] at hlr; cases hlr
    have s2 : s ≠ l + 2 := fun z => by rw [z, hlr2] at hlr; cases hlr
    unfold ni_rwU
    rw [if_neg s1, if_neg s2]
    exact r3.1 s hs' hlr
  · by_cases e : p = l
    · subst e
      rw [hc1, hc2]
      exact ⟨rfl, k', hk8, hm⟩
    · obtain ⟨t1, t2⟩ := hcn p hp e
      rw [t1, t2]
      exact r3.2 p hp
  · by_cases e : p = l
    · subst e
      rw [hc1]
      omega
    · rw [(hcn p hp e).1]
      exact r4 p hp
  · obtain ⟨q1, q2⟩ := r5 a c hac
    have ha := (List.getElem?_eq_some_iff.mp q1).1
    refine ⟨?_, fun s hs' z => ?_⟩
    · rw [ho a (fun z => q2 l hs (by rw [hpl0]; exact z.symm)) (by omega) (by omega), hM2 a ha]
      exact q1
    · by_cases s1 : s = l + 1
      · rw [s1, hp1] at z
        omega
      · by_cases s2 : s = l + 2
        · rw [s2, hp2] at z
          omega
        · rw [hpn s s1 s2] at z
          exact q2 s hs' z
  · rw [ho b (fun z => hn l hs (by rw [hpl0]; exact z.symm)) (by omega) (by omega)]
    exact hM2 b hb
  · unfold ni_rwU
    by_cases s1 : s = l + 1
    · rw [if_pos s1]
      exact Or.inr (Nat.le_refl _)
    · by_cases s2 : s = l + 2
      · rw [if_neg s1, if_pos s2]
        exact Or.inr (Nat.le_succ _)
      · rw [if_neg s1, if_neg s2]
        exact Or.inl rfl
theorem mt_roomK {M : ni_H} {ad rw cp : Nat → Nat} {A : Nat → Nat → Int} {L : Nat → Nat} {l m k' : Nat} (hs : ni_us l = true) (hk : ni_kd l = 2) (hR : ni_Rep St M ad rw cp A (L)) (hLv : ∀ s, ni_ct s = (l, 2) → L s = (A l 2).toNat) (hm : m = 8 * 2 ^ k') (hk8 : k' ≤ 8) (hcp : 2 * cp (l + 1) ≤ m) (h0 : 0 ≤ A l 2) (hL : ∀ j : Nat, (j : Int) < A l 2 → ∃ c, St (A (l + 1) j).toNat = some c ∧ c.1 = 1) : wp_C xs 2 64 [.ref (ad l), ni_z (m : Int)] M (fun u M' => u = none ∧ ∃ rw' cp', ni_Rep St M' ad rw' cp' A (L) ∧ ni_Kp M ad rw cp M' rw' cp' ∧ cp' (l + 1) = m) := by
  have h374 := (ni_usT hs).1
  have hlm := ni_lnsC hs hk
  have b1 := ni_o2_1 hs hk
  have b2 := ni_o2_2 hs hk
  have hlr1 : ni_lr (l + 1) = true := ni_lrO b1.2.2.1
  have hlr2 : ni_lr (l + 2) = true := ni_lrO b2.2.2.1
  have hlr0 : ni_lr l = false := (ni_objS hs hk rfl).2.1
  have hR' := hR
  obtain ⟨r1, r2, r3, r4, r5, r6, r7, r8⟩ := hR'
  have hpl0 : ni_pl ad rw l = ad l := by
    unfold ni_pl
    rw [hlr0, cond_false]
  have hlt : ∀ s, ni_us s = true → ni_pl ad rw s < M.1.length := fun s hs => by
    obtain ⟨vs, g, _⟩ := r2 s hs
    exact (List.getElem?_eq_some_iff.mp g).1
  have l0 := hlt l hs
  have l1 := hlt _ b1.1
  have l2 := hlt _ b2.1
  rw [hpl0] at l0
  rw [ni_plR hlr1] at l1
  rw [ni_plR hlr2] at l2
  have hA2 := r4 l hlm
  have hcb := ni_cpB r3 hlm
  have hgB : ni_gz cp ≤ 57344 := by
    have : ∀ L : List Nat, (∀ p ∈ L, p ∈ ni_lns) → (L.map fun p => cp (p + 1)).sum ≤ 2048 * L.length := by
      intro L
      induction L with
      | nil => intro _; exact Nat.le_refl _
      | cons a L ih =>
        intro h
        rw [List.map_cons, List.sum_cons, List.length_cons]
        have h1 := ih (fun p hp => h p (List.mem_cons_of_mem _ hp))
        have h2 := (ni_cpB r3 (h a List.mem_cons_self)).2.2
        omega
    have g := this ni_lns (fun _ h => h)
    have e : ni_lns.length = 28 := by decide +kernel
    rw [e] at g
    unfold ni_gz
    omega
  have hm1 : m ≤ 2048 := by
    rw [hm]
    have : 2 ^ k' ≤ 2 ^ 8 := Nat.pow_le_pow_right (by omega) hk8
    have e : (2 : Nat) ^ 8 = 256 := rfl
    omega
  obtain ⟨fs, g1, g2, g3⟩ := r2 l hs
  rw [hpl0, hk] at g1
  rw [hk] at g3
  have hcl : cp l = 5 := by rw [r3.1 l hs hlr0, (ni_objS hs hk rfl).1]; rfl
  have h9 : 1000 ≤ L l := r8 l hs (ni_objS hs hk rfl).2.2
  obtain ⟨v1o, p1, p2, p3⟩ := r2 _ b1.1
  obtain ⟨v2o, q1, q2, q3⟩ := r2 _ b2.1
  rw [ni_plR hlr1, b1.2.1] at p1
  rw [ni_plR hlr2, b2.2.1] at q1
  rw [hLv _ b1.2.2.2, b1.2.1] at p3
  rw [hLv _ b2.2.2.2, b2.2.1] at q3
  obtain ⟨n, hn⟩ := Int.eq_ofNat_of_zero_le h0
  refine wp_enter (Nat.le_of_ble_eq_true rfl) rfl ?_
  refine wp_Ld rfl rfl rfl ?_
  refine wp_ANew (kk := 4) rfl (by omega) r6 (by omega) ?_
  rw [Int.toNat_natCast]
  refine wp_St rfl rfl rfl ?_
  refine wp_Ld rfl rfl rfl ?_
  refine wp_Newa (kk := 0) rfl (by omega) r6 (by rw [List.length_append]; simp; omega) ?_
  rw [Int.toNat_natCast]
  refine wp_St rfl rfl rfl ?_
  refine wp_P (g := ni_gPush (.int (0)) 10) rfl (wp_push (z := 0) rfl) ?_
  refine wp_St rfl rfl rfl ?_
  rw [show (((M.1 ++ [((100 + 4, List.replicate m Value.null) : ni_C)], M.2) : ni_H).1).length = M.1.length + 1 by simp]
  obtain ⟨M2, hM2⟩ : ∃ M2 : ni_H, M2 = ((((M.1 ++ [((100 + 4, List.replicate m Value.null) : ni_C)], M.2) : ni_H).1 ++ [((100 + 0, List.replicate m (ni_df .int)) : ni_C)], ((M.1 ++ [((100 + 4, List.replicate m Value.null) : ni_C)], M.2) : ni_H).2) : ni_H) := ⟨_, rfl⟩
  have hold : ∀ b, b < M.1.length → M2.1[b]? = M.1[b]? := fun b hb => by
    rw [hM2]
    dsimp only
    rw [List.getElem?_append_left (by rw [List.length_append]; omega), List.getElem?_append_left hb]
  have hlen : M2.1.length = M.1.length + 2 := by
    rw [hM2]
    simp
  have hz2 : ni_zs M2 = ni_zs M + 2 * m := by
    rw [hM2, ni_zsA, ni_zsA]
    simp
    omega
  have h20 : M2.2 = 0 := by
    rw [hM2]
    exact r6
  have hn1 : M2.1[M.1.length]? = some (104, List.replicate m Value.null) := by
    rw [hM2]
    dsimp only
    rw [List.getElem?_append_left (by rw [List.length_append]; simp), List.getElem?_append_right (Nat.le_refl _), Nat.sub_self]
    rfl
  have hn2 : M2.1[M.1.length + 1]? = some (100, List.replicate m (ni_z 0)) := by
    rw [hM2]
    dsimp only
    rw [List.getElem?_append_right (by rw [List.length_append]; simp), show M.1.length + 1 - (M.1 ++ [((100 + 4, List.replicate m Value.null) : ni_C)]).length = 0 by simp]
    rfl
  rw [← hM2]
  refine mt_mrL (A := A) (n := n) (l := l) (M2 := M2) (fs := fs) (v1o := v1o) (v2o := v2o) (r1 := rw (l + 1)) (r2 := rw (l + 2)) (by rw [hold _ l0]; exact g1) (g3 0 (by omega) (by omega)) (g3 1 (by omega) (by omega)) (by rw [← hn]; exact g3 2 (by omega) (by omega)) (by rw [hold _ l1]; exact p1) (by rw [hold _ l2]; exact q1) (fun j hj => p3 j (by omega) (by omega)) (fun j hj => q3 j (by omega) (by omega)) ⟨by omega, by omega, by omega, by omega, by omega, by omega, by omega⟩ (by omega) (fun j hj => ?_) (fun M' hM' => ?_) n 0 (by omega) M2 ⟨fun _ _ _ => rfl, rfl, rfl, rfl, ⟨_, hn1, List.length_replicate, fun j hj => absurd hj (Nat.not_lt_zero j)⟩, _, hn2, List.length_replicate, fun j hj => absurd hj (Nat.not_lt_zero j)⟩
  · obtain ⟨c, hc1, hc2⟩ := hL j (by omega)
    have hc3 := (r5 _ c hc1).1
    have hc4 := (List.getElem?_eq_some_iff.mp hc3).1
    exact ⟨by omega, by omega, c, by rw [hold _ hc4]; exact hc3, hc2⟩
  · obtain ⟨m1, m2, m3, m4, ⟨v1, w1, w2, w3⟩, v2, x1, x2, x3⟩ := hM'
    have c0 : M'.1[ad l]? = some (2, fs) := by rw [m1 _ (by omega) (by omega), hold _ l0]; exact g1
    refine wp_Ld rfl rfl rfl ?_
    refine wp_Ld rfl rfl rfl ?_
    refine wp_Put (vs' := fs.set 0 (.ref M.1.length)) rfl c0 (by omega) ni_fitR rfl fun M3 u3 => ?_
    have z3 := ni_zsW c0 u3 (by simp)
    obtain ⟨u3a, u3b, u3c, u3d⟩ := u3
    refine wp_Ld rfl rfl rfl ?_
    refine wp_Ld rfl rfl rfl ?_
    refine wp_Put (vs' := (fs.set 0 (.ref M.1.length)).set 1 (.ref (M.1.length + 1))) rfl u3a (by rw [List.length_set]; omega) ni_fitR rfl fun M4 u4 => ?_
    have z4 := ni_zsW u3a u4 (by simp)
    obtain ⟨u4a, u4b, u4c, u4d⟩ := u4
    refine wp_Rv rfl rfl ⟨rfl, ?_⟩
    refine ni_grownK (M2 := M2) hs hk hR hLv hm hk8 hcp h0 g1 hold hlen hz2 h20 (by rw [u4c, u3c, m2]) (by rw [z4, z3, m4]) (by rw [u4d, u3d, m3]) u4a (fun b e1 e2 e3 => by rw [u4b b e1, u3b b e1, m1 b e2 e3]) (v1 := v1) (v2 := v2) (by rw [u4b _ (by omega), u3b _ (by omega)]; exact w1) (by rw [u4b _ (by omega), u3b _ (by omega)]; exact x1) ⟨w2, fun j hj => w3 j (by omega)⟩ ⟨x2, fun j hj => x3 j (by omega)⟩
theorem nk_cpS {A : Nat → Nat → Int} {s i : Nat} {F : Nat → Int} {x : Int} (h : x = F i) : ni_u2 (nk_cp A s i F) s i x = nk_cp A s (i + 1) F := by
  subst h
  funext s' j
  by_cases e : s' = s ∧ j = i
  · rw [e.1, e.2, ni_u2e]
    unfold nk_cp
    rw [if_pos ⟨rfl, by omega⟩]
  · rw [ni_u2n (by omega)]
    unfold nk_cp
    by_cases g : s' = s ∧ j < i
    · rw [if_pos g, if_pos ⟨g.1, by omega⟩]
    · rw [if_neg g, if_neg (by omega)]
theorem nk_cpC {A : Nat → Nat → Int} {s i s' j : Nat} {F : Nat → Int} {x : Int} (h : s' ≠ s) : ni_u2 (nk_cp A s i F) s' j x = nk_cp (ni_u2 A s' j x) s i F := by
  funext t k
  show (if t = s' ∧ k = j then x else (if t = s ∧ k < i then F k else A t k)) = (if t = s ∧ k < i then F k else (if t = s' ∧ k = j then x else A t k))
  by_cases e : t = s' ∧ k = j
  · rw [if_pos e, if_neg (by omega), if_pos e]
  · rw [if_neg e]
    by_cases g : t = s ∧ k < i
    · rw [if_pos g, if_pos g]
    · rw [if_neg g, if_neg g, if_neg e]
/-- both rows of a line, as far as i -/
def nk_c2 (B X : Nat → Nat → Int) (l i : Nat) : Nat → Nat → Int := nk_cp (nk_cp B (l + 1) i (X (l + 1))) (l + 2) i (X (l + 2))
def nk_t2 (L : Nat → Nat) (l i : Nat) : Nat → Nat := fun s => if s = l + 1 ∨ s = l + 2 then i else L s
theorem nk_c2S {B : Nat → Nat → Int} {l i : Nat} {x1 x2 : Int} (h1 : x1 = X (l + 1) i) (h2 : x2 = X (l + 2) i) : ni_u2 (ni_u2 (nk_c2 B X l i) (l + 1) i x1) (l + 2) i x2 = nk_c2 B X l (i + 1) := by
  unfold nk_c2
  rw [nk_cpC (by omega), nk_cpS h2, nk_cpS h1]
theorem nk_t2S {L : Nat → Nat} {l i : Nat} : ni_u1 (ni_u1 (nk_t2 L l i) (l + 1) (i + 1)) (l + 2) (i + 1) = nk_t2 L l (i + 1) := by
  funext s
  unfold ni_u1 nk_t2
  by_cases e2 : s = l + 2
  · rw [if_pos e2, if_pos (Or.inr e2)]
  · rw [if_neg e2]
    by_cases e1 : s = l + 1
    · rw [if_pos e1, if_pos (Or.inl e1)]
    · rw [if_neg e1, if_neg (by omega), if_neg (by omega)]
theorem mt_cpN {l n d : Nat} {B : Nat → Nat → Int} {L : Nat → Nat} {M0 : ni_H} {ad rw0 cp0 rw cp : Nat → Nat} {Q : Option Value → ni_H → Prop} {v0 v1 v2 : List Value} (hs : ni_us l = true) (hk : ni_kd l = 2) (hn : n ≤ 2048) (g0 : St (sd l) = some (2, v0)) (e0 : v0[0]? = some (.ref (sr (l + 1))) ∧ v0[1]? = some (.ref (sr (l + 2))) ∧ v0[2]? = some (ni_z (n : Int))) (g1 : St (sr (l + 1)) = some (104, v1)) (g2 : St (sr (l + 2)) = some (100, v2)) (e1 : ∀ i, i < n → v1[i]? = some (.ref (X (l + 1) i).toNat)) (e2 : ∀ i, i < n → v2[i]? = some (ni_z (X (l + 2) i))) (hL : ∀ i : Nat, i < n → 0 ≤ X (l + 1) i ∧ ∃ c, St (X (l + 1) i).toNat = some c ∧ c.1 = 1) (hcp : n ≤ cp (l + 1)) (hE : ∀ M, ni_Sx St M0 ad rw0 cp0 M rw cp (nk_c2 B X l n) (nk_t2 L l n) → wp_G xs d 62 66 [.ref (ad l), .ref (sd l), ni_z (n : Int)] [] M Q) : ∀ k i : Nat, i + k = n → ∀ M, ni_Sx St M0 ad rw0 cp0 M rw cp (nk_c2 B X l i) (nk_t2 L l i) → wp_G xs d 62 28 [.ref (ad l), .ref (sd l), ni_z (i : Int)] [] M Q := by
  have b1 := ni_o2_1 hs hk
  have b2 := ni_o2_2 hs hk
  have hlr1 : ni_lr (l + 1) = true := ni_lrO b1.2.2.1
  have hlr2 : ni_lr (l + 2) = true := ni_lrO b2.2.2.1
  intro k
  induction k with
  | zero =>
    intro i hi M h
    have hin : i = n := by omega
    subst hin
    refine wp_Ld rfl rfl rfl ?_
    refine wp_Ld rfl rfl rfl ?_
    refine wp_Get rfl (h.1.2.2.2.2.1 _ _ g0).1 e0.2.2 ?_
    refine wp_Ic true rfl (zc_ge_t ⟨by omega, by omega⟩ ⟨by omega, by omega⟩ (by omega)) ?_
    exact hE M h
  | succ k ih =>
    intro i hi M h
    obtain ⟨hc0, c, hc1, hc2⟩ := hL i (by omega)
    have hcb := ni_cpB h.1.2.2.1 (ni_lnsC hs hk)
    refine wp_Ld rfl rfl rfl ?_
    refine wp_Ld rfl rfl rfl ?_
    refine wp_Get rfl (h.1.2.2.2.2.1 _ _ g0).1 e0.2.2 ?_
    refine wp_Ic false rfl (zc_ge_f ⟨by omega, by omega⟩ ⟨by omega, by omega⟩ (by omega)) ?_
    refine wp_Ld rfl rfl rfl ?_
    refine ws_Get (v := .ref (rw (l + 1))) rfl h hs hk rfl rfl rfl ?_
    refine wp_Ld rfl rfl rfl ?_
    refine wp_Ld rfl rfl rfl ?_
    refine wp_Get rfl (h.1.2.2.2.2.1 _ _ g0).1 e0.1 ?_
    refine wp_Ld rfl rfl rfl ?_
    have hq1 := (h.1.2.2.2.2.1 _ _ g1).1
    refine wp_Qld (v := .ref (X (l + 1) i).toNat) (q := 47) (t := 104) (y := 62) (pc := 46) rfl hq1 ⟨by decide, rfl⟩ (by omega) (by rw [Int.toNat_natCast]; exact e1 i (by omega)) rfl ?_
    refine ws_Qst (q := 48) (y := 62) (pc := 47) (j := i) (L' := ni_u1 (nk_t2 L l i) (l + 1) (i + 1)) rfl h b1.1 b1.2.1 (ni_plR hlr1) rfl (by omega) (by omega) hc1 hc2 (Or.inr ⟨rfl, ?_⟩) fun M1 h1 => ?_
    · unfold nk_t2
      rw [if_pos (Or.inl rfl)]
    refine wp_Ld rfl rfl rfl ?_
    refine ws_Get (v := .ref (rw (l + 2))) rfl h1 hs hk rfl rfl rfl ?_
    refine wp_Ld rfl rfl rfl ?_
    refine wp_Ld rfl rfl rfl ?_
    refine wp_Get rfl (h1.1.2.2.2.2.1 _ _ g0).1 e0.2.1 ?_
    refine wp_Ld rfl rfl rfl ?_
    have hz := ni_clZ (x := (i : Int)) (by omega)
    refine wp_Ald (q := 59) (y := 62) (pc := 58) rfl (h1.1.2.2.2.2.1 _ _ g2).1 ⟨Nat.le_of_ble_eq_true rfl, rfl, hz.1⟩ (by rw [hz.2, Int.toNat_natCast]; exact e2 i (by omega)) rfl ?_
    refine ws_AstR (t := 0) (q := 60) (y := 62) (pc := 59) (j := i) (L' := ni_u1 (ni_u1 (nk_t2 L l i) (l + 1) (i + 1)) (l + 2) (i + 1)) rfl h1 b2.1 b2.2.1 hlr2 rfl (by omega) (by omega) (Or.inr ⟨rfl, ?_⟩) fun M2 h2 => ?_
    · unfold ni_u1 nk_t2
      rw [if_neg (by omega), if_pos (Or.inr rfl)]
    refine wp_Inc (ls' := [.ref (ad l), .ref (sd l), ni_z ((i : Int) + 1)]) (x' := (i : Int) + 1) rfl rfl (zi_inc (z := 1) rfl) rfl ?_
    refine wp_P (g := ni_gGo 28) rfl rfl ?_
    rw [nk_c2S (X := X) (Int.toNat_of_nonneg hc0) rfl, nk_t2S] at h2
    exact ih (i + 1) (by omega) M2 h2
theorem nk_ctA : ((List.range 374).all fun s => !(Nat.beq (ni_ct s).2 2) || Nat.ble 998 (ni_ct s).1 || Nat.beq s ((ni_ct s).1 + 1) || Nat.beq s ((ni_ct s).1 + 2)) = true := by decide +kernel
theorem nk_ct {s l : Nat} (hl : l < 998) (h : ni_ct s = (l, 2)) : s = l + 1 ∨ s = l + 2 := by
  by_cases g : s < 374
  · have e := List.all_eq_true.mp nk_ctA s (List.mem_range.mpr g)
    rw [h] at e
    simp only [Bool.or_eq_true, Nat.beq_eq, Nat.ble_eq, Bool.not_eq_true'] at e
    rcases e with ((e | e) | e) | e
    · cases e
    · omega
    · exact Or.inl e
    · exact Or.inr e
  · have e : ni_ct s = (999, 0) := by
      unfold ni_ct
      rw [List.getD_eq_getElem?_getD, List.getElem?_eq_none (by rw [show ni_csL.length = 374 by decide +kernel]; omega)]
      rfl
    rw [e] at h
    cases h
/-- two powers -/
theorem nk_2p {a b x : Nat} (h : 8 * 2 ^ a < x) (h2 : x ≤ 8 * 2 ^ b) : 2 * (8 * 2 ^ a) ≤ 8 * 2 ^ b := by
  have : a < b := by
    by_cases g : a < b
    · exact g
    · have := Nat.pow_le_pow_right (n := 2) (by omega) (show b ≤ a by omega)
      omega
  have := Nat.pow_le_pow_right (n := 2) (by omega) (show a + 1 ≤ b by omega)
  rw [Nat.pow_succ] at this
  omega
theorem mt_cpLine {l : Nat} (hs : ni_us l = true) (hk : ni_kd l = 2) (hX : nk_src St sd sr X) (hn : 0 ≤ X l 2 ∧ X l 2 ≤ 2048) (hL : ∀ i : Nat, (i : Int) < X l 2 → 0 ≤ X (l + 1) i ∧ ∃ c, St (X (l + 1) i).toNat = some c ∧ c.1 = 1) (B : Nat → Nat → Int) (L : Nat → Nat) : nk_D xs St 3 62 [ni_aP l, ni_aL (sd l)] B L (nq_cpy B X l (l + 4)) (nq_cpL L X l (l + 4)) := by
  have h374 := (ni_usT hs).1
  have b1 := ni_o2_1 hs hk
  have b2 := ni_o2_2 hs hk
  have b3 := ni_o2_3 hs hk
  have hlr1 : ni_lr (l + 1) = true := ni_lrO b1.2.2.1
  have hlr2 : ni_lr (l + 2) = true := ni_lrO b2.2.2.1
  have hlr0 : ni_lr l = false := (ni_objS hs hk rfl).2.1
  obtain ⟨n, hn'⟩ := Int.eq_ofNat_of_zero_le hn.1
  obtain ⟨v0, g0, p0, _, q0⟩ := hX l hs
  obtain ⟨v1, g1, _, p1, q1⟩ := hX (l + 1) b1.1
  obtain ⟨v2, g2, _, p2, q2⟩ := hX (l + 2) b2.1
  have hpl0 : ni_pl sd sr l = sd l := by
    unfold ni_pl
    rw [hlr0, cond_false]
  rw [hpl0, hk] at g0
  rw [ni_plR hlr1, b1.2.1] at g1
  rw [ni_plR hlr2, b2.2.1] at g2
  have l0 : v0.length = 5 := by rw [p0 hlr0, (ni_objS hs hk rfl).1]; rfl
  obtain ⟨p1, k1, k1a, k1b⟩ := p1 hlr1
  obtain ⟨p2, _⟩ := p2 hlr2
  rw [ni_liveC b1.2.2.2 (by omega)] at p1
  rw [ni_liveC b2.2.2.2 (by omega)] at p2
  rw [hk] at q0
  have lv0 : ∀ j, j < 5 → j < ni_live X l := fun j hj => by
    rw [ni_live9 (ni_objS hs hk rfl).2.2]
    omega
  have e00 : v0[0]? = some (.ref (sr (l + 1))) := q0 0 (by omega) (lv0 0 (by omega))
  have e01 : v0[1]? = some (.ref (sr (l + 2))) := q0 1 (by omega) (lv0 1 (by omega))
  have e02 : v0[2]? = some (ni_z (X l 2)) := q0 2 (by omega) (lv0 2 (by omega))
  have e02' : v0[2]? = some (ni_z (n : Int)) := by rw [e02, hn']
  have e1 : ∀ i, i < n → v1[i]? = some (.ref (X (l + 1) i).toNat) := fun i hi => by
    have := q1 i (by omega) (by rw [ni_liveC b1.2.2.2 (by omega)]; omega)
    rw [b1.2.1] at this
    exact this
  have e2 : ∀ i, i < n → v2[i]? = some (ni_z (X (l + 2) i)) := fun i hi => by
    have := q2 i (by omega) (by rw [ni_liveC b2.2.2.2 (by omega)]; omega)
    rw [b2.2.1] at this
    exact this
  have hfin : ∀ M ad rw cp, ni_Rep St M ad rw cp (ni_u2 (nk_cp (ni_u2 (nk_c2 (ni_u2 B l 2 0) X l n) l 2 n) (l + 3) 21 (X (l + 3))) l 4 (X l 4)) (ni_u1 (nk_t2 L l n) (l + 3) (max (nk_t2 L l n (l + 3)) 21)) → ni_Rep St M ad rw cp (nq_cpy B X l (l + 4)) (nq_cpL L X l (l + 4)) := by
    intro M ad rw cp hR
    refine nk_cg hR (fun s h0 j hj hjL => ?_) (fun p hp => ?_) (fun s h0 h9 => ?_)
    · unfold nq_cpL at hjL
      unfold nq_cpy
      by_cases hr : l ≤ s ∧ s < l + 4
      · rw [if_pos hr] at hjL ⊢
        rcases (show s = l ∨ s = l + 1 ∨ s = l + 2 ∨ s = l + 3 by omega) with r | r | r | r
        · subst r
          have hjn : j < 5 := by
            have := hR.2.2.1.1 _ h0 hlr0
            rw [(ni_objS h0 hk rfl).1] at this
            have e : ni_lk 2 = 5 := rfl
            omega
          refine ⟨?_, fun hq => ?_⟩
          · have := hR.2.2.2.2.2.2.2 _ h0 (ni_objS h0 hk rfl).2.2
            omega
          · rw [hk] at hq
            by_cases z2 : j = 2
            · subst z2
              rw [ni_u2n (by omega), nk_cpn (by omega), ni_u2e]
              exact hn'
            rcases (show j = 0 ∨ j = 1 ∨ j = 3 ∨ j = 4 by omega) with r | r | r | r <;> subst r <;> first | (cases hq; done) | (simp only [ni_u2, nk_c2, nk_cp, and_self, true_and, and_true, reduceIte, false_and, and_false]; repeat (first | rw [if_pos (by omega)] | rw [if_neg (by omega)]); done) | (simp only [ni_u2, nk_c2, nk_cp, and_self, true_and, and_true, reduceIte, false_and, and_false]; repeat (first | rw [if_pos (by omega)] | rw [if_neg (by omega)]); omega)
        · subst r
          rw [ni_liveC b1.2.2.2 (by omega)] at hjL
          refine ⟨?_, fun _ => by (simp only [ni_u2, nk_c2, nk_cp, and_self, true_and, and_true, reduceIte, false_and, and_false]; repeat (first | rw [if_pos (by omega)] | rw [if_neg (by omega)]))⟩
          rw [ni_u1n (by omega)]
          unfold nk_t2
          rw [if_pos (by omega)]
          omega
        · subst r
          rw [ni_liveC b2.2.2.2 (by omega)] at hjL
          refine ⟨?_, fun _ => by (simp only [ni_u2, nk_c2, nk_cp, and_self, true_and, and_true, reduceIte, false_and, and_false]; repeat (first | rw [if_pos (by omega)] | rw [if_neg (by omega)]))⟩
          rw [ni_u1n (by omega)]
          unfold nk_t2
          rw [if_pos (by omega)]
          omega
        · subst r
          have := ni_cpL hR.2.2.1 h0 b3.2.2.1 (by omega)
          refine ⟨?_, fun _ => by (simp only [ni_u2, nk_c2, nk_cp, and_self, true_and, and_true, reduceIte, false_and, and_false]; repeat (first | rw [if_pos (by omega)] | rw [if_neg (by omega)]))⟩
          have := hR.2.2.2.2.2.2.2 _ h0 b3.2.2.2
          omega
      · rw [if_neg hr] at hjL ⊢
        refine ⟨?_, fun _ => by (simp only [ni_u2, nk_c2, nk_cp, and_self, true_and, and_true, reduceIte, false_and, and_false]; repeat (first | rw [if_pos (by omega)] | rw [if_neg (by omega)]))⟩
        rw [ni_u1n (by omega)]
        unfold nk_t2
        rw [if_neg (by omega)]
        exact hjL
    · have hp2 := ni_lnP hp
      have hl2 := ni_lnP (ni_lnsC hs hk)
      have := hR.2.2.2.1 p hp
      unfold nq_cpy
      by_cases e : p = l
      · subst e
        rw [if_pos (by omega)]
        simp only [ni_u2, nk_c2, nk_cp, and_self, true_and, and_true, reduceIte, false_and, and_false] at this
        repeat (first | rw [if_pos (by omega)] at this | rw [if_neg (by omega)] at this)
        omega
      · rw [if_neg (by omega)]
        simp only [ni_u2, nk_c2, nk_cp] at this
        repeat rw [if_neg (by omega)] at this
        exact this
    · unfold nq_cpL
      have := hR.2.2.2.2.2.2.2 s h0 h9
      by_cases hr : l ≤ s ∧ s < l + 4
      · rw [if_pos hr, ni_live9 h9]
        exact Nat.le_refl _
      · rw [if_neg hr]
        rw [ni_u1n (by omega)] at this
        unfold nk_t2 at this
        rw [if_neg (by omega)] at this
        exact this
  have hEnd : ∀ d M0 ad rw0 cp0 M rw cp, ni_Sx St M0 ad rw0 cp0 M rw cp (ni_u2 (nk_c2 (ni_u2 B l 2 0) X l n) l 2 n) (nk_t2 L l n) → wp_G xs d 62 74 [.ref (ad l), .ref (sd l), ni_z (n : Int)] [] M (fun u M' => u = none ∧ ∃ rw' cp', ni_Rep St M' ad rw' cp' (nq_cpy B X l (l + 4)) (nq_cpL L X l (l + 4)) ∧ ni_Kp M0 ad rw0 cp0 M' rw' cp') := by
    intro d
    have hE : nk_E xs St d 62 74 [ni_aP l, ni_aL (sd l), ni_aI (n : Int)] [] (ni_u2 (nk_c2 (ni_u2 B l 2 0) X l n) l 2 n) (nk_t2 L l n) (fun B' K => ∀ M ad rw cp, ni_Rep St M ad rw cp B' K → ni_Rep St M ad rw cp (nq_cpy B X l (l + 4)) (nq_cpL L X l (l + 4))) := by
      refine K_Ld (q := 75) rfl rfl (fun _ _ => rfl) ?_
      refine K_GetX (q := 78) (w := .ref (sd (l + 3))) hX rfl hs hk rfl rfl rfl ?_
      refine K_push (q := 79) (c := 0) (z := 0) rfl rfl ?_
      refine K_Ld (q := 80) rfl rfl (fun _ _ => rfl) ?_
      refine K_Get (q := 83) (v := ni_aP (l + 3)) rfl hs hk rfl rfl (fun _ _ => rfl) ?_
      refine K_push (q := 84) (c := 0) (z := 0) rfl rfl ?_
      refine K_push (q := 86) (c := 21) (z := 21) rfl rfl ?_
      refine K_CopyX (q := 89) (k := 21) hX rfl b3.1 b3.2.1 b3.2.2.1 (by decide) rfl (by omega) b3.1 b3.2.1 ⟨Nat.le_of_eq b3.2.2.1.symm, by rw [ni_live9 b3.2.2.2]; omega, nk_lrF b3.2.2.1 (by omega)⟩ (Nat.le_of_ble_eq_true rfl) ?_
      refine K_Ld (q := 90) rfl rfl (fun _ _ => rfl) ?_
      refine K_Ld (q := 91) rfl rfl (fun _ _ => rfl) ?_
      refine K_GetX (q := 94) (w := ni_z (X l 4)) hX rfl hs hk rfl rfl rfl ?_
      refine K_Put (q := 97) rfl hs hk rfl rfl (fun _ _ _ => rfl) rfl (fun _ z => absurd z (by decide)) ?_
      exact K_Rv rfl rfl hfin
    obtain ⟨A', L', h1, h2⟩ := hE
    intro M0 ad rw0 cp0 M rw cp h
    refine wp_Gmono (h2 M0 ad rw0 cp0 M rw cp h) ?_
    rintro u M' ⟨hu, rw', cp', hR, hK⟩
    exact ⟨hu, rw', cp', h1 _ _ _ _ hR, hK⟩
  -- from where there is room
  have hMid : ∀ M0 ad rw0 cp0 M rw cp, ni_Sx St M0 ad rw0 cp0 M rw cp (nk_c2 (ni_u2 B l 2 0) X l 0) (nk_t2 L l 0) → n ≤ cp (l + 1) → wp_G xs 2 62 26 [.ref (ad l), .ref (sd l), ni_J] [] M (fun u M' => u = none ∧ ∃ rw' cp', ni_Rep St M' ad rw' cp' (nq_cpy B X l (l + 4)) (nq_cpL L X l (l + 4)) ∧ ni_Kp M0 ad rw0 cp0 M' rw' cp') := by
    intro M0 ad rw0 cp0 M rw cp h hc
    refine wp_P (g := ni_gPush (.int 0) 27) rfl (wp_push (z := 0) rfl) ?_
    refine wp_St (ls' := [.ref (ad l), .ref (sd l), ni_z ((0 : Nat) : Int)]) rfl rfl rfl ?_
    refine mt_cpN (n := n) hs hk (by omega) g0 ⟨e00, e01, e02'⟩ g1 g2 e1 e2 (fun i hi => hL i (by omega)) hc (fun M' h' => ?_) n 0 (by omega) M h
    refine wp_Ld rfl rfl rfl ?_
    refine wp_Ld rfl rfl rfl ?_
    refine wp_Get rfl (h'.1.2.2.2.2.1 _ _ g0).1 e02' ?_
    refine ws_Put rfl h' hs hk rfl rfl (fun _ => rfl) rfl (fun _ _ => (by omega)) ?_
    intro M2 h2
    exact hEnd 2 _ _ _ _ _ _ _ h2
  intro M ad rw cp hR
  refine wp_enter (Nat.le_of_ble_eq_true rfl) (ls := [.ref (ad l), .ref (sd l), ni_J]) rfl ?_
  have h : ni_Sx St M ad rw cp M rw cp B L := ⟨hR, ni_KpR⟩
  refine wp_Ld rfl rfl rfl ?_
  refine wp_P (g := ni_gPush (.int 0) 2) rfl (wp_push (z := 0) rfl) ?_
  refine ws_Put rfl h hs hk rfl rfl (fun _ => rfl) rfl (fun _ _ => (by omega)) ?_
  intro M1 h1
  have h1' : ni_Sx St M ad rw cp M1 rw cp (nk_c2 (ni_u2 B l 2 0) X l 0) (nk_t2 L l 0) := by
    refine ⟨nk_cg h1.1 (fun s h0 j hj hjL => ⟨?_, fun _ => ?_⟩) (fun p hp => ?_) (fun s h0 h9 => ?_), h1.2⟩
    · unfold nk_t2 at hjL
      split at hjL
      · omega
      · exact hjL
    · unfold nk_c2
      rw [nk_cpn (by omega), nk_cpn (by omega)]
    · unfold nk_c2
      rw [nk_cpn (by omega), nk_cpn (by omega)]
      exact h1.1.2.2.2.1 p hp
    · unfold nk_t2
      rw [if_neg ?_]
      · exact h1.1.2.2.2.2.2.2.2 s h0 h9
      · intro z
        rcases z with z | z <;> rw [z] at h9
        · rw [b1.2.2.2] at h9
          dsimp only at h9
          omega
        · rw [b2.2.2.2] at h9
          dsimp only at h9
          omega
  clear h1
  have hcb := ni_cpB hR.2.2.1 (ni_lnsC hs hk)
  refine wp_Ld rfl rfl rfl ?_
  refine ws_Get (v := .ref (rw (l + 1))) rfl h1' hs hk rfl rfl rfl ?_
  refine ws_LenR rfl h1' b1.1 b1.2.1 hlr1 ⟨Nat.le_of_ble_eq_true rfl, Nat.le_of_ble_eq_true rfl⟩ ?_
  refine wp_Ld rfl rfl rfl ?_
  refine wp_Get rfl (h1'.1.2.2.2.2.1 _ _ g0).1 e02' ?_
  by_cases hc : n ≤ cp (l + 1)
  · refine wp_Ic true rfl (zc_ge_t ⟨by omega, by omega⟩ ⟨by omega, by omega⟩ (by omega)) ?_
    exact hMid _ _ _ _ _ _ _ h1' hc
  · refine wp_Ic false rfl (zc_ge_f ⟨by omega, by omega⟩ ⟨by omega, by omega⟩ (by omega)) ?_
    obtain ⟨_, k2, k2a, k2b⟩ := hR.2.2.1.2 l (ni_lnsC hs hk)
    have hpw := nk_2p (a := k2) (b := k1) (x := n) (by omega) (by omega)
    have hv1 : v1.length ≤ 2048 := by
      rw [k1b]
      have := Nat.pow_le_pow_right (n := 2) (by omega) k1a
      have e : (2 : Nat) ^ 8 = 256 := rfl
      omega
    refine wp_Ld rfl rfl rfl ?_
    refine wp_Ld rfl rfl rfl ?_
    refine wp_Get rfl (h1'.1.2.2.2.2.1 _ _ g0).1 e00 ?_
    refine wp_Len (x := Int32.ofInt (v1.length : Int)) rfl (h1'.1.2.2.2.2.1 _ _ g1).1 ⟨Nat.le_of_ble_eq_true rfl, Nat.le_of_ble_eq_true rfl⟩ rfl ?_
    have e2' : (nk_c2 (ni_u2 B l 2 0) X l 0) l 2 = 0 := by
      unfold nk_c2
      rw [nk_cpn (by omega), nk_cpn (by omega), ni_u2e]
    have hcell : ∃ vs, M1.1[ad l]? = some (2, vs) := by
      obtain ⟨vs, w1, _⟩ := h1'.1.2.1 l hs
      have : ni_pl ad rw l = ad l := by
        unfold ni_pl
        rw [hlr0, cond_false]
      rw [this, hk] at w1
      exact ⟨vs, w1⟩
    obtain ⟨vs, w1⟩ := hcell
    refine wp_V (r := []) (as := [ni_z (v1.length : Int)]) rfl rfl rfl w1 (Nat.le_of_ble_eq_true rfl) (mt_roomK (m := v1.length) (k' := k1) hs hk h1'.1 (fun s e => ?_) k1b k1a (by omega) (by omega) (fun j hj => by omega)) ?_
    · unfold nk_t2
      rw [if_pos (nk_ct (by omega) e), e2']
      rfl
    · rintro u M2 ⟨hu, rw2, cp2, hR2, hK2, hc2⟩
      rw [hu]
      have h2 : ni_Sx St M ad rw cp M2 rw2 cp2 (nk_c2 (ni_u2 B l 2 0) X l 0) (nk_t2 L l 0) := ⟨hR2, ni_KpT h1'.2 hK2⟩
      exact hMid _ _ _ _ _ _ _ h2 (by omega)
end NCY3
