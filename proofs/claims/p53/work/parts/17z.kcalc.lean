/-! WALKS OF A COPY: the rows needn't speak on the way -/
section NKC
variable {xs : List Int32} {St : Nat → Option ni_C}
def nk_E (xs : List Int32) (St : Nat → Option ni_C) (d y pc : Nat) (ls st : List ni_a) (A : Nat → Nat → Int) (L : Nat → Nat) (P : (Nat → Nat → Int) → (Nat → Nat) → Prop) : Prop :=
  ∃ A' L', P A' L' ∧ ∀ M0 ad rw0 cp0 M rw cp, ni_Sx St M0 ad rw0 cp0 M rw cp A L → wp_G xs d y pc (ls.map (ni_dn ad rw)) (st.map (ni_dn ad rw)) M (fun u M' => u = none ∧ ∃ rw' cp', ni_Rep St M' ad rw' cp' A' L' ∧ ni_Kp M0 ad rw0 cp0 M' rw' cp')
/-- a method that copies, by its contract -/
def nk_D (xs : List Int32) (St : Nat → Option ni_C) (d y : Nat) (as : List ni_a) (A : Nat → Nat → Int) (L : Nat → Nat) (A' : Nat → Nat → Int) (L' : Nat → Nat) : Prop :=
  ∀ M ad rw cp, ni_Rep St M ad rw cp A L → wp_C xs d y (as.map (ni_dn ad ad)) M (fun u M' => u = none ∧ ∃ rw' cp', ni_Rep St M' ad rw' cp' A' L' ∧ ni_Kp M ad rw cp M' rw' cp')
section X
variable {d y pc q : Nat} {ls st ls' : List ni_a} {A : Nat → Nat → Int} {L : Nat → Nat} {P : (Nat → Nat → Int) → (Nat → Nat) → Prop}
theorem K_pre {ls0 st0 : List ni_a} {pc0 : Nat} {A0 : Nat → Nat → Int} {L0 : Nat → Nat} (hw : ∀ M0 ad rw0 cp0 M rw cp Q, ni_Sx St M0 ad rw0 cp0 M rw cp A0 L0 → (∀ M' rw' cp', ni_Sx St M0 ad rw0 cp0 M' rw' cp' A L → wp_G xs d y pc (ls.map (ni_dn ad rw')) (st.map (ni_dn ad rw')) M' Q) → wp_G xs d y pc0 (ls0.map (ni_dn ad rw)) (st0.map (ni_dn ad rw)) M Q) (k : nk_E xs St d y pc ls st A L P) : nk_E xs St d y pc0 ls0 st0 A0 L0 P := by
  obtain ⟨A', L', h1, h2⟩ := k
  exact ⟨A', L', h1, fun M0 ad rw0 cp0 M rw cp hx => hw M0 ad rw0 cp0 M rw cp _ hx fun M' rw' cp' hx' => h2 M0 ad rw0 cp0 M' rw' cp' hx'⟩
theorem nk_in {as : List ni_a} {A' : Nat → Nat → Int} {L' : Nat → Nat} (hen : ∀ ad, (ni_en (as.map (ni_dn ad ad))).length ≤ (ni_ms y).2.2.1) (hls : ∀ ad rw, ni_ent y (as.map (ni_dn ad ad)) = ls.map (ni_dn ad rw)) (h : nk_E xs St d y 0 ls [] A L (fun B K => ∀ M ad rw cp, ni_Rep St M ad rw cp B K → ni_Rep St M ad rw cp A' L')) : nk_D xs St (d + 1) y as A L A' L' := by
  obtain ⟨B, K, h1, h2⟩ := h
  refine fun M ad rw cp hR => wp_enter (hen ad) (hls ad rw) (wp_Gmono (h2 M ad rw cp M rw cp ⟨hR, ni_KpR⟩) ?_)
  rintro u M' ⟨hu, rw', cp', hR', hK⟩
  exact ⟨hu, rw', cp', h1 _ _ _ _ hR', hK⟩
theorem nk_Dup {d' : Nat} {as : List ni_a} {A' : Nat → Nat → Int} {L' : Nat → Nat} (h : nk_D xs St d y as A L A' L') (hd : d ≤ d') : nk_D xs St d' y as A L A' L' := fun M ad rw cp hR => wp_up (h M ad rw cp hR) hd
theorem K_P {g : List Value → Option (Nat × List Value)} {st' : List ni_a} (hp : ni_prog xs y pc = ni_sP g) (hg : ∀ ad rw, g (st.map (ni_dn ad rw)) = some (q, st'.map (ni_dn ad rw))) (k : nk_E xs St d y q ls st' A L P) : nk_E xs St d y pc ls st A L P :=
  K_pre (fun _ ad _ _ M rw cp _ h k => wp_P hp (hg ad rw) (k M rw cp h)) k
theorem K_push {c : Int32} {z : Int} (hp : ni_prog xs y pc = ni_sP (ni_gPush (.int c) q)) (hc : c = Int32.ofInt z) (k : nk_E xs St d y q ls (ni_aI z :: st) A L P) : nk_E xs St d y pc ls st A L P := K_P hp (fun _ _ => wp_push hc) k
theorem K_Go (hp : ni_prog xs y pc = ni_sP (ni_gGo q)) (k : nk_E xs St d y q ls st A L P) : nk_E xs St d y pc ls st A L P := K_P hp (fun _ _ => rfl) k
theorem K_Ic {f : Int32 → Int32 → Bool} {t e : Nat} {x z : Int} (b : Bool) (hp : ni_prog xs y pc = ni_sP (ni_gIc f t e)) (hf : f (Int32.ofInt x) (Int32.ofInt z) = b) (k : nk_E xs St d y (cond b t e) ls st A L P) : nk_E xs St d y pc ls (ni_aI z :: ni_aI x :: st) A L P :=
  K_pre (fun _ _ _ _ M rw cp _ h k => wp_Ic b hp hf (k M rw cp h)) k
theorem K_Ld {t i : Nat} {v : ni_a} (hp : ni_prog xs y pc = ni_sLd t i q) (hl : ls[i]? = some v) (ht : ∀ ad rw, ni_ty (ni_dn ad rw v) = t) (k : nk_E xs St d y q ls (v :: st) A L P) : nk_E xs St d y pc ls st A L P :=
  K_pre (fun _ ad _ _ M rw cp _ h k => wp_Ld hp (by rw [List.getElem?_map, hl]; rfl) (ht ad rw) (k M rw cp h)) k
theorem K_St {t i : Nat} {v : ni_a} (hp : ni_prog xs y pc = ni_sSt t i q) (ht : ∀ ad rw, ni_ty (ni_dn ad rw v) = t) (hs : ∀ ad rw, ni_st (ls.map (ni_dn ad rw)) i (ni_dn ad rw v) = ls'.map (ni_dn ad rw)) (k : nk_E xs St d y q ls' st A L P) : nk_E xs St d y pc ls (v :: st) A L P :=
  K_pre (fun _ ad _ _ M rw cp _ h k => wp_St hp (ht ad rw) (hs ad rw) (k M rw cp h)) k
theorem K_Inc {i : Nat} {c : Int32} {e z : Int} (hp : ni_prog xs y pc = ni_sInc i c q) (hl : ls[i]? = some (ni_aI e)) (hx : c = Int32.ofInt z) (hs : ∀ ad rw, ni_st (ls.map (ni_dn ad rw)) i (ni_z (e + z)) = ls'.map (ni_dn ad rw)) (k : nk_E xs St d y q ls' st A L P) : nk_E xs St d y pc ls st A L P :=
  K_pre (fun _ ad _ _ M rw cp _ h k => wp_Inc (x' := e + z) hp (by rw [List.getElem?_map, hl]; rfl) (zi_inc hx) (hs ad rw) (k M rw cp h)) k
theorem K_GetI {ci j s : Nat} {e : Int} (hp : ni_prog xs y pc = ni_sGet ci j q) (hs : ni_us s = true) (hk : ni_kd s = ci) (ho : ni_ob ci = true) (hj : Nat.blt j (ni_lk ci) = true) (hv : ∀ ad rw, ni_vk ci ad rw A s j = ni_z e) (k : nk_E xs St d y q ls (ni_aI e :: st) A L P) : nk_E xs St d y pc ls (ni_aP s :: st) A L P :=
  K_pre (fun _ ad _ _ M rw cp _ h k => ws_Get hp h hs hk ho hj (hv ad rw) (k M rw cp h)) k
theorem K_Get {ci j s : Nat} {v : ni_a} (hp : ni_prog xs y pc = ni_sGet ci j q) (hs : ni_us s = true) (hk : ni_kd s = ci) (ho : ni_ob ci = true) (hj : Nat.blt j (ni_lk ci) = true) (hv : ∀ ad rw, ni_vk ci ad rw A s j = ni_dn ad rw v) (k : nk_E xs St d y q ls (v :: st) A L P) : nk_E xs St d y pc ls (ni_aP s :: st) A L P :=
  K_pre (fun _ ad _ _ M rw cp _ h k => ws_Get hp h hs hk ho hj (hv ad rw) (k M rw cp h)) k
theorem K_Put {ci j s : Nat} {ty : FieldType} {x : Int} (hp : ni_prog xs y pc = ni_sPut ci j ty q) (hs : ni_us s = true) (hk : ni_kd s = ci) (ho : ni_ob ci = true) (hj : Nat.blt j (ni_lk ci) = true) (hv : ∀ (ad rw : Nat → Nat) (A : Nat → Nat → Int), ni_vk ci ad rw A s j = ni_z (A s j)) (hf : ni_fit ty (ni_z x) = true) (hc : ci = 2 → j = 2 → x ≤ 0) (k : nk_E xs St d y q ls st (ni_u2 A s j x) L P) : nk_E xs St d y pc ls (ni_aI x :: ni_aP s :: st) A L P :=
  K_pre (fun _ ad _ _ M rw cp _ h k => ws_Put hp h hs hk ho hj (hv ad rw) hf (fun z1 z2 => Int.le_trans (hc z1 z2) (Int.natCast_nonneg _)) fun M' h' => k M' rw cp h') k
/-- a field of what is copied -/
theorem K_GetS {ci j b : Nat} {vs : List Value} {v : ni_a} (hp : ni_prog xs y pc = ni_sGet ci j q) (hb : St b = some (ci, vs)) (hv : ∀ ad rw, vs[j]? = some (ni_dn ad rw v)) (k : nk_E xs St d y q ls (v :: st) A L P) : nk_E xs St d y pc ls (ni_aL b :: st) A L P :=
  K_pre (fun _ ad _ _ M rw cp _ h k => wp_Get hp (h.1.2.2.2.2.1 b _ hb).1 (hv ad rw) (k M rw cp h)) k
theorem K_QldS {b j t : Nat} {i : Int} {C : String} {vs : List Value} {a : Nat} (hp : ni_prog xs y pc = ni_sQld q) (hb : St b = some (t, vs)) (ht : 100 ≤ t ∧ ni_aks[t - 100]? = some (.object C)) (hi : i = j) (hn : j < 1000000) (hv : vs[j]? = some (.ref a)) (k : nk_E xs St d y q ls (ni_aL a :: st) A L P) : nk_E xs St d y pc ls (ni_aI i :: ni_aL b :: st) A L P := by
  subst hi
  exact K_pre (fun _ ad _ _ M rw cp _ h k => wp_Qld hp (h.1.2.2.2.2.1 b _ hb).1 ht (by omega) (by rw [Int.toNat_natCast]; exact hv) rfl (k M rw cp h)) k
theorem K_Qld {s n t j : Nat} {i : Int} {C : String} {v : ni_a} (hp : ni_prog xs y pc = ni_sQld q) (hs : ni_us s = true) (hk : ni_kd s = t) (hl : ni_ln s = n) (ht : 100 ≤ t ∧ ni_aks[t - 100]? = some (.object C)) (hi : i = j) (hj : j < n) (hn : n ≤ 1000) (h9 : (ni_ct s).1 = 999) (hv : ∀ ad rw, ni_vk t ad rw A s j = ni_dn ad rw v) (hy : ∀ ad rw, ni_ty (ni_dn ad rw v) = 3) (k : nk_E xs St d y q ls (v :: st) A L P) : nk_E xs St d y pc ls (ni_aI i :: ni_aP s :: st) A L P :=
  K_pre (fun _ ad _ _ M rw cp _ h k => ws_Qld hp h hs hk hl ht hi hj hn (ni_LR h hs h9 (by omega)) (hv ad rw) (hy ad rw) (k M rw cp h)) k
/-- a letter is stored -/
theorem K_Qst {s j b n : Nat} {i : Int} {c : ni_C} {L' : Nat → Nat} (hp : ni_prog xs y pc = ni_sQst q) (hs : ni_us s = true) (hk : ni_kd s = 104) (hl : ni_ln s = n) (hn0 : 0 < n) (hi : i = j) (hj : j < n) (hn : n ≤ 1000) (hb : St b = some c) (hc : c.1 = 1) (hL : L' = L ∨ (L' = ni_u1 L s (j + 1) ∧ j = L s)) (k : nk_E xs St d y q ls st (ni_u2 A s j (b : Int)) L' P) : nk_E xs St d y pc ls (ni_aL b :: ni_aI i :: ni_aP s :: st) A L P :=
  K_pre (fun _ ad _ _ M rw cp _ h k => by
    obtain ⟨c1, c2⟩ := ni_cpL h.1.2.2.1 hs hl hn0
    exact ws_Qst hp h hs hk (show ni_pl ad rw s = ad s by unfold ni_pl; rw [c2, cond_false]) hi (by omega) (by omega) hb hc hL fun M' h' => k M' rw cp h') k
theorem K_Rv {rt : Option FieldType} (hp : ni_prog xs y pc = ni_sR rt) (hk : ni_rok rt none = true) (h : P A L) : nk_E xs St d y pc ls [] A L P :=
  ⟨A, L, h, fun _ ad _ _ M rw cp hx => wp_Rv hp hk ⟨rfl, rw, cp, hx.1, hx.2⟩⟩
theorem K_V {y' nn ci s : Nat} {r as : List ni_a} {A2 : Nat → Nat → Int} {L2 : Nat → Nat} (hp : ni_prog xs y pc = ni_sV y' nn ci q) (hd : st.drop nn = ni_aP s :: r) (ht : (st.take nn).reverse = as) (hs : ni_us s = true) (hk : ni_kd s = ci) (ho : ni_ob ci = true) (hc : r.length ≤ 4) (hl : ∀ ad rw rw' : Nat → Nat, (ls ++ r).map (ni_dn ad rw) = (ls ++ r).map (ni_dn ad rw')) (hD : nk_D xs St d y' (ni_aP s :: as) A L A2 L2) (has : ∀ ad rw, as.map (ni_dn ad ad) = as.map (ni_dn ad rw)) (k : nk_E xs St d y q ls r A2 L2 P) : nk_E xs St d y pc ls st A L P := by
  refine K_pre (fun M0 ad _ _ M rw cp _ h k => ?_) k
  obtain ⟨o1, o2, o3⟩ := ni_objS hs hk ho
  obtain ⟨vs, g1, g2, g3⟩ := h.1.2.1 s hs
  have hpl : ni_pl ad rw s = ad s := by
    unfold ni_pl
    rw [o2, cond_false]
  rw [hpl, hk] at g1
  have hr := hD M ad rw cp h.1
  rw [List.map_cons, has ad rw] at hr
  refine wp_V (r := r.map (ni_dn ad rw)) (as := as.map (ni_dn ad rw)) hp ?_ ?_ g1 (ni_csZ ad rw r hc) hr ?_
  · rw [← List.map_drop, hd]
    rfl
  · rw [← List.map_take, ← List.map_reverse, ht]
  · rintro u M' ⟨hu, rw', cp', hR, hK⟩
    rw [hu]
    have g := k M' rw' cp' ⟨hR, ni_KpT h.2 hK⟩
    have e := hl ad rw rw'
    rw [List.map_append, List.map_append] at e
    obtain ⟨e1, e2⟩ := List.append_inj e (by rw [List.length_map, List.length_map])
    rw [e1, e2]
    exact g
/-- the row as it is behind a copy -/
def nk_cp (A : Nat → Nat → Int) (s k : Nat) (F : Nat → Int) : Nat → Nat → Int := fun s' j => if s' = s ∧ j < k then F j else A s' j
theorem K_Copy {s n k a : Nat} {c : Int} {vs : List Value} {F : Nat → Int} (hp : ni_prog xs y pc = ni_sCopy q) (hs : ni_us s = true) (hk : ni_kd s = 100) (hl : ni_ln s = n) (hn : 0 < n ∧ n ≤ 1000) (hc : c = k) (hkn : k ≤ n) (ha : St a = some (100, vs)) (hv : k ≤ vs.length ∧ ∀ j, j < k → vs[j]? = some (ni_z (F j))) (hst : st.length ≤ 4) (kk : nk_E xs St d y q ls st (nk_cp A s k F) (ni_u1 L s (max (L s) k)) P) : nk_E xs St d y pc ls (ni_aI c :: ni_aI 0 :: ni_aP s :: ni_aI 0 :: ni_aL a :: st) A L P := by
  subst hc
  refine K_pre (fun M0 ad rw0 cp0 M rw cp Q h k9 => ?_) kk
  obtain ⟨c1, c2⟩ := ni_cpL h.1.2.2.1 hs hl hn.1
  have hpl : ni_pl ad rw s = ad s := by
    unfold ni_pl
    rw [c2, cond_false]
  obtain ⟨ws, g1, g2, g3⟩ := h.1.2.1 s hs
  have g1' := g1
  rw [hpl, hk] at g1
  have hsrc := h.1.2.2.2.2.1 a _ ha
  have hz := ni_clZ (x := (k : Int)) (by omega)
  have hz0 := ni_clZ (x := (0 : Int)) (by omega)
  have hcpy : ni_cpy vs ws 0 0 k = vs.take k ++ ws.drop k := by
    unfold ni_cpy
    simp
  have hlen : (vs.take k ++ ws.drop k).length = ws.length := by
    rw [List.length_append, List.length_take, List.length_drop]
    omega
  have hw := wp_wrS (c := (100, vs.take k ++ ws.drop k)) g1
  have hw' := hw
  obtain ⟨m1, m2, m3, m4⟩ := hw
  obtain ⟨r1, r2, r3, r4, r5, r6, r7, r8⟩ := h.1
  have hSx : ni_Sx St M0 ad rw0 cp0 (M.1.set (ad s) (100, vs.take k ++ ws.drop k), M.2) rw cp (nk_cp A s k F) (ni_u1 L s (max (L s) k)) := by
    refine ⟨⟨r1, fun t ht => ?_, r3, fun p hp => ?_, fun b cb hb => ?_, by rw [m4]; exact r6, by rw [m3]; exact r7, fun t ht ht9 => ?_⟩, ni_kpW (c0 := (ni_kd s, ws)) h.2 hs g1' (by rw [hpl]; exact hw') hlen⟩
    · by_cases e : t = s
      · subst e
        rw [hpl, hk]
        refine ⟨_, m1, by rw [hlen]; exact g2, fun j hj hjL => ?_⟩
        show _ = some (ni_z (nk_cp A t k F t j))
        unfold nk_cp
        by_cases hjk : j < k
        · rw [if_pos ⟨rfl, hjk⟩, List.getElem?_append_left (by rw [List.length_take]; omega), List.getElem?_take, if_pos hjk]
          exact hv.2 j hjk
        · rw [if_neg (by omega), List.getElem?_append_right (by rw [List.length_take]; omega), List.length_take, List.getElem?_drop, show k + (j - min k vs.length) = j by omega]
          have := g3 j hj (by unfold ni_u1 at hjL; rw [if_pos rfl] at hjL; omega)
          rw [hk] at this
          exact this
      · obtain ⟨us, q1, q2, q3⟩ := r2 t ht
        refine ⟨us, ?_, q2, fun j hj hjL => ?_⟩
        · rw [m2 _ (fun z => e (r1 t s ht hs (by rw [hpl]; exact z)))]
          exact q1
        · have e2 : ni_vk (ni_kd t) ad rw (nk_cp A s k F) t j = ni_vk (ni_kd t) ad rw A t j := by
            unfold ni_vk nk_cp
            rw [if_neg (fun z => e z.1)]
          rw [e2]
          exact q3 j hj (by unfold ni_u1 at hjL; rw [if_neg e] at hjL; exact hjL)
    · have e : p ≠ s := fun z => by
        have := ni_lns2 hp
        rw [z, hk] at this
        cases this
      unfold nk_cp
      rw [if_neg (fun z => e z.1)]
      exact r4 p hp
    · obtain ⟨q1, q2⟩ := r5 b cb hb
      refine ⟨?_, q2⟩
      rw [m2 _ (fun z => q2 s hs (by rw [hpl]; exact z.symm))]
      exact q1
    · unfold ni_u1
      by_cases e : t = s
      · rw [if_pos e]
        have := r8 t ht ht9
        rw [e] at this
        omega
      · rw [if_neg e]
        exact r8 t ht ht9
  obtain ⟨u, M', ⟨f, h1⟩, h2⟩ := k9 _ rw cp hSx
  refine ⟨u, M', ⟨f + 1, ?_⟩, h2⟩
  rw [ni_exS, hp]
  show ni_sCopy q _ _ _ (Value.int (Int32.ofInt (k : Int)) :: Value.int (Int32.ofInt 0) :: Value.ref (ad s) :: Value.int (Int32.ofInt 0) :: Value.ref a :: st.map (ni_dn ad rw)) M = _
  unfold ni_sCopy
  simp only [hsrc.1, g1]
  rw [if_pos ⟨by first | decide | trivial, by first | rfl | trivial, by first | rfl | trivial, hz0.1, hz0.1, hz.1, by rw [hz0.2, hz.2, Int.toNat_natCast]; show 0 + k ≤ _; omega, by rw [hz0.2, hz.2, Int.toNat_natCast]; show 0 + k ≤ _; omega, ni_csZ ad rw st hst⟩]
  rw [hz0.2, hz.2, Int.toNat_natCast]
  show ni_ex _ f d y q _ _ (M.1.set (ad s) (100, ni_cpy vs ws 0 0 k), M.2) = _
  rw [hcpy]
  exact h1
end X
end NKC
