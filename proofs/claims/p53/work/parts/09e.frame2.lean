section NF2
theorem ni_nh1 {c : ni_C} (h : 100 ≤ c.1) : c ≠ (99, []) := by
  rintro rfl
  exact absurd h (by decide)
theorem ni_nh2 {c : ni_C} {k : Nat} {v : Value} (h : c.2[k]? = some v) : c ≠ (99, []) := by
  rintro rfl
  cases h
theorem ni_nh3 {c : ni_C} {k : Nat} (h : k < c.2.length) : c ≠ (99, []) := by
  rintro rfl
  exact absurd h (Nat.not_lt_zero k)
theorem ni_vw99 : vwCl[99]? = none := by decide +kernel
theorem ni_nh5 {c : ni_C} {C : String} (h : (vwCl[c.1]?).map (fun z => z.1) = some C) : c ≠ (99, []) := by
  rintro rfl
  rw [show ((99, []) : ni_C).1 = 99 from rfl, ni_vw99] at h
  cases h
theorem ni_nh6 {c : ni_C} {ci : Nat} (h : c.1 = ci) (hc : ci < 99) : c ≠ (99, []) := by
  rintro rfl
  exact absurd hc (by rw [← h]; decide)
theorem ni_shX {E : Nat → Nat} {k : Nat} : ni_sh E (.ref (ni_big + k)) = .ref (ni_big + k) := by
  have h : ¬ ni_big + k < ni_big := by omega
  simp only [ni_sh, if_neg h]
theorem ni_shX0 {E : Nat → Nat} : ni_sh E (.ref ni_big) = .ref ni_big := by
  have h : ¬ ni_big < ni_big := by omega
  simp only [ni_sh, if_neg h]
theorem ni_mG {ls : List Value} {E : Nat → Nat} {i : Nat} {v : Value} (h : ls[i]? = some v) : (ls.map (ni_sh E))[i]? = some (ni_sh E v) := by
  rw [List.getElem?_map, h]
  rfl
theorem ni_frLd {t i q : Nat} : ni_Fr (ni_sLd t i q) := by
  intro E Z n0 h0 hE call call' next next' o hb hc hn hm ls st M H hM hs
  unfold ni_sLd at hs ⊢
  cases h : ls[i]? with
  | none => rw [h] at hs; cases hs
  | some v =>
    rw [h] at hs
    dsimp only at hs
    split at hs
    next hv =>
      rw [ni_mG h]
      dsimp only
      rw [if_pos (by rw [ni_shT]; exact hv)]
      exact hn _ _ _ _ _ hM hs
    next => cases hs
theorem ni_frSt {t i q : Nat} : ni_Fr (ni_sSt t i q) := by
  intro E Z n0 h0 hE call call' next next' o hb hc hn hm ls st M H hM hs
  unfold ni_sSt at hs ⊢
  split at hs
  · split at hs
    next hv =>
      simp only [List.map_cons]
      rw [if_pos (by rw [ni_shT]; exact hv), ni_shW]
      exact hn _ _ _ _ _ hM hs
    next => cases hs
  · cases hs
theorem ni_frInc {i q : Nat} {c : Int32} : ni_Fr (ni_sInc i c q) := by
  intro E Z n0 h0 hE call call' next next' o hb hc hn hm ls st M H hM hs
  unfold ni_sInc at hs ⊢
  split at hs
  next x hx =>
    rw [ni_mG hx]
    simp only [ni_sh]
    have := hn _ _ _ _ _ hM hs
    rw [← ni_shW] at this
    exact this
  next => cases hs
theorem ni_frGet {ci k q : Nat} : ni_Fr (ni_sGet ci k q) := by
  intro E Z n0 h0 hE call call' next next' o hb hc hn hm ls st M H hM hs
  unfold ni_sGet at hs ⊢
  split at hs
  next a r =>
    split at hs
    next c0 ha =>
      split at hs
      next ht =>
        split at hs
        next v hv =>
          obtain ⟨hab, hH⟩ := ni_EmG hM ha (ni_nh2 hv)
          simp only [List.map_cons, ni_shR hab, hH]
          rw [if_pos (show (ni_sc E c0).1 = ci from ht)]
          rw [show (ni_sc E c0).2[k]? = some (ni_sh E v) from ni_mG hv]
          exact hn _ _ _ _ _ hM hs
        next => cases hs
      next => cases hs
    next => cases hs
  next => cases hs
theorem ni_frPut {ci k q : Nat} {ty : FieldType} : ni_Fr (ni_sPut ci k ty q) := by
  intro E Z n0 h0 hE call call' next next' o hb hc hn hm ls st M H hM hs
  unfold ni_sPut at hs ⊢
  split at hs
  next v a r =>
    split at hs
    next c0 ha =>
      split at hs
      next hq =>
        obtain ⟨hab, hH⟩ := ni_EmG hM ha (ni_nh3 hq.2.1)
        simp only [List.map_cons, ni_shR hab, hH]
        rw [if_pos ⟨hq.1, by show k < (c0.2.map (ni_sh E)).length; rw [List.length_map]; exact hq.2.1, by rw [ni_shF]; exact hq.2.2⟩]
        obtain ⟨k1, k2⟩ := ni_EmS hE hM ha (ni_nh3 hq.2.1) (ci, c0.2.set k v)
        have e : (ci, (ni_sc E c0).2.set k (ni_sh E v)) = ni_sc E (ci, c0.2.set k v) := by
          simp only [ni_sc, List.map_set]
        rw [e]
        obtain ⟨o', h1, h2⟩ := hn _ _ _ _ _ k1 hs
        exact ⟨o', h1, ni_FoT k2 h2⟩
      next => cases hs
    next => cases hs
  next => cases hs
theorem ni_frLen {q : Nat} : ni_Fr (ni_sLen q) := by
  intro E Z n0 h0 hE call call' next next' o hb hc hn hm ls st M H hM hs
  unfold ni_sLen at hs ⊢
  split at hs
  next a r =>
    split at hs
    next c0 ha =>
      split at hs
      next hq =>
        obtain ⟨hab, hH⟩ := ni_EmG hM ha (ni_nh1 hq.1)
        simp only [List.map_cons, ni_shR hab, hH]
        rw [if_pos (show 100 ≤ (ni_sc E c0).1 ∧ (ni_sc E c0).1 - 100 < ni_aks.length from hq), show (ni_sc E c0).2.length = c0.2.length from List.length_map ..]
        exact hn _ _ _ _ _ hM hs
      next => cases hs
    next => cases hs
  next => cases hs
theorem ni_frAld {ty : FieldType} {tv q : Nat} : ni_Fr (ni_sAld ty tv q) := by
  intro E Z n0 h0 hE call call' next next' o hb hc hn hm ls st M H hM hs
  unfold ni_sAld at hs ⊢
  split at hs
  next i a r =>
    split at hs
    next c0 ha =>
      split at hs
      next hq =>
        split at hs
        next v hv =>
          split at hs
          next hty =>
            obtain ⟨hab, hH⟩ := ni_EmG hM ha (ni_nh1 hq.1)
            simp only [List.map_cons, ni_shR hab]
            simp only [ni_sh, hH]
            rw [if_pos (show 100 ≤ (ni_sc E c0).1 ∧ ni_aks[(ni_sc E c0).1 - 100]? = some ty ∧ ¬ i < 0 from hq), show (ni_sc E c0).2[i.toNatClampNeg]? = some (ni_sh E v) from ni_mG hv]
            dsimp only
            rw [if_pos (by rw [ni_shT]; exact hty)]
            exact hn _ _ _ _ _ hM hs
          next => cases hs
        next => cases hs
      next => cases hs
    next => cases hs
  next => cases hs
theorem ni_frQld {q : Nat} : ni_Fr (ni_sQld q) := by
  intro E Z n0 h0 hE call call' next next' o hb hc hn hm ls st M H hM hs
  unfold ni_sQld at hs ⊢
  split at hs
  next i a r =>
    split at hs
    next c0 ha =>
      split at hs
      next hq =>
        split at hs
        next C v hC hv =>
          split at hs
          next hty =>
            obtain ⟨hab, hH⟩ := ni_EmG hM ha (ni_nh1 hq.1)
            simp only [List.map_cons, ni_shR hab]
            simp only [ni_sh, hH]
            rw [if_pos (show 100 ≤ (ni_sc E c0).1 ∧ ¬ i < 0 from hq), show (ni_sc E c0).2[i.toNatClampNeg]? = some (ni_sh E v) from ni_mG hv, show ni_aks[(ni_sc E c0).1 - 100]? = some (.object C) from hC]
            dsimp only
            rw [if_pos (by rw [ni_shT]; exact hty)]
            exact hn _ _ _ _ _ hM hs
          next => cases hs
        next => cases hs
      next => cases hs
    next => cases hs
  next => cases hs
theorem ni_frQlA {q : Nat} : ni_Fr (ni_sQlA q) := by
  intro E Z n0 h0 hE call call' next next' o hb hc hn hm ls st M H hM hs
  unfold ni_sQlA at hs ⊢
  split at hs
  next i a r =>
    split at hs
    next c0 ha =>
      split at hs
      next hq =>
        split at hs
        next C v hC hv =>
          split at hs
          next hty =>
            obtain ⟨hab, hH⟩ := ni_EmG hM ha (ni_nh1 hq.1)
            simp only [List.map_cons, ni_shR hab]
            simp only [ni_sh, hH]
            rw [if_pos (show 100 ≤ (ni_sc E c0).1 ∧ ¬ i < 0 from hq), show (ni_sc E c0).2[i.toNatClampNeg]? = some (ni_sh E v) from ni_mG hv, show ni_aks[(ni_sc E c0).1 - 100]? = some (.array C) from hC]
            dsimp only
            rw [if_pos (by rw [ni_shT]; exact hty)]
            exact hn _ _ _ _ _ hM hs
          next => cases hs
        next => cases hs
      next => cases hs
    next => cases hs
  next => cases hs
theorem ni_frAst {ty : FieldType} {tv q : Nat} : ni_Fr (ni_sAst ty tv q) := by
  intro E Z n0 h0 hE call call' next next' o hb hc hn hm ls st M H hM hs
  unfold ni_sAst at hs ⊢
  split at hs
  next v i a r =>
    split at hs
    next c0 ha =>
      split at hs
      next hq =>
        obtain ⟨q1, q2, q3, q4, q5, q6⟩ := hq
        obtain ⟨hab, hH⟩ := ni_EmG hM ha (ni_nh1 q1)
        simp only [List.map_cons, ni_shR hab]
        rw [show ni_sh E (.int i) = .int i from rfl]
        simp only [hH]
        rw [if_pos ⟨show 100 ≤ (ni_sc E c0).1 from q1, show ni_aks[(ni_sc E c0).1 - 100]? = some ty from q2, q3, by show i.toNatClampNeg < (c0.2.map (ni_sh E)).length; rw [List.length_map]; exact q4, by rw [ni_shT]; exact q5, by rw [ni_shF]; exact q6⟩]
        obtain ⟨k1, k2⟩ := ni_EmS hE hM ha (ni_nh1 q1) (c0.1, c0.2.set i.toNatClampNeg v)
        have e : ((ni_sc E c0).1, (ni_sc E c0).2.set i.toNatClampNeg (ni_sh E v)) = ni_sc E (c0.1, c0.2.set i.toNatClampNeg v) := by
          simp only [ni_sc, List.map_set]
        rw [e]
        obtain ⟨o', h1, h2⟩ := hn _ _ _ _ _ k1 hs
        exact ⟨o', h1, ni_FoT k2 h2⟩
      next => cases hs
    next => cases hs
  next => cases hs
theorem ni_frQst {q : Nat} : ni_Fr (ni_sQst q) := by
  intro E Z n0 h0 hE call call' next next' o hb hc hn hm ls st M H hM hs
  unfold ni_sQst at hs ⊢
  split at hs
  next v i a r =>
    split at hs
    next c0 ha =>
      split at hs
      next hq =>
        obtain ⟨q1, q3, q4⟩ := hq
        obtain ⟨hab, hH⟩ := ni_EmG hM ha (ni_nh1 q1)
        have e : ∀ v : Value, ((ni_sc E c0).1, (ni_sc E c0).2.set i.toNatClampNeg (ni_sh E v)) = ni_sc E (c0.1, c0.2.set i.toNatClampNeg v) := by
          intro v
          simp only [ni_sc, List.map_set]
        have q4' : i.toNatClampNeg < (ni_sc E c0).2.length := by
          show i.toNatClampNeg < (c0.2.map (ni_sh E)).length
          rw [List.length_map]
          exact q4
        split at hs
        next C hC =>
          obtain ⟨k1, k2⟩ := ni_EmS hE hM ha (ni_nh1 q1) (c0.1, c0.2.set i.toNatClampNeg .null)
          obtain ⟨o', h1, h2⟩ := hn _ _ _ _ _ k1 hs
          refine ⟨o', ?_, ni_FoT k2 h2⟩
          simp only [List.map_cons, ni_shR hab]
          rw [show ni_sh E (.int i) = .int i from rfl, show ni_sh E .null = .null from rfl]
          simp only [hH]
          rw [if_pos ⟨show 100 ≤ (ni_sc E c0).1 from q1, q3, q4'⟩, show ni_aks[(ni_sc E c0).1 - 100]? = some (.object C) from hC]
          have e1 := e .null
          rw [show ni_sh E .null = .null from rfl] at e1
          dsimp only
          rw [e1]
          exact h1
        next C b hC =>
          split at hs
          next o0 hb0 =>
            split at hs
            next hcl =>
              obtain ⟨hbb, hHb⟩ := ni_EmG hM hb0 (ni_nh5 hcl.2)
              obtain ⟨k1, k2⟩ := ni_EmS hE hM ha (ni_nh1 q1) (c0.1, c0.2.set i.toNatClampNeg (.ref b))
              obtain ⟨o', h1, h2⟩ := hn _ _ _ _ _ k1 hs
              refine ⟨o', ?_, ni_FoT k2 h2⟩
              have e1 := e (.ref b)
              rw [ni_shR hbb] at e1
              simp only [List.map_cons, ni_shR hab, ni_shR hbb]
              rw [show ni_sh E (.int i) = .int i from rfl]
              simp only [hH]
              rw [if_pos ⟨show 100 ≤ (ni_sc E c0).1 from q1, q3, q4'⟩, show ni_aks[(ni_sc E c0).1 - 100]? = some (.object C) from hC]
              dsimp only
              rw [hHb]
              dsimp only
              rw [if_pos (show (ni_sc E o0).1 < 100 ∧ (vwCl[(ni_sc E o0).1]?).map (fun z => z.1) = some C from hcl), e1]
              exact h1
            next => cases hs
          next => cases hs
        next => cases hs
      next => cases hs
    next => cases hs
  next => cases hs
theorem ni_frQsO {q : Nat} : ni_Fr (ni_sQsO q) := by
  intro E Z n0 h0 hE call call' next next' o hb hc hn hm ls st M H hM hs
  unfold ni_sQsO at hs ⊢
  split at hs
  next b i a r =>
    split at hs
    next c0 o0 ha hb0 =>
      split at hs
      next hq =>
        obtain ⟨q1, q3, q4, q5⟩ := hq
        split at hs
        next C z hC hz =>
          split at hs
          next hca =>
            obtain ⟨hab, hH⟩ := ni_EmG hM ha (ni_nh1 q1)
            obtain ⟨hbb, hHb⟩ := ni_EmG hM hb0 (ni_nh5 (C := z.1) (by rw [hz]; rfl))
            obtain ⟨k1, k2⟩ := ni_EmS hE hM ha (ni_nh1 q1) (c0.1, c0.2.set i.toNatClampNeg (.ref b))
            obtain ⟨o', h1, h2⟩ := hn _ _ _ _ _ k1 hs
            refine ⟨o', ?_, ni_FoT k2 h2⟩
            have e1 : ((ni_sc E c0).1, (ni_sc E c0).2.set i.toNatClampNeg (.ref (E b))) = ni_sc E (c0.1, c0.2.set i.toNatClampNeg (.ref b)) := by
              simp only [ni_sc, List.map_set, ni_shR hbb]
            simp only [List.map_cons, ni_shR hab, ni_shR hbb]
            rw [show ni_sh E (.int i) = .int i from rfl]
            simp only [hH, hHb]
            rw [if_pos ⟨show 100 ≤ (ni_sc E c0).1 from q1, q3, by show i.toNatClampNeg < (c0.2.map (ni_sh E)).length; rw [List.length_map]; exact q4, show (ni_sc E o0).1 < 100 from q5⟩, show ni_aks[(ni_sc E c0).1 - 100]? = some (.object C) from hC, show vwCl[(ni_sc E o0).1]? = some z from hz]
            dsimp only
            rw [if_pos hca, e1]
            exact h1
          next => cases hs
        next => cases hs
      next => cases hs
    next => cases hs
  next => cases hs
theorem ni_frQsA {q : Nat} : ni_Fr (ni_sQsA q) := by
  intro E Z n0 h0 hE call call' next next' o hb hc hn hm ls st M H hM hs
  unfold ni_sQsA at hs ⊢
  split at hs
  next b i a r =>
    split at hs
    next c0 o0 ha hb0 =>
      split at hs
      next hq =>
        obtain ⟨q1, q2, q5, q3, q4⟩ := hq
        split at hs
        next C hC =>
          obtain ⟨hab, hH⟩ := ni_EmG hM ha (ni_nh1 q1)
          obtain ⟨hbb, hHb⟩ := ni_EmG hM hb0 (ni_nh1 q2)
          obtain ⟨k1, k2⟩ := ni_EmS hE hM ha (ni_nh1 q1) (c0.1, c0.2.set i.toNatClampNeg (.ref b))
          obtain ⟨o', h1, h2⟩ := hn _ _ _ _ _ k1 hs
          refine ⟨o', ?_, ni_FoT k2 h2⟩
          have e1 : ((ni_sc E c0).1, (ni_sc E c0).2.set i.toNatClampNeg (.ref (E b))) = ni_sc E (c0.1, c0.2.set i.toNatClampNeg (.ref b)) := by
            simp only [ni_sc, List.map_set, ni_shR hbb]
          simp only [List.map_cons, ni_shR hab, ni_shR hbb]
          rw [show ni_sh E (.int i) = .int i from rfl]
          simp only [hH, hHb]
          rw [if_pos ⟨show 100 ≤ (ni_sc E c0).1 from q1, show 100 ≤ (ni_sc E o0).1 from q2, q5, q3, by show i.toNatClampNeg < (c0.2.map (ni_sh E)).length; rw [List.length_map]; exact q4⟩, show ni_aks[(ni_sc E c0).1 - 100]? = some (.array C) from hC]
          dsimp only
          rw [e1]
          exact h1
        next => cases hs
      next => cases hs
    next => cases hs
  next => cases hs
/-- a cell more -/
theorem ni_frMk {E : Nat → Nat} {Z : Nat → Prop} {n0 h0 : Nat} (hE : ni_E0 E Z n0 h0) {next next' : ni_K} {o : ni_O} (hb : h0 + ni_zc o.2 ≤ ni_big) (hn : ∀ (q : Nat) (ls st : List Value) (M H : ni_H), ni_Em E Z n0 h0 M H → next q ls st M = some o → ∃ o', next' q (ls.map (ni_sh E)) (st.map (ni_sh E)) H = some o' ∧ ni_Fo E Z n0 h0 H o o') (hm : ∀ (q : Nat) (ls st : List Value) (M : ni_H), next q ls st M = some o → ni_le M o.2)
    {q : Nat} {ls r : List Value} {M H : ni_H} {c : ni_C} (hM : ni_Em E Z n0 h0 M H) (h0' : M.2 = 0) (hl : M.1.length < ni_big) (hs : next q ls (.ref M.1.length :: r) (M.1 ++ [c], M.2) = some o) :
    H.2 = 0 ∧ H.1.length < ni_big ∧ ∃ o', next' q (ls.map (ni_sh E)) (.ref H.1.length :: r.map (ni_sh E)) (H.1 ++ [ni_sc E c], H.2) = some o' ∧ ni_Fo E Z n0 h0 H o o' := by
  have h1 := (hm _ _ _ _ hs).1
  have h2 := hM.2.2.2.1
  have h3 := hM.2.2.1
  simp only [ni_zc, List.length_append, List.length_singleton] at h1 hb
  obtain ⟨e, k1, k2⟩ := ni_EmA hE hM hl c
  obtain ⟨o', g1, g2⟩ := hn _ _ _ _ _ k1 hs
  rw [List.map_cons, ni_shR hl, e] at g1
  exact ⟨by rw [← hM.2.1]; exact h0', by omega, o', g1, ni_FoT k2 g2⟩
theorem ni_frNewa {k q : Nat} {ty : FieldType} : ni_Fr (ni_sNewa k ty q) := by
  intro E Z n0 h0 hE call call' next next' o hb hc hn hm ls st M H hM hs
  unfold ni_sNewa at hs ⊢
  split at hs
  next n r =>
    split at hs
    next hq =>
      obtain ⟨q1, q2, q3, q4⟩ := hq
      obtain ⟨g1, g2, o', g3, g4⟩ := ni_frMk hE hb hn hm hM q3 q4 hs
      refine ⟨o', ?_, g4⟩
      simp only [List.map_cons]
      rw [show ni_sh E (.int n) = .int n from rfl]
      dsimp only
      rw [if_pos ⟨q1, q2, g1, g2⟩]
      have e : ni_sc E (100 + k, List.replicate n.toNatClampNeg (ni_df ty)) = (100 + k, List.replicate n.toNatClampNeg (ni_df ty)) := by
        simp only [ni_sc, List.map_replicate]
        congr 2
        cases ty <;> rfl
      rw [e] at g3
      exact g3
    next => cases hs
  next => cases hs
theorem ni_frNew {ci q : Nat} {fs : List Value} (hf : ∀ E, fs.map (ni_sh E) = fs) : ni_Fr (ni_sNew ci fs q) := by
  intro E Z n0 h0 hE call call' next next' o hb hc hn hm ls st M H hM hs
  unfold ni_sNew at hs ⊢
  split at hs
  next hq =>
    obtain ⟨q3, q4⟩ := hq
    obtain ⟨g1, g2, o', g3, g4⟩ := ni_frMk hE hb hn hm hM q3 q4 hs
    refine ⟨o', ?_, g4⟩
    rw [if_pos ⟨g1, g2⟩]
    rw [show ni_sc E (ci, fs) = (ci, fs) by simp only [ni_sc, hf]] at g3
    exact g3
  next => cases hs
theorem ni_frANew {k q : Nat} : ni_Fr (ni_sANew k q) := by
  intro E Z n0 h0 hE call call' next next' o hb hc hn hm ls st M H hM hs
  unfold ni_sANew at hs ⊢
  split at hs
  next n r =>
    split at hs
    next hq =>
      obtain ⟨q1, q2, q3, q4⟩ := hq
      obtain ⟨g1, g2, o', g3, g4⟩ := ni_frMk hE hb hn hm hM q3 q4 hs
      refine ⟨o', ?_, g4⟩
      simp only [List.map_cons]
      rw [show ni_sh E (.int n) = .int n from rfl]
      dsimp only
      rw [if_pos ⟨q1, q2, g1, g2⟩]
      have e : ni_sc E (100 + k, List.replicate n.toNatClampNeg .null) = (100 + k, List.replicate n.toNatClampNeg .null) := by
        simp only [ni_sc, List.map_replicate]
        rfl
      rw [e] at g3
      exact g3
    next => cases hs
  next => cases hs
theorem ni_frCopy {q : Nat} : ni_Fr (ni_sCopy q) := by
  intro E Z n0 h0 hE call call' next next' o hb hc hn hm ls st M H hM hs
  unfold ni_sCopy at hs ⊢
  split at hs
  next n dp b sp a r =>
    split at hs
    next ca cb ha hb0 =>
      split at hs
      next hq =>
        obtain ⟨q1, q2, q3, q4, q5, q6, q7, q8, q9⟩ := hq
        obtain ⟨hab, hH⟩ := ni_EmG hM ha (ni_nh1 q1)
        obtain ⟨hbb, hHb⟩ := ni_EmG hM hb0 (ni_nh1 (by rw [q3]; exact q1))
        obtain ⟨k1, k2⟩ := ni_EmS hE hM hb0 (ni_nh1 (by rw [q3]; exact q1)) (cb.1, ni_cpy ca.2 cb.2 sp.toNatClampNeg dp.toNatClampNeg n.toNatClampNeg)
        obtain ⟨o', h1, h2⟩ := hn _ _ _ _ _ k1 hs
        refine ⟨o', ?_, ni_FoT k2 h2⟩
        simp only [List.map_cons, ni_shR hab, ni_shR hbb]
        rw [show ni_sh E (.int n) = .int n from rfl, show ni_sh E (.int dp) = .int dp from rfl, show ni_sh E (.int sp) = .int sp from rfl]
        simp only [hH, hHb]
        rw [if_pos ⟨show 100 ≤ (ni_sc E ca).1 from q1, show ni_aks[(ni_sc E ca).1 - 100]? = some .int from q2, show (ni_sc E cb).1 = (ni_sc E ca).1 from q3, q4, q5, q6, by show _ ≤ (ca.2.map (ni_sh E)).length; rw [List.length_map]; exact q7, by show _ ≤ (cb.2.map (ni_sh E)).length; rw [List.length_map]; exact q8, by rw [ni_shS]; exact q9⟩]
        have e : ((ni_sc E cb).1, ni_cpy (ni_sc E ca).2 (ni_sc E cb).2 sp.toNatClampNeg dp.toNatClampNeg n.toNatClampNeg) = ni_sc E (cb.1, ni_cpy ca.2 cb.2 sp.toNatClampNeg dp.toNatClampNeg n.toNatClampNeg) := by
          simp only [ni_sc, ni_cpy, List.map_append, List.map_take, List.map_drop]
        rw [e]
        exact h1
      next => cases hs
    next => cases hs
  next => cases hs
theorem ni_frR {rt : Option FieldType} : ni_Fr (ni_sR rt) := by
  intro E Z n0 h0 hE call call' next next' o hb hc hn hm ls st M H hM hs
  have hk : ∀ v : Value, ni_rok rt (some v) = true → ni_rok rt (some (ni_sh E v)) = true := by
    intro v hv
    cases v <;> try exact hv
    simp only [ni_sh]
    split
    · cases rt with
      | none => exact hv
      | some ty => cases ty <;> first | exact hv | rfl
    · exact hv
  unfold ni_sR at hs ⊢
  split at hs
  · split at hs
    next h =>
      cases hs
      simp only [List.map_nil]
      rw [if_pos h]
      exact ⟨_, rfl, rfl, hM, fun _ _ _ => rfl⟩
    next => cases hs
  · split at hs
    next v h =>
      cases hs
      simp only [List.map_cons, List.map_nil]
      rw [if_pos (hk v h)]
      exact ⟨_, rfl, rfl, hM, fun _ _ _ => rfl⟩
    next => cases hs
  · cases hs
theorem ni_frTh {x : String} : ni_Fr (ni_sTh x) := by
  intro E Z n0 h0 hE call call' next next' o hb hc hn hm ls st M H hM hs
  unfold ni_sTh at hs ⊢
  split at hs
  next h =>
    cases hs
    rw [if_pos (by rw [ni_shS]; exact h)]
    exact ⟨_, rfl, rfl, ⟨hM.1, congrArg (· + 1) hM.2.1, hM.2.2⟩, fun _ _ _ => rfl⟩
  next => cases hs
theorem ni_frCast {nm : String} {q : Nat} : ni_Fr (ni_sCast nm q) := by
  intro E Z n0 h0 hE call call' next next' o hb hc hn hm ls st M H hM hs
  unfold ni_sCast at hs ⊢
  split at hs
  next a r =>
    split at hs
    next c0 ha =>
      split at hs
      next z hz =>
        split at hs
        next hq =>
          obtain ⟨hab, hH⟩ := ni_EmG hM ha (ni_nh5 (C := z.1) (by rw [hz]; rfl))
          simp only [List.map_cons, ni_shR hab, hH]
          rw [show vwCl[(ni_sc E c0).1]? = some z from hz]
          dsimp only
          rw [if_pos (show (ni_sc E c0).1 < 100 ∧ (z.1, nm) ∈ ni_ca from hq)]
          have := hn _ _ _ _ _ hM hs
          rw [List.map_cons, ni_shR hab] at this
          exact this
        next => cases hs
      next => cases hs
    next => cases hs
  next => cases hs
theorem ni_frSln {xs : List Int32} {q : Nat} : ni_Fr (ni_sSln xs q) := by
  intro E Z n0 h0 hE call call' next next' o hb hc hn hm ls st M H hM hs
  unfold ni_sSln at hs ⊢
  split at hs
  next a r =>
    split at hs
    next hq =>
      subst hq
      simp only [List.map_cons]
      rw [ni_shX0]
      simp only [if_true]
      exact hn _ _ _ _ _ hM hs
    next => cases hs
  next => cases hs
theorem ni_frSld {xs : List Int32} {q : Nat} : ni_Fr (ni_sSld xs q) := by
  intro E Z n0 h0 hE call call' next next' o hb hc hn hm ls st M H hM hs
  unfold ni_sSld at hs ⊢
  split at hs
  next i a r =>
    split at hs
    next hq =>
      split at hs
      next x hx =>
        obtain ⟨hq1, hq2⟩ := hq
        subst hq1
        simp only [List.map_cons]
        rw [ni_shX0, show ni_sh E (.int i) = .int i from rfl]
        dsimp only
        rw [if_pos ⟨rfl, hq2⟩, hx]
        exact hn _ _ _ _ _ hM hs
      next => cases hs
    next => cases hs
  next => cases hs
/-! calls -/
theorem ni_frAft {E : Nat → Nat} {Z : Nat → Prop} {n0 h0 : Nat} {call call' : ni_F} {next next' : ni_K} {o : ni_O} (hb : h0 + ni_zc o.2 ≤ ni_big)
    (hc : ∀ (y : Nat) (as : List Value) (M H : ni_H) (o1 : ni_O), h0 + ni_zc o1.2 ≤ ni_big → ni_Em E Z n0 h0 M H → call y as M = some o1 → ∃ o', call' y (as.map (ni_sh E)) H = some o' ∧ ni_Fo E Z n0 h0 H o1 o')
    (hn : ∀ (q : Nat) (ls st : List Value) (M H : ni_H), ni_Em E Z n0 h0 M H → next q ls st M = some o → ∃ o', next' q (ls.map (ni_sh E)) (st.map (ni_sh E)) H = some o' ∧ ni_Fo E Z n0 h0 H o o')
    (hm : ∀ (q : Nat) (ls st : List Value) (M : ni_H), next q ls st M = some o → ni_le M o.2)
    {q y : Nat} {ls r as : List Value} {M H : ni_H} (hM : ni_Em E Z n0 h0 M H) (hs : ni_aft next q ls r (call y as M) = some o) : ∃ o', ni_aft next' q (ls.map (ni_sh E)) (r.map (ni_sh E)) (call' y (as.map (ni_sh E)) H) = some o' ∧ ni_Fo E Z n0 h0 H o o' := by
  cases ho : call y as M with
  | none => rw [ho] at hs; cases hs
  | some o1 =>
    rw [ho] at hs
    obtain ⟨u, M1⟩ := o1
    cases u with
    | inl v =>
      have hle := (hm _ _ _ _ hs).1
      obtain ⟨o', g1, g2⟩ := hc y as M H _ (by dsimp only at hle ⊢; omega) hM ho
      obtain ⟨u', M1'⟩ := o'
      have e1 : u' = .inl (v.map (ni_sh E)) := g2.1
      subst e1
      obtain ⟨o2, k1, k2⟩ := hn _ _ _ _ _ g2.2.1 hs
      refine ⟨o2, ?_, ni_FoT g2.2.2 k2⟩
      rw [g1]
      simp only [ni_aft]
      rw [List.map_append] at k1
      have e2 : (v.map (ni_sh E)).toList = v.toList.map (ni_sh E) := by cases v <;> rfl
      rw [e2]
      exact k1
    | inr x =>
      have hs : o = (.inr x, M1) := (Option.some.inj hs).symm
      subst hs
      obtain ⟨o', g1, g2⟩ := hc y as M H _ hb hM ho
      obtain ⟨u', M1'⟩ := o'
      have e1 : u' = .inr x := g2.1
      subst e1
      refine ⟨_, ?_, g2⟩
      rw [g1]
      rfl
theorem ni_frV {y n ci q : Nat} (hci : ci < 99) : ni_Fr (ni_sV y n ci q) := by
  intro E Z n0 h0 hE call call' next next' o hb hc hn hm ls st M H hM hs
  unfold ni_sV at hs ⊢
  split at hs
  next a r hst =>
    split at hs
    next c0 ha =>
      split at hs
      next hq =>
        obtain ⟨hab, hH⟩ := ni_EmG hM ha (ni_nh6 hq.1 hci)
        obtain ⟨o', g1, g2⟩ := ni_frAft hb hc hn hm hM hs
        refine ⟨o', ?_, g2⟩
        rw [← List.map_drop, hst]
        simp only [List.map_cons, ni_shR hab, hH]
        rw [if_pos ⟨show (ni_sc E c0).1 = ci from hq.1, by rw [ni_shS]; exact hq.2⟩]
        rw [List.map_cons, ni_shR hab, List.map_reverse, List.map_take] at g1
        exact g1
      next => cases hs
    next => cases hs
  next => cases hs
theorem ni_frC {y n q : Nat} : ni_Fr (ni_sC y n q) := by
  intro E Z n0 h0 hE call call' next next' o hb hc hn hm ls st M H hM hs
  unfold ni_sC at hs ⊢
  split at hs
  next hq =>
    obtain ⟨o', g1, g2⟩ := ni_frAft hb hc hn hm hM hs
    refine ⟨o', ?_, g2⟩
    rw [← List.map_drop, if_pos ⟨by rw [List.length_map]; exact hq.1, by rw [ni_shS]; exact hq.2⟩]
    rw [List.map_reverse, List.map_take] at g1
    exact g1
  next => cases hs
theorem ni_frI {y n q : Nat} : ni_Fr (ni_sI y n q) := by
  intro E Z n0 h0 hE call call' next next' o hb hc hn hm ls st M H hM hs
  unfold ni_sI at hs ⊢
  split at hs
  next a r hst =>
    split at hs
    next hq =>
      obtain ⟨o', g1, g2⟩ := ni_frAft hb hc hn hm hM hs
      refine ⟨o', ?_, g2⟩
      rw [← List.map_drop, hst]
      rw [List.map_cons, List.map_reverse, List.map_take] at g1
      have hx : ∃ a', ni_sh E (.ref a) = .ref a' := by
        simp only [ni_sh]
        split <;> exact ⟨_, rfl⟩
      obtain ⟨a', ha'⟩ := hx
      simp only [List.map_cons, ha'] at g1 ⊢
      rw [if_pos (by rw [ni_shS]; exact hq)]
      exact g1
    next => cases hs
  next => cases hs
theorem ni_frVX {y n ci q1 k q : Nat} {x : String} (hci : ci < 99) : ni_Fr (ni_sVX y n ci x q1 k q) := by
  intro E Z n0 h0 hE call call' next next' o hb hc hn hm ls st M H hM hs
  unfold ni_sVX at hs ⊢
  split at hs
  next a r hst =>
    split at hs
    next c0 ha =>
      split at hs
      next hq =>
        obtain ⟨hab, hH⟩ := ni_EmG hM ha (ni_nh6 hq.1 hci)
        rw [← List.map_drop, hst]
        simp only [List.map_cons, ni_shR hab, hH]
        rw [if_pos ⟨show (ni_sc E c0).1 = ci from hq.1, by rw [ni_shS]; exact hq.2⟩]
        cases ho : call y (.ref a :: (st.take n).reverse) M with
        | none => rw [ho] at hs; cases hs
        | some o1 =>
          rw [ho] at hs
          obtain ⟨u, M1⟩ := o1
          cases u with
          | inl v =>
            have hle := (hm _ _ _ _ hs).1
            obtain ⟨o', g1, g2⟩ := hc y _ M H _ (by dsimp only at hle ⊢; omega) hM ho
            obtain ⟨u', M1'⟩ := o'
            have e1 : u' = .inl (v.map (ni_sh E)) := g2.1
            subst e1
            obtain ⟨o2, k1, k2⟩ := hn _ _ _ _ _ g2.2.1 hs
            refine ⟨o2, ?_, ni_FoT g2.2.2 k2⟩
            rw [List.map_cons, ni_shR hab, List.map_reverse, List.map_take] at g1
            rw [g1]
            simp only [ni_aftX]
            rw [List.map_append] at k1
            have e2 : (v.map (ni_sh E)).toList = v.toList.map (ni_sh E) := by cases v <;> rfl
            rw [e2]
            exact k1
          | inr z =>
            simp only [ni_aftX] at hs
            split at hs
            next hz =>
              have hle := (hm _ _ _ _ hs).1
              obtain ⟨o', g1, g2⟩ := hc y _ M H _ (by dsimp only at hle ⊢; omega) hM ho
              obtain ⟨u', M1'⟩ := o'
              have e1 : u' = .inr z := g2.1
              subst e1
              obtain ⟨o2, k1, k2⟩ := hn _ _ _ _ _ g2.2.1 hs
              refine ⟨o2, ?_, ni_FoT g2.2.2 k2⟩
              rw [List.map_cons, ni_shR hab, List.map_reverse, List.map_take] at g1
              rw [g1]
              simp only [ni_aftX]
              rw [if_pos hz, ni_shK]
              rw [List.map_set] at k1
              exact k1
            next => cases hs
      next => cases hs
    next => cases hs
  next => cases hs
theorem ni_fr0 : ni_Fr ni_s0 := by
  intro E Z n0 h0 hE call call' next next' o hb hc hn hm ls st M H hM hs
  cases hs
/-- the walk over the small heap, carried -/
theorem ni_exFr {prog : Nat → Nat → ni_S} (hm : ∀ y pc, ni_Mo (prog y pc)) (hf : ∀ y pc, ni_Fr (prog y pc)) {E : Nat → Nat} {Z : Nat → Prop} {n0 h0 : Nat} (hE : ni_E0 E Z n0 h0) : ∀ (n d y pc : Nat) (ls st : List Value) (M H : ni_H) (o : ni_O), h0 + ni_zc o.2 ≤ ni_big → ni_Em E Z n0 h0 M H → ni_ex prog n d y pc ls st M = some o →
    ∃ o', ni_ex prog n d y pc (ls.map (ni_sh E)) (st.map (ni_sh E)) H = some o' ∧ ni_Fo E Z n0 h0 H o o' := by
  intro n
  induction n with
  | zero => intro d y pc ls st M H o _ _ h; cases h
  | succ n ih =>
    intro d y pc ls st M H o hb hM h
    rw [ni_exS] at h
    rw [ni_exS]
    refine hf y pc hE (ni_cl (ni_ex prog n) d) (ni_cl (ni_ex prog n) d) (ni_ex prog n d y) (ni_ex prog n d y) o hb (fun y' as M' H' o1 hb1 hM1 h1 => ?_) (fun q ls st M' H' hM1 h1 => ih d y q ls st M' H' o hb hM1 h1) (fun q ls st M' h1 => ni_mono hm n d y q ls st M' o h1) ls st M H hM h
    unfold ni_cl at h1 ⊢
    split at h1
    · cases h1
    next d1 =>
      split at h1
      next he =>
        rw [if_pos (by rw [ni_shE, List.length_map]; exact he), ni_shN]
        exact ih d1 y' 0 _ [] M' H' o1 hb1 hM1 h1
      next => cases h1
/-- a call over the small heap, carried -/
theorem ni_clFr {prog : Nat → Nat → ni_S} (hm : ∀ y pc, ni_Mo (prog y pc)) (hf : ∀ y pc, ni_Fr (prog y pc)) {E : Nat → Nat} {Z : Nat → Prop} {n0 h0 n d y : Nat} (hE : ni_E0 E Z n0 h0) {as : List Value} {M H : ni_H} {o : ni_O} (hb : h0 + ni_zc o.2 ≤ ni_big) (hM : ni_Em E Z n0 h0 M H) (h : ni_cl (ni_ex prog n) d y as M = some o) :
    ∃ o', ni_cl (ni_ex prog n) d y (as.map (ni_sh E)) H = some o' ∧ ni_Fo E Z n0 h0 H o o' := by
  unfold ni_cl at h ⊢
  split at h
  · cases h
  next d1 =>
    split at h
    next he =>
      rw [if_pos (by rw [ni_shE, List.length_map]; exact he), ni_shN]
      exact ni_exFr hm hf hE n d1 y 0 _ [] M H o hb hM h
    next => cases h
end NF2
