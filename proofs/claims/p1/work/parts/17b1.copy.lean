/-! THE MODEL'S COPY OF A NEW NET -/
section NCPY
variable {xs : List Int32}
set_option maxRecDepth 100000
section X3
variable {d y pc q : Nat} {ls st : List Value} {M : ni_H} {o : ni_O}
theorem ni_xQld {a t : Nat} {i : Int32} {C : String} {vs : List Value} {v : Value} (hp : ni_prog xs y pc = ni_sQld q) (ha : M.1[a]? = some (t, vs)) (ht : 100 ≤ t ∧ ¬ i < 0) (hk : ni_aks[t - 100]? = some (.object C)) (hv : vs[i.toNatClampNeg]? = some v) (hy : ni_ty v = 3) (k : ni_G xs d y q ls (v :: st) M o) : ni_G xs d y pc ls (.int i :: .ref a :: st) M o := by
  obtain ⟨n, h⟩ := k
  refine ⟨n + 1, ?_⟩
  rw [ni_exS, hp]
  unfold ni_sQld
  simp only [ha]
  rw [if_pos ht]
  simp only [hk, hv]
  rw [if_pos hy]
  exact h
theorem ni_xQlA {a t : Nat} {i : Int32} {C : FieldType} {vs : List Value} {v : Value} (hp : ni_prog xs y pc = ni_sQlA q) (ha : M.1[a]? = some (t, vs)) (ht : 100 ≤ t ∧ ¬ i < 0) (hk : ni_aks[t - 100]? = some (.array C)) (hv : vs[i.toNatClampNeg]? = some v) (hy : ni_ty v = 3) (k : ni_G xs d y q ls (v :: st) M o) : ni_G xs d y pc ls (.int i :: .ref a :: st) M o := by
  obtain ⟨n, h⟩ := k
  refine ⟨n + 1, ?_⟩
  rw [ni_exS, hp]
  unfold ni_sQlA
  simp only [ha]
  rw [if_pos ht]
  simp only [hk, hv]
  rw [if_pos hy]
  exact h
theorem ni_xQst0 {a t : Nat} {i : Int32} {C : String} {vs : List Value} {M' : ni_H} (hp : ni_prog xs y pc = ni_sQst q) (ha : M.1[a]? = some (t, vs)) (ht : 100 ≤ t ∧ ¬ i < 0 ∧ i.toNatClampNeg < vs.length) (hk : ni_aks[t - 100]? = some (.object C)) (hM : (M.1.set a (t, vs.set i.toNatClampNeg .null), M.2) = M') (k : ni_G xs d y q ls st M' o) : ni_G xs d y pc ls (.null :: .int i :: .ref a :: st) M o := by
  obtain ⟨n, h⟩ := k
  refine ⟨n + 1, ?_⟩
  rw [ni_exS, hp]
  unfold ni_sQst
  simp only [ha]
  rw [if_pos ht]
  simp only [hk]
  rw [hM]
  exact h
theorem ni_xQsA {a b t t2 : Nat} {i : Int32} {C : FieldType} {vs vs2 : List Value} {M' : ni_H} (hp : ni_prog xs y pc = ni_sQsA q) (ha : M.1[a]? = some (t, vs)) (hb : M.1[b]? = some (t2, vs2)) (ht : 100 ≤ t ∧ 100 ≤ t2 ∧ (t - 100, t2 - 100) ∈ ni_aa ∧ ¬ i < 0 ∧ i.toNatClampNeg < vs.length) (hk : ni_aks[t - 100]? = some (.array C)) (hM : (M.1.set a (t, vs.set i.toNatClampNeg (.ref b)), M.2) = M') (k : ni_G xs d y q ls st M' o) : ni_G xs d y pc ls (.ref b :: .int i :: .ref a :: st) M o := by
  obtain ⟨n, h⟩ := k
  refine ⟨n + 1, ?_⟩
  rw [ni_exS, hp]
  unfold ni_sQsA
  simp only [ha, hb]
  rw [if_pos ht]
  simp only [hk]
  rw [hM]
  exact h
end X3
theorem ni_sSm {α : Type} {L : List α} {a : Nat} {c : α} (h : L[a]? = some c) : L.set a c = L := by
  apply List.ext_getElem?
  intro i
  rw [List.getElem?_set]
  by_cases hi : a = i
  · subst hi
    rw [if_pos rfl, if_pos (List.getElem?_eq_some_iff.mp h).1, h]
  · rw [if_neg hi]
theorem ni_pSm {L : List ni_C} {a t k g : Nat} {vs : List Value} {v : Value} (h : L[a]? = some (t, vs)) (hv : vs[k]? = some v) : ((L.set a (t, vs.set k v), g) : ni_H) = (L, g) := by
  rw [ni_sSm hv, ni_sSm h]
/-- a new net's cells, the net first -/
def ni_RN : List ni_C := (ni_RM.drop 1).map (ni_sc (fun k => k - 1))
def ni_bN : ni_C := (14, [.int 0, .int 0, .int 0, .null, .null, .null, .null, .null, .null, .null, .int 0, .null, .null, .null, .int 0, .null, .null, .null, .null, .null, .null, .null, .null, .null])
theorem ni_t173 : ni_cl (ni_ex ni_prog0 4000) 5 173 [.ref 0] ([ni_bN], 0) = some (.inl none, (ni_RN, 0)) := by decide +kernel
def ni_X2 : List ni_C := ni_P0 ++ ni_RN.map (ni_sc (fun k => k + 110))
def ni_f4 (k : Nat) : List Value := (List.range 64).map (fun i => if i < k then .ref (35 + i) else .ref (130 + i))
def ni_X4 (k : Nat) : List ni_C := ni_X2.set 128 (111, ni_f4 k)
def ni_dd : List Value := (List.range 64).map fun i => if i / 8 = i % 8 then .int 0 else .int (-1)
theorem ni_new173 (xs : List Int32) : ni_R xs 5 173 [.ref 110] (ni_P0 ++ [ni_bN], 0) (.inl none, (ni_X2, 0)) := by
  have e1 : ni_RN = ni_RN.headD ni_bN :: ni_RN.tail := by decide +kernel
  have hm := ni_t173
  rw [e1] at hm
  have hP : (ni_P0 ++ [ni_bN]).length = 111 := by decide +kernel
  have r1 := ni_cry1 (a := 110) (H := (ni_P0 ++ [ni_bN], 0)) (ni_cl0 xs hm) (by show (ni_P0 ++ [ni_bN])[110]? = some ni_bN; decide +kernel) (fun _ => rfl) rfl (by
    show (ni_P0 ++ [ni_bN]).length + (ni_RN.tail.length + 1) ≤ ni_big
    decide +kernel)
  dsimp only at r1
  rw [hP] at r1
  have eH : (ni_P0 ++ [ni_bN]).set 110 (ni_sc (ni_E1 110 111) (ni_RN.headD ni_bN)) ++ ni_RN.tail.map (ni_sc (ni_E1 110 111)) = ni_X2 := by decide +kernel
  rw [eH] at r1
  exact r1
theorem ni_kk {k n : Nat} (h : k < n) (hn : n ≤ 64) : ¬ Int32.ofNat k < 0 ∧ (Int32.ofNat k).toNatClampNeg = k := by
  have h1 : (Int32.ofNat k).toNatClampNeg = k := Int32.toNatClampNeg_ofNat_of_lt (by omega)
  refine ⟨fun z => ?_, h1⟩
  have h2 : Int32.ofNat k < Int32.ofNat 0 := z
  rw [Int32.ofNat_lt_iff_lt (by omega) (by omega)] at h2
  omega
theorem ni_le64 {k n : Nat} (h : k ≤ 64) (hn : n ≤ 64) : (Int32.ofNat n ≤ Int32.ofNat k) ↔ n ≤ k := Int32.ofNat_le_iff_le (by omega) (by omega)
theorem ni_rep {n k : Nat} {v : Value} (h : k < n) : (List.replicate n v)[k]? = some v := by simp [h]
theorem ni_sz4 : ni_R xs 1 187 [.ref 30] (ni_X2, 0) (.inl (some (.int 0)), (ni_X2, 0)) := by
  refine ni_enter (Nat.le_of_ble_eq_true rfl) rfl ?_
  refine ni_xLd rfl rfl rfl ?_
  refine ni_xGet rfl rfl rfl ?_
  exact ni_xR rfl rfl
theorem ni_l2 {o : ni_O} (K : ni_G xs 5 174 276 [.ref 15, .ref 110, .int (Int32.ofNat 24)] [] (ni_X2, 0) o) : ∀ j k, k + j = 24 → ni_G xs 5 174 180 [.ref 15, .ref 110, .int (Int32.ofNat k)] [] (ni_X2, 0) o := by
  intro j
  induction j with
  | zero =>
    intro k hj
    have e : k = 24 := by omega
    subst e
    refine ni_xLd rfl rfl rfl ?_
    refine ni_xP (g := ni_gPush (.int 24) 183) rfl rfl ?_
    refine ni_xIc true rfl (decide_eq_true ((ni_le64 (n := 24) (by omega) (by omega)).mpr (Nat.le_refl _))) ?_
    exact K
  | succ j ih =>
    intro k hj
    have hl : k < 24 := by omega
    have hk := ni_kk hl (by decide)
    refine ni_xLd rfl rfl rfl ?_
    refine ni_xP (g := ni_gPush (.int 24) 183) rfl rfl ?_
    refine ni_xIc false rfl (decide_eq_false fun z => absurd ((ni_le64 (n := 24) (by omega) (by omega)).mp z) (by omega)) ?_
    refine ni_xLd rfl rfl rfl ?_
    refine ni_xGet rfl rfl rfl ?_
    refine ni_xLd rfl rfl rfl ?_
    refine ni_xLd rfl rfl rfl ?_
    refine ni_xGet rfl rfl rfl ?_
    refine ni_xLd rfl rfl rfl ?_
    refine ni_xAld (vs := List.replicate 24 (.int 0)) (v := .int 0) rfl rfl ⟨by decide, rfl, hk.1⟩ (by rw [hk.2]; exact ni_rep hl) rfl ?_
    refine ni_xAst (vs := List.replicate 24 (.int 0)) rfl rfl ⟨by decide, rfl, hk.1, by rw [hk.2]; exact hl, rfl, rfl⟩ (ni_pSm rfl (by rw [hk.2]; exact ni_rep hl)) ?_
    refine ni_xLd rfl rfl rfl ?_
    refine ni_xGet rfl rfl rfl ?_
    refine ni_xLd rfl rfl rfl ?_
    refine ni_xLd rfl rfl rfl ?_
    refine ni_xGet rfl rfl rfl ?_
    refine ni_xLd rfl rfl rfl ?_
    refine ni_xAld (vs := List.replicate 24 (.int 0)) (v := .int 0) rfl rfl ⟨by decide, rfl, hk.1⟩ (by rw [hk.2]; exact ni_rep hl) rfl ?_
    refine ni_xAst (vs := List.replicate 24 (.int 0)) rfl rfl ⟨by decide, rfl, hk.1, by rw [hk.2]; exact hl, rfl, rfl⟩ (ni_pSm rfl (by rw [hk.2]; exact ni_rep hl)) ?_
    refine ni_xLd rfl rfl rfl ?_
    refine ni_xGet rfl rfl rfl ?_
    refine ni_xLd rfl rfl rfl ?_
    refine ni_xLd rfl rfl rfl ?_
    refine ni_xGet rfl rfl rfl ?_
    refine ni_xLd rfl rfl rfl ?_
    refine ni_xAld (vs := List.replicate 24 (.int 0)) (v := .int 0) rfl rfl ⟨by decide, rfl, hk.1⟩ (by rw [hk.2]; exact ni_rep hl) rfl ?_
    refine ni_xAst (vs := List.replicate 24 (.int 0)) rfl rfl ⟨by decide, rfl, hk.1, by rw [hk.2]; exact hl, rfl, rfl⟩ (ni_pSm rfl (by rw [hk.2]; exact ni_rep hl)) ?_
    refine ni_xLd rfl rfl rfl ?_
    refine ni_xGet rfl rfl rfl ?_
    refine ni_xLd rfl rfl rfl ?_
    refine ni_xLd rfl rfl rfl ?_
    refine ni_xGet rfl rfl rfl ?_
    refine ni_xLd rfl rfl rfl ?_
    refine ni_xAld (vs := List.replicate 24 (.int 0)) (v := .int 0) rfl rfl ⟨by decide, rfl, hk.1⟩ (by rw [hk.2]; exact ni_rep hl) rfl ?_
    refine ni_xAst (vs := List.replicate 24 (.int 0)) rfl rfl ⟨by decide, rfl, hk.1, by rw [hk.2]; exact hl, rfl, rfl⟩ (ni_pSm rfl (by rw [hk.2]; exact ni_rep hl)) ?_
    refine ni_xLd rfl rfl rfl ?_
    refine ni_xGet rfl rfl rfl ?_
    refine ni_xLd rfl rfl rfl ?_
    refine ni_xLd rfl rfl rfl ?_
    refine ni_xGet rfl rfl rfl ?_
    refine ni_xLd rfl rfl rfl ?_
    refine ni_xAld (vs := List.replicate 24 (.int 0)) (v := .int 0) rfl rfl ⟨by decide, rfl, hk.1⟩ (by rw [hk.2]; exact ni_rep hl) rfl ?_
    refine ni_xAst (vs := List.replicate 24 (.int 0)) rfl rfl ⟨by decide, rfl, hk.1, by rw [hk.2]; exact hl, rfl, rfl⟩ (ni_pSm rfl (by rw [hk.2]; exact ni_rep hl)) ?_
    refine ni_xLd rfl rfl rfl ?_
    refine ni_xGet rfl rfl rfl ?_
    refine ni_xLd rfl rfl rfl ?_
    refine ni_xLd rfl rfl rfl ?_
    refine ni_xGet rfl rfl rfl ?_
    refine ni_xLd rfl rfl rfl ?_
    refine ni_xAld (vs := List.replicate 24 (.int 0)) (v := .int 0) rfl rfl ⟨by decide, rfl, hk.1⟩ (by rw [hk.2]; exact ni_rep hl) rfl ?_
    refine ni_xAst (vs := List.replicate 24 (.int 0)) rfl rfl ⟨by decide, rfl, hk.1, by rw [hk.2]; exact hl, rfl, rfl⟩ (ni_pSm rfl (by rw [hk.2]; exact ni_rep hl)) ?_
    refine ni_xLd rfl rfl rfl ?_
    refine ni_xGet rfl rfl rfl ?_
    refine ni_xLd rfl rfl rfl ?_
    refine ni_xLd rfl rfl rfl ?_
    refine ni_xGet rfl rfl rfl ?_
    refine ni_xLd rfl rfl rfl ?_
    refine ni_xAld (vs := List.replicate 24 (.int 0)) (v := .int 0) rfl rfl ⟨by decide, rfl, hk.1⟩ (by rw [hk.2]; exact ni_rep hl) rfl ?_
    refine ni_xAst (vs := List.replicate 24 (.int 0)) rfl rfl ⟨by decide, rfl, hk.1, by rw [hk.2]; exact hl, rfl, rfl⟩ (ni_pSm rfl (by rw [hk.2]; exact ni_rep hl)) ?_
    refine ni_xInc rfl rfl rfl ?_
    refine ni_xP (g := ni_gGo 180) rfl rfl ?_
    have h9 := ih (k + 1) (by omega)
    rw [Int32.ofNat_add] at h9
    exact h9
theorem ni_f4s {k : Nat} (h : k < 64) : (ni_f4 k).set k (.ref (35 + k)) = ni_f4 (k + 1) := by
  apply List.ext_getElem?
  intro i
  rw [List.getElem?_set]
  unfold ni_f4
  simp only [List.getElem?_map, List.length_map, List.length_range]
  by_cases hi : k = i
  · subst hi
    rw [if_pos rfl, if_pos h, List.getElem?_range h]
    simp
  · rw [if_neg hi]
    by_cases h6 : i < 64
    · rw [List.getElem?_range h6]
      simp only [Option.map_some]
      by_cases h7 : i < k
      · rw [if_pos h7, if_pos (by omega)]
      · rw [if_neg h7, if_neg (by omega)]
    · rw [List.getElem?_eq_none (by simp; omega)]
      rfl
theorem ni_x4i {k : Nat} (h : k < 64) : (ni_X4 k)[35 + k]? = some (100, []) := by
  have key : ∀ k, k < 64 → ni_X2[35 + k]? = some (100, []) := by decide +kernel
  unfold ni_X4
  rw [List.getElem?_set_ne (by omega)]
  exact key k h
theorem ni_ddv {k : Nat} (h : k < 64) : ni_dd[k]? = some (if k / 8 = k % 8 then .int 0 else .int (-1)) := by
  unfold ni_dd
  rw [List.getElem?_map, List.getElem?_range h]
  rfl
theorem ni_f4L (k : Nat) : (ni_f4 k).length = 64 := by simp [ni_f4]
theorem ni_r35 {k : Nat} (h : k < 64) : ((List.range 64).map (fun i => Value.ref (35 + i)))[k]? = some (.ref (35 + k)) := by
  rw [List.getElem?_map, List.getElem?_range h]
  rfl
theorem ni_x4s {k g : Nat} (h : k < 64) : (((ni_X4 k).set 128 (111, (ni_f4 k).set k (.ref (35 + k))), g) : ni_H) = (ni_X4 (k + 1), g) := by
  rw [ni_f4s h]
  unfold ni_X4
  rw [List.set_set]
theorem ni_l4 {o : ni_O} (K : ni_G xs 5 174 367 [.ref 15, .ref 110, .int (Int32.ofNat 64)] [] (ni_X4 64, 0) o) : ∀ j k, k + j = 64 → ni_G xs 5 174 319 [.ref 15, .ref 110, .int (Int32.ofNat k)] [] (ni_X4 k, 0) o := by
  intro j
  induction j with
  | zero =>
    intro k hj
    have e : k = 64 := by omega
    subst e
    refine ni_xLd rfl rfl rfl ?_
    refine ni_xP (g := ni_gPush (.int 64) 322) rfl rfl ?_
    refine ni_xIc true rfl (decide_eq_true ((ni_le64 (n := 64) (by omega) (by omega)).mpr (Nat.le_refl _))) ?_
    exact K
  | succ j ih =>
    intro k hj
    have hl : k < 64 := by omega
    have hk := ni_kk hl (by decide)
    refine ni_xLd rfl rfl rfl ?_
    refine ni_xP (g := ni_gPush (.int 64) 322) rfl rfl ?_
    refine ni_xIc false rfl (decide_eq_false fun z => absurd ((ni_le64 (n := 64) (by omega) (by omega)).mp z) (by omega)) ?_
    refine ni_xLd rfl rfl rfl ?_
    refine ni_xGet rfl rfl rfl ?_
    refine ni_xLd rfl rfl rfl ?_
    refine ni_xLd rfl rfl rfl ?_
    refine ni_xGet rfl rfl rfl ?_
    refine ni_xLd rfl rfl rfl ?_
    refine ni_xQld (vs := List.replicate 64 .null) (v := .null) rfl rfl ⟨by decide, hk.1⟩ rfl (by rw [hk.2]; exact ni_rep hl) rfl ?_
    refine ni_xQst0 (vs := List.replicate 64 .null) rfl rfl ⟨by decide, hk.1, by rw [hk.2]; exact hl⟩ rfl (ni_pSm rfl (by rw [hk.2]; exact ni_rep hl)) ?_
    refine ni_xLd rfl rfl rfl ?_
    refine ni_xGet rfl rfl rfl ?_
    refine ni_xLd rfl rfl rfl ?_
    refine ni_xLd rfl rfl rfl ?_
    refine ni_xGet rfl rfl rfl ?_
    refine ni_xLd rfl rfl rfl ?_
    refine ni_xAld (vs := ni_dd) rfl rfl ⟨by decide, rfl, hk.1⟩ (by rw [hk.2]; exact ni_ddv hl) (by split <;> rfl) ?_
    refine ni_xAst (vs := ni_dd) rfl rfl ⟨by decide, rfl, hk.1, by rw [hk.2]; exact hl, by split <;> rfl, by split <;> rfl⟩ (ni_pSm rfl (by rw [hk.2]; exact ni_ddv hl)) ?_
    refine ni_xLd rfl rfl rfl ?_
    refine ni_xGet rfl rfl rfl ?_
    refine ni_xLd rfl rfl rfl ?_
    refine ni_xLd rfl rfl rfl ?_
    refine ni_xGet rfl rfl rfl ?_
    refine ni_xLd rfl rfl rfl ?_
    refine ni_xQlA (vs := (List.range 64).map (fun i => Value.ref (35 + i))) rfl rfl ⟨by decide, hk.1⟩ rfl (by rw [hk.2]; exact ni_r35 hl) rfl ?_
    refine ni_xQsA (M' := (ni_X4 (k + 1), 0)) (vs := ni_f4 k) rfl rfl (ni_x4i hl) ⟨by decide, by decide, by decide, hk.1, by rw [hk.2, ni_f4L]; exact hl⟩ rfl (by rw [hk.2]; exact ni_x4s hl) ?_
    refine ni_xInc rfl rfl rfl ?_
    refine ni_xP (g := ni_gGo 319) rfl rfl ?_
    have h9 := ih (k + 1) (by omega)
    rw [Int32.ofNat_add] at h9
    exact h9
def ni_cpOk (o : Option ni_O) : Bool := match o with
  | some (.inl (some (.ref 110)), (L, 0)) => Nat.ble L.length 1000 && (Nat.ble (L.map (fun c => c.2.length)).sum 20000) && (((L[110]?).map (fun c => (c.1, c.2.take 3))) == some (14, [.int 0, .int 0, .int 0])) && (L[14]? == some (18, [.ref 15, .int 0])) && (L[108]? == some (101, [.long 0]))
  | _ => false
theorem ni_cp : ni_cpOk (ni_ex ni_prog0 2000 5 174 369 [.ref 15, .ref 110, .int 0] [] (ni_X4 64, 0)) = true := by decide +kernel
theorem ni_cpR (xs : List Int32) : ∃ (L : List ni_C) (vs : List Value), ni_R xs 6 174 [.ref 15] (ni_P0, 0) (.inl (some (.ref 110)), (L, 0)) ∧ L.length ≤ 1000 ∧ (L.map (fun c => c.2.length)).sum ≤ 20000 ∧ L[110]? = some (14, vs) ∧ vs[2]? = some (.int 0) ∧ L[14]? = some (18, [.ref 15, .int 0]) ∧ L[108]? = some (101, [.long 0]) := by
  have h := ni_cp
  cases hX : ni_ex ni_prog0 2000 5 174 369 [.ref 15, .ref 110, .int 0] [] (ni_X4 64, 0) with
  | none => rw [hX] at h; cases h
  | some o =>
    rw [hX] at h
    unfold ni_cpOk at h
    split at h
    next L he =>
      cases he
      simp only [Bool.and_eq_true, beq_iff_eq] at h
      obtain ⟨⟨⟨⟨g1, g2⟩, g3⟩, g4⟩, g5⟩ := h
      obtain ⟨c, hc, hc2⟩ := Option.map_eq_some_iff.mp g3
      obtain ⟨t, vs⟩ := c
      have e1 : t = 14 := congrArg Prod.fst hc2
      have e2 : vs.take 3 = [.int 0, .int 0, .int 0] := congrArg Prod.snd hc2
      subst e1
      refine ⟨L, vs, ?_, Nat.le_of_ble_eq_true g1, Nat.le_of_ble_eq_true g2, hc, ?_, g4, g5⟩
      · have hG : ni_G xs 5 174 369 [.ref 15, .ref 110, .int 0] [] (ni_X4 64, 0) (.inl (some (.ref 110)), (L, 0)) := ⟨2000, ni_ex0 xs _ _ _ _ _ _ _ _ hX⟩
        refine ni_enter (Nat.le_of_ble_eq_true rfl) rfl ?_
        refine ni_xNew (a := 110) rfl rfl (by decide) rfl ?_
        refine ni_xP (g := ni_gDup 4) rfl rfl ?_
        refine ni_xI rfl rfl rfl (Nat.le_of_ble_eq_true rfl) (ni_new173 xs) ?_
        refine ni_xSt rfl rfl rfl ?_
        refine ni_xLd rfl rfl rfl ?_
        refine ni_xLd rfl rfl rfl ?_
        refine ni_xGet rfl rfl rfl ?_
        refine ni_xPut rfl rfl (Nat.le_of_ble_eq_true rfl) rfl (ni_pSm rfl rfl) ?_
        refine ni_xLd rfl rfl rfl ?_
        refine ni_xLd rfl rfl rfl ?_
        refine ni_xGet rfl rfl rfl ?_
        refine ni_xPut rfl rfl (Nat.le_of_ble_eq_true rfl) rfl (ni_pSm rfl rfl) ?_
        refine ni_xLd rfl rfl rfl ?_
        refine ni_xLd rfl rfl rfl ?_
        refine ni_xGet rfl rfl rfl ?_
        refine ni_xPut rfl rfl (Nat.le_of_ble_eq_true rfl) rfl (ni_pSm rfl rfl) ?_
        refine ni_xP (g := ni_gPush (.int 0) 33) rfl rfl ?_
        refine ni_xSt rfl rfl rfl ?_
        refine ni_xLd rfl rfl rfl ?_
        refine ni_xLd rfl rfl rfl ?_
        refine ni_xGet rfl rfl rfl ?_
        refine ni_xIc true rfl rfl ?_
        refine ni_xLd rfl rfl rfl ?_
        refine ni_xLd rfl rfl rfl ?_
        refine ni_xGet rfl rfl rfl ?_
        refine ni_xPut rfl rfl (Nat.le_of_ble_eq_true rfl) rfl (ni_pSm rfl rfl) ?_
        refine ni_xLd rfl rfl rfl ?_
        refine ni_xLd rfl rfl rfl ?_
        refine ni_xGet rfl rfl rfl ?_
        refine ni_xPut rfl rfl (Nat.le_of_ble_eq_true rfl) rfl (ni_pSm rfl rfl) ?_
        refine ni_xP (g := ni_gPush (.int 0) 179) rfl rfl ?_
        refine ni_xSt rfl rfl rfl ?_
        refine ni_l2 ?_ 24 0 rfl
        refine ni_xP (g := ni_gPush (.int 0) 277) rfl rfl ?_
        refine ni_xSt rfl rfl rfl ?_
        refine ni_xLd rfl rfl rfl ?_
        refine ni_xLd rfl rfl rfl ?_
        refine ni_xGet rfl rfl rfl ?_
        refine ni_xV rfl rfl rfl rfl (Nat.le_of_ble_eq_true rfl) (ni_Rup ni_sz4 (by decide)) ?_
        refine ni_xIc true rfl rfl ?_
        refine ni_xP (g := ni_gPush (.int 0) 318) rfl rfl ?_
        refine ni_xSt rfl rfl rfl ?_
        have e0 : ni_X2 = ni_X4 0 := by decide +kernel
        rw [e0]
        refine ni_l4 ?_ 64 0 rfl
        refine ni_xP (g := ni_gPush (.int 0) 368) rfl rfl ?_
        refine ni_xSt rfl rfl rfl ?_
        exact hG
      · have e3 : (vs.take 3)[2]? = some (.int 0) := by rw [e2]; rfl
        rw [List.getElem?_take] at e3
        exact e3
    next => cases h
end NCPY
