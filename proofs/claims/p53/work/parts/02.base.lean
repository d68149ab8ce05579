/-! THE READER: the classes' bytecode as a function (exec) over a list of cells; what it answers, the machine does (the rows of the kit, once an instruction). -/
section NI
/-- a cell: below 100 the place of its class in vwCl, from 100 on the place of its type in ni_ak; its fields or places; a reference is a place in the list, from ni_big on a cell that was there before -/
abbrev ni_C : Type := Nat × List Value
/-- the cells that were made; how many were made that nobody looks at (exceptions) -/
abbrev ni_H : Type := List ni_C × Nat
/-- what a method answers, or the class that it throws; the cells then -/
abbrev ni_O : Type := (Option Value ⊕ String) × ni_H
abbrev ni_K : Type := Nat → List Value → List Value → ni_H → Option ni_O
abbrev ni_F : Type := Nat → List Value → ni_H → Option ni_O
abbrev ni_S : Type := ni_F → ni_K → List Value → List Value → ni_H → Option ni_O
/-- the machine's numbers: classes, slots, classes of arrays, the first cell, the cells that were there before -/
abbrev ni_W : Type := (Nat → ClassId) × (Nat → Nat → Nat) × (Nat → ClassId) × Nat × (Nat → Nat)
def ni_big : Nat := 1000000
def ni_B (w : ni_W) : Nat := w.2.2.2.1
def ni_ad (w : ni_W) (k : Nat) : Nat := if k < ni_big then ni_B w + k else w.2.2.2.2 (k - ni_big)
def ni_v (w : ni_W) (v : Value) : Value := match v with
  | .ref k => .ref (ni_ad w k)
  | v => v
/-- the kind of a value: 0 int, 1 long, 2 double, 3 reference, 4 none of them (a place that holds nothing known) -/
def ni_ty (v : Value) : Nat := match v with
  | .int _ => 0
  | .long _ => 1
  | .double _ => 2
  | .null => 3
  | .ref _ => 3
  | _ => 4
def ni_J : Value := .retAddr 0
def ni_i (v : Value) : Int32 := match v with
  | .int x => x
  | _ => 0
def ni_l (v : Value) : Int64 := match v with
  | .long x => x
  | _ => 0
def ni_d (v : Value) : UInt64 := match v with
  | .double x => x
  | _ => 0
def ni_r (w : ni_W) (v : Value) : Option Nat := match v with
  | .ref k => some (ni_ad w k)
  | _ => none
/-- the kind of an array by its type's place: 0 int, 1 long, 2 double, 3 references, 4 boolean -/
def ni_ak (k : Nat) : Nat := match ni_aks[k]? with
  | some .int => 0
  | some .long => 1
  | some .double => 2
  | some .boolean => 4
  | _ => 3
def ni_ar (w : ni_W) (k : Nat) (vs : List Value) : vp_A := (vs.length,
  if ni_ak k = 0 ∨ ni_ak k = 4 then .inl (fun j => ni_i (vs.getD j .null))
  else if ni_ak k = 1 then .inr (.inl (fun j => ni_l (vs.getD j .null)))
  else if ni_ak k = 2 then .inr (.inr (.inr (.inl (fun j => ni_d (vs.getD j .null)))))
  else .inr (.inr (.inr (.inr (fun j => ni_r w (vs.getD j .null))))))
def ni_e (w : ni_W) (c : ni_C) : va_E := if c.1 < 100 then .inr (c.1, c.2.map (ni_v w)) else .inl (w.2.2.1 (c.1 - 100), ni_ar w (c.1 - 100) c.2)
def ni_ws (w : ni_W) (L : List ni_C) : va_W := L.mapIdx (fun k c => (ni_B w + k, ni_e w c))
theorem ni_wsG {w : ni_W} {L : List ni_C} {k : Nat} {c : ni_C} (h : L[k]? = some c) : (ni_ws w L)[k]? = some (ni_B w + k, ni_e w c) := by
  simp [ni_ws, h]
theorem ni_wsG' {w : ni_W} {L : List ni_C} {k : Nat} {q : Nat × va_E} (h : (ni_ws w L)[k]? = some q) : ∃ c, L[k]? = some c ∧ q = (ni_B w + k, ni_e w c) := by
  simp only [ni_ws, List.getElem?_mapIdx] at h
  cases hc : L[k]? with
  | none => rw [hc] at h; cases h
  | some c => rw [hc] at h; exact ⟨c, rfl, (Option.some.inj h).symm⟩
theorem ni_wsS {w : ni_W} {L : List ni_C} {k : Nat} {c : ni_C} : (ni_ws w L).set k (ni_B w + k, ni_e w c) = ni_ws w (L.set k c) := by
  apply List.ext_getElem?
  intro i
  simp only [ni_ws, List.getElem?_set, List.getElem?_mapIdx, List.length_mapIdx]
  by_cases h : k = i
  · subst h
    by_cases hl : k < L.length <;> simp [hl]
  · simp [h]
theorem ni_wsA {w : ni_W} {L : List ni_C} {c : ni_C} : ni_ws w L ++ [(ni_B w + L.length, ni_e w c)] = ni_ws w (L ++ [c]) := by
  simp [ni_ws, List.mapIdx_append]
theorem ni_D {w : ni_W} {L : List ni_C} : va_D (fun q => ni_B w ≤ q) (ni_ws w L) := by
  refine ⟨fun i j p q hp hq h => ?_, fun k q hk => ?_⟩
  · obtain ⟨c1, -, rfl⟩ := ni_wsG' hp
    obtain ⟨c2, -, rfl⟩ := ni_wsG' hq
    have h : ni_B w + i = ni_B w + j := h
    omega
  · obtain ⟨c, -, rfl⟩ := ni_wsG' hk
    exact Nat.le_add_right _ _
def ni_tys (w : ni_W) : List (ClassId × FieldType) := ni_aks.mapIdx (fun k ty => (w.2.2.1 k, ty))
theorem ni_tyG {w : ni_W} {k : Nat} {ty : FieldType} (h : ni_aks[k]? = some ty) : (ni_tys w)[k]? = some (w.2.2.1 k, ty) := by
  simp [ni_tys, h]
/-- the heap holds the cells -/
def ni_At (w : ni_W) (M : ni_H) (H : Heap) : Prop := va_P (w.1, w.2.1) vwCl (ni_ws w M.1) H ∧ ni_B w + M.1.length ≤ H.size ∧ M.1.length ≤ ni_big
theorem ni_adI {w : ni_W} {M : ni_H} {H : Heap} (h : ni_At w M H) {a : Nat} {c : ni_C} (ha : M.1[a]? = some c) : ni_ad w a = ni_B w + a := by
  have h1 : a < M.1.length := (List.getElem?_eq_some_iff.mp ha).1
  have h2 := h.2.2
  simp only [ni_ad]
  rw [if_pos (by omega)]
/-! locals -/
def ni_kp (ls : List Value) (i : Nat) : List Value := match i with
  | 0 => ls
  | j + 1 => match ls[j]? with
    | some v => if v.category = 2 then ls.set j ni_J else ls
    | none => ls
def ni_st (ls : List Value) (i : Nat) (v : Value) : List Value := if v.category = 2 then ((ni_kp ls i).set i v).set (i + 1) ni_J else (ni_kp ls i).set i v
def ni_L (w : ni_W) (nL : Nat) (A : Array Slot) (ls : List Value) : Prop := A.size = nL ∧ lv_wf A ∧ ls.length ≤ nL ∧ ∀ (i : Nat) (v : Value), ls[i]? = some v → ni_ty v < 4 → A[i]? = some (.val (ni_v w v))
def ni_lv (w : ni_W) (ls : List Value) : List (Nat × Value) := (ls.mapIdx (fun i v => (i, v))).filterMap (fun q => if ni_ty q.2 < 4 then some (q.1, ni_v w q.2) else none)
theorem ni_lvM {w : ni_W} {ls : List Value} {q : Nat × Value} : q ∈ ni_lv w ls ↔ ∃ v, ls[q.1]? = some v ∧ ni_ty v < 4 ∧ q.2 = ni_v w v := by
  simp only [ni_lv, List.mem_filterMap]
  constructor
  · rintro ⟨⟨i, v⟩, h1, h2⟩
    obtain ⟨k, hk⟩ := List.getElem?_of_mem h1
    simp only [List.getElem?_mapIdx] at hk
    cases hv : ls[k]? with
    | none => rw [hv] at hk; cases hk
    | some u =>
      rw [hv] at hk
      cases hk
      by_cases ht : ni_ty v < 4
      · rw [if_pos ht] at h2
        cases h2
        exact ⟨v, hv, ht, rfl⟩
      · rw [if_neg ht] at h2
        cases h2
  · rintro ⟨v, h1, h2, h3⟩
    refine ⟨(q.1, v), ?_, ?_⟩
    · apply List.mem_of_getElem? (i := q.1)
      simp [h1]
    · rw [if_pos h2, ← h3]
theorem ni_Lh {w : ni_W} {nL : Nat} {A : Array Slot} {ls : List Value} (h : ni_L w nL A ls) : lv_has A nL (ni_lv w ls) := by
  refine ⟨h.1, h.2.1, fun q hq => ?_⟩
  obtain ⟨v, h1, h2, h3⟩ := ni_lvM.mp hq
  rw [h3]
  exact h.2.2.2 q.1 v h1 h2
theorem ni_cat (w : ni_W) (v : Value) : (ni_v w v).category = v.category := by cases v <;> rfl
theorem ni_tyv (w : ni_W) (v : Value) : ni_ty (ni_v w v) = ni_ty v := by cases v <;> rfl
theorem ni_kpG {ls : List Value} {i j : Nat} {v : Value} (h : (ni_kp ls i)[j]? = some v) (ht : ni_ty v < 4) : ls[j]? = some v ∧ ¬ (j + 1 = i ∧ v.category = 2) := by
  cases i with
  | zero => exact ⟨h, fun z => by omega⟩
  | succ k =>
    simp only [ni_kp] at h
    cases hk : ls[k]? with
    | none =>
      rw [hk] at h
      refine ⟨h, fun z => ?_⟩
      have e : j = k := by omega
      subst e
      rw [hk] at h
      cases h
    | some u =>
      rw [hk] at h
      dsimp only at h
      by_cases hc : u.category = 2
      · rw [if_pos hc] at h
        by_cases hj : k = j
        · subst hj
          rw [List.getElem?_set_self (List.getElem?_eq_some_iff.mp hk).1] at h
          cases h
          exact absurd ht (by decide)
        · rw [List.getElem?_set_ne hj] at h
          exact ⟨h, fun z => by omega⟩
      · rw [if_neg hc] at h
        refine ⟨h, fun z => ?_⟩
        have e : j = k := by omega
        subst e
        rw [hk] at h
        cases h
        exact hc z.2
theorem ni_kpL (ls : List Value) (i : Nat) : (ni_kp ls i).length = ls.length := by
  cases i with
  | zero => rfl
  | succ k =>
    simp only [ni_kp]
    cases ls[k]? with
    | none => rfl
    | some u =>
      dsimp only
      split <;> simp
theorem ni_stL (ls : List Value) (i : Nat) (v : Value) : (ni_st ls i v).length = ls.length := by
  simp only [ni_st]
  split <;> simp [ni_kpL]
theorem ni_st1 {w : ni_W} {nL : Nat} {A A' : Array Slot} {ls : List Value} {i : Nat} {v : Value} (h : ni_L w nL A ls) (hc : v.category = 1) (h' : lv_has A' nL ((i, ni_v w v) :: (ni_lv w ls).filter (fun q => !(q.1 == i) && !(q.1 + 1 == i && q.2.category == 2)))) : ni_L w nL A' (ni_st ls i v) := by
  refine ⟨h'.1, h'.2.1, by rw [ni_stL]; exact h.2.2.1, fun j u hj ht => ?_⟩
  have hc2 : ¬ v.category = 2 := by omega
  simp only [ni_st, if_neg hc2] at hj
  by_cases hi : i = j
  · subst hi
    have hl : i < (ni_kp ls i).length := by
      have := (List.getElem?_eq_some_iff.mp hj).1
      simpa using this
    rw [List.getElem?_set_self hl] at hj
    cases hj
    exact h'.2.2 (i, ni_v w v) List.mem_cons_self
  · rw [List.getElem?_set_ne hi] at hj
    obtain ⟨h1, h2⟩ := ni_kpG hj ht
    refine h'.2.2 (j, ni_v w u) (List.mem_cons_of_mem _ (List.mem_filter.mpr ⟨ni_lvM.mpr ⟨u, h1, ht, rfl⟩, ?_⟩))
    simp only [Bool.and_eq_true, Bool.not_eq_true', Bool.and_eq_false_imp, beq_eq_false_iff_ne, beq_iff_eq, ne_eq]
    refine ⟨fun z => hi z.symm, fun z => ?_⟩
    rw [ni_cat]
    exact fun y => h2 ⟨z, y⟩
theorem ni_st2 {w : ni_W} {nL : Nat} {A A' : Array Slot} {ls : List Value} {i : Nat} {v : Value} (h : ni_L w nL A ls) (hc : v.category = 2) (h' : lv_has A' nL ((i, ni_v w v) :: (ni_lv w ls).filter (fun q => !(q.1 == i) && (!(q.1 == i + 1) && !(q.1 + 1 == i && q.2.category == 2))))) : ni_L w nL A' (ni_st ls i v) := by
  refine ⟨h'.1, h'.2.1, by rw [ni_stL]; exact h.2.2.1, fun j u hj ht => ?_⟩
  simp only [ni_st, if_pos hc] at hj
  by_cases hi1 : i + 1 = j
  · subst hi1
    have hl : i + 1 < ((ni_kp ls i).set i v).length := by
      have := (List.getElem?_eq_some_iff.mp hj).1
      simpa using this
    rw [List.getElem?_set_self hl] at hj
    cases hj
    exact absurd ht (by decide)
  · rw [List.getElem?_set_ne hi1] at hj
    by_cases hi : i = j
    · subst hi
      have hl : i < (ni_kp ls i).length := by
        have := (List.getElem?_eq_some_iff.mp hj).1
        simpa using this
      rw [List.getElem?_set_self hl] at hj
      cases hj
      exact h'.2.2 (i, ni_v w v) List.mem_cons_self
    · rw [List.getElem?_set_ne hi] at hj
      obtain ⟨h1, h2⟩ := ni_kpG hj ht
      refine h'.2.2 (j, ni_v w u) (List.mem_cons_of_mem _ (List.mem_filter.mpr ⟨ni_lvM.mpr ⟨u, h1, ht, rfl⟩, ?_⟩))
      simp only [Bool.and_eq_true, Bool.not_eq_true', Bool.and_eq_false_imp, beq_eq_false_iff_ne, beq_iff_eq, ne_eq]
      refine ⟨fun z => hi z.symm, fun z => hi1 z.symm, fun z => ?_⟩
      rw [ni_cat]
      exact fun y => h2 ⟨z, y⟩
/-- the locals with which a method begins -/
def ni_en (vs : List Value) : List Value := vs.flatMap (fun v => if v.category = 2 then [v, ni_J] else [v])
theorem ni_enM {w : ni_W} : ∀ (vs : List Value) (i j : Nat) (v : Value), (ni_en vs)[j]? = some v → ni_ty v < 4 → (i + j, ni_v w v) ∈ lv_args i (vs.map (ni_v w)) := by
  intro vs
  induction vs with
  | nil => intro i j v h; simp [ni_en] at h
  | cons u us ih =>
    intro i j v h ht
    simp only [ni_en, List.flatMap_cons] at h
    simp only [List.map_cons, lv_args, ni_cat]
    by_cases hc : u.category = 2
    · rw [if_pos hc] at h
      rw [if_pos hc]
      match j, h with
      | 0, h =>
        simp at h
        subst h
        exact List.mem_cons_self
      | 1, h =>
        simp at h
        subst h
        exact absurd ht (by decide)
      | j + 2, h =>
        have h2 : (ni_en us)[j]? = some v := by simpa [ni_en] using h
        have := ih (i + 2) j v h2 ht
        rw [show i + (j + 2) = i + 2 + j by omega]
        exact List.mem_cons_of_mem _ this
    · rw [if_neg hc] at h
      rw [if_neg hc]
      match j, h with
      | 0, h =>
        simp at h
        subst h
        exact List.mem_cons_self
      | j + 1, h =>
        have h2 : (ni_en us)[j]? = some v := by simpa [ni_en] using h
        have := ih (i + 1) j v h2 ht
        rw [show i + (j + 1) = i + 1 + j by omega]
        exact List.mem_cons_of_mem _ this
theorem ni_enL {w : ni_W} (vs : List Value) : (lg_sl (vs.map (ni_v w))).length = (ni_en vs).length := by
  induction vs with
  | nil => rfl
  | cons u us ih =>
    simp only [lg_sl, ni_en, List.map_cons, List.flatMap_cons, List.length_append, ni_cat] at ih ⊢
    rw [ih]
    by_cases hc : u.category = 2 <;> simp [hc]
theorem ni_enE {w : ni_W} {vs : List Value} {n : Nat} (h : (ni_en vs).length ≤ n) : ni_L w n ((lg_sl (vs.map (ni_v w)) ++ List.replicate (n - (lg_sl (vs.map (ni_v w))).length) Slot.unset).toArray) (ni_en vs ++ List.replicate (n - (ni_en vs).length) ni_J) := by
  have h0 := lv_entry (vs.map (ni_v w)) (n := n) (by rw [ni_enL]; exact h)
  refine ⟨h0.1, h0.2.1, by simp; omega, fun i v hv ht => ?_⟩
  by_cases hi : i < (ni_en vs).length
  · rw [List.getElem?_append_left hi] at hv
    have := h0.2.2 _ (ni_enM (w := w) vs 0 i v hv ht)
    simpa using this
  · rw [List.getElem?_append_right (by omega)] at hv
    have := List.eq_of_mem_replicate (List.mem_of_getElem? hv)
    subst this
    exact absurd ht (by decide)
end NI
