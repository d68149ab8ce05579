/-! A CALL OVER A SMALL HEAP, CARRIED INTO A LARGER ONE: E tells where the small heap's cells lie; what is made goes to the end of both -/
section NF
def ni_sh (E : Nat → Nat) (v : Value) : Value := match v with
  | .ref a => if a < ni_big then .ref (E a) else .ref a
  | v => v
def ni_sc (E : Nat → Nat) (c : ni_C) : ni_C := (c.1, c.2.map (ni_sh E))
def ni_so (E : Nat → Nat) (o : Option Value ⊕ String) : Option Value ⊕ String := match o with
  | .inl v => .inl (v.map (ni_sh E))
  | .inr x => .inr x
/-- Z: places of the small heap that stand for cells nobody looks at -/
def ni_E0 (E : Nat → Nat) (Z : Nat → Prop) (n0 h0 : Nat) : Prop := (∀ a b, a < n0 → b < n0 → ¬ Z a → ¬ Z b → E a = E b → a = b) ∧ (∀ a, a < n0 → E a < h0) ∧ (∀ a, n0 ≤ a → E a = h0 + (a - n0)) ∧ (∀ a, Z a → a < n0)
def ni_Em (E : Nat → Nat) (Z : Nat → Prop) (n0 h0 : Nat) (M H : ni_H) : Prop := (∀ a c, M.1[a]? = some c → ¬ Z a → H.1[E a]? = some (ni_sc E c)) ∧ M.2 = H.2 ∧ n0 ≤ M.1.length ∧ H.1.length + n0 = h0 + M.1.length ∧ M.1.length ≤ ni_big ∧ (∀ a, Z a → M.1[a]? = some (99, []))
def ni_Ap (E : Nat → Nat) (Z : Nat → Prop) (n0 h0 : Nat) (H H1 : ni_H) : Prop := ∀ b, b < h0 → (∀ a, a < n0 → ¬ Z a → E a ≠ b) → H1.1[b]? = H.1[b]?
def ni_Fo (E : Nat → Nat) (Z : Nat → Prop) (n0 h0 : Nat) (H : ni_H) (o o' : ni_O) : Prop := o'.1 = ni_so E o.1 ∧ ni_Em E Z n0 h0 o.2 o'.2 ∧ ni_Ap E Z n0 h0 H o'.2
theorem ni_E0I {E : Nat → Nat} {Z : Nat → Prop} {n0 h0 : Nat} (h : ni_E0 E Z n0 h0) {a b : Nat} (za : ¬ Z a) (zb : ¬ Z b) (e : E a = E b) : a = b := by
  obtain ⟨h1, h2, h3, -⟩ := h
  by_cases ha : a < n0
  · by_cases hb : b < n0
    · exact h1 a b ha hb za zb e
    · have := h2 a ha
      have := h3 b (by omega)
      omega
  · by_cases hb : b < n0
    · have := h2 b hb
      have := h3 a (by omega)
      omega
    · have := h3 a (by omega)
      have := h3 b (by omega)
      omega
section F
variable {E : Nat → Nat} {Z : Nat → Prop} {n0 h0 : Nat}
theorem ni_shT (v : Value) : ni_ty (ni_sh E v) = ni_ty v := by
  cases v <;> try rfl
  simp only [ni_sh]
  split <;> rfl
theorem ni_shC (v : Value) : (ni_sh E v).category = v.category := by
  cases v <;> try rfl
  simp only [ni_sh]
  split <;> rfl
theorem ni_shF (ty : FieldType) (v : Value) : ni_fit ty (ni_sh E v) = ni_fit ty v := by
  cases v <;> try rfl
  simp only [ni_sh]
  split
  · cases ty <;> simp [ni_fitE, narrow, fits]
  · rfl
theorem ni_shR {a : Nat} (h : a < ni_big) : ni_sh E (.ref a) = .ref (E a) := if_pos h
theorem ni_shS (st : List Value) : ni_cs (st.map (ni_sh E)) = ni_cs st := by
  simp only [ni_cs, List.map_map]
  congr 1
  apply List.map_congr_left
  intro v _
  exact ni_shC v
theorem ni_shK (ls : List Value) (i : Nat) : ni_kp (ls.map (ni_sh E)) i = (ni_kp ls i).map (ni_sh E) := by
  cases i with
  | zero => rfl
  | succ j =>
    simp only [ni_kp, List.getElem?_map]
    cases hj : ls[j]? with
    | none => rfl
    | some v =>
      simp only [Option.map_some, ni_shC]
      split
      · rw [List.map_set]
        rfl
      · rfl
theorem ni_shW (ls : List Value) (i : Nat) (v : Value) : ni_st (ls.map (ni_sh E)) i (ni_sh E v) = (ni_st ls i v).map (ni_sh E) := by
  simp only [ni_st, ni_shC, ni_shK]
  split
  · rw [List.map_set, List.map_set]
    rfl
  · rw [List.map_set]
theorem ni_shE (as : List Value) : ni_en (as.map (ni_sh E)) = (ni_en as).map (ni_sh E) := by
  induction as with
  | nil => rfl
  | cons v t ih =>
    simp only [ni_en, List.map_cons, List.flatMap_cons, List.map_append, ni_shC] at ih ⊢
    rw [ih]
    split <;> rfl
theorem ni_shN (y : Nat) (as : List Value) : ni_ent y (as.map (ni_sh E)) = (ni_ent y as).map (ni_sh E) := by
  simp only [ni_ent, ni_shE, List.map_append, List.map_replicate, List.length_map]
  rfl
theorem ni_EmG {M H : ni_H} (h : ni_Em E Z n0 h0 M H) {a : Nat} {c : ni_C} (ha : M.1[a]? = some c) (hc : c ≠ (99, [])) : a < ni_big ∧ H.1[E a]? = some (ni_sc E c) := by
  have h1 := (List.getElem?_eq_some_iff.mp ha).1
  refine ⟨by have := h.2.2.2.2.1; omega, h.1 a c ha fun z => hc ?_⟩
  have := h.2.2.2.2.2 a z
  rw [ha] at this
  exact Option.some.inj this
theorem ni_EmS (hE : ni_E0 E Z n0 h0) {M H : ni_H} (h : ni_Em E Z n0 h0 M H) {a : Nat} {c0 : ni_C} (ha : M.1[a]? = some c0) (hc : c0 ≠ (99, [])) (c : ni_C) : ni_Em E Z n0 h0 (M.1.set a c, M.2) (H.1.set (E a) (ni_sc E c), H.2) ∧ ni_Ap E Z n0 h0 H (H.1.set (E a) (ni_sc E c), H.2) := by
  have za : ¬ Z a := by
    intro z
    have := h.2.2.2.2.2 a z
    rw [ha] at this
    exact hc (Option.some.inj this)
  have hl := (List.getElem?_eq_some_iff.mp (h.1 a c0 ha za)).1
  refine ⟨⟨fun b d hb zb => ?_, h.2.1, by simpa using h.2.2.1, by simpa using h.2.2.2.1, by simpa using h.2.2.2.2.1, fun b zb => ?_⟩, fun b hb hn => ?_⟩
  · simp only [List.getElem?_set] at hb ⊢
    by_cases hab : a = b
    · subst hab
      have hl2 := (List.getElem?_eq_some_iff.mp ha).1
      rw [if_pos rfl, if_pos hl2] at hb
      rw [if_pos rfl, if_pos hl]
      cases hb
      rfl
    · rw [if_neg hab] at hb
      rw [if_neg (fun z => hab (ni_E0I hE za zb z))]
      exact h.1 b d hb zb
  · have hab : ¬ a = b := fun z => za (z ▸ zb)
    simp only [List.getElem?_set]
    rw [if_neg hab]
    exact h.2.2.2.2.2 b zb
  · simp only [List.getElem?_set]
    rw [if_neg]
    intro z
    by_cases han : a < n0
    · exact hn a han za z
    · have := hE.2.2.1 a (by omega)
      omega
theorem ni_EmA (hE : ni_E0 E Z n0 h0) {M H : ni_H} (h : ni_Em E Z n0 h0 M H) (hb : M.1.length < ni_big) (c : ni_C) : E M.1.length = H.1.length ∧ ni_Em E Z n0 h0 (M.1 ++ [c], M.2) (H.1 ++ [ni_sc E c], H.2) ∧ ni_Ap E Z n0 h0 H (H.1 ++ [ni_sc E c], H.2) := by
  obtain ⟨h1, h2, h3, h4, h5, h6⟩ := h
  have e : E M.1.length = H.1.length := by
    have := hE.2.2.1 M.1.length h3
    omega
  refine ⟨e, ⟨fun b d hb zb => ?_, h2, by simp; omega, by simp; omega, by simp; omega, fun b zb => ?_⟩, fun b hb hn => ?_⟩
  · by_cases hbl : b < M.1.length
    · rw [List.getElem?_append_left hbl] at hb
      have := h1 b d hb zb
      rw [List.getElem?_append_left (List.getElem?_eq_some_iff.mp this).1]
      exact this
    · have hl := (List.getElem?_eq_some_iff.mp hb).1
      simp only [List.length_append, List.length_singleton] at hl
      have hbe : b = M.1.length := by omega
      subst hbe
      rw [List.getElem?_append_right (Nat.le_refl _), Nat.sub_self] at hb
      rw [e, List.getElem?_append_right (Nat.le_refl _), Nat.sub_self]
      cases hb
      rfl
  · have := h6 b zb
    rw [List.getElem?_append_left (List.getElem?_eq_some_iff.mp this).1]
    exact this
  · rw [List.getElem?_append_left (by omega)]
theorem ni_FoT {H H1 : ni_H} {o o' : ni_O} (h : ni_Ap E Z n0 h0 H H1) (k : ni_Fo E Z n0 h0 H1 o o') : ni_Fo E Z n0 h0 H o o' := ⟨k.1, k.2.1, fun b hb hn => (k.2.2 b hb hn).trans (h b hb hn)⟩
end F
def ni_Fr (sem : ni_S) : Prop := ∀ {E : Nat → Nat} {Z : Nat → Prop} {n0 h0 : Nat}, ni_E0 E Z n0 h0 → ∀ (call call' : ni_F) (next next' : ni_K) (o : ni_O), h0 + ni_zc o.2 ≤ ni_big →
  (∀ (y : Nat) (as : List Value) (M H : ni_H) (o1 : ni_O), h0 + ni_zc o1.2 ≤ ni_big → ni_Em E Z n0 h0 M H → call y as M = some o1 → ∃ o', call' y (as.map (ni_sh E)) H = some o' ∧ ni_Fo E Z n0 h0 H o1 o') →
  (∀ (q : Nat) (ls st : List Value) (M H : ni_H), ni_Em E Z n0 h0 M H → next q ls st M = some o → ∃ o', next' q (ls.map (ni_sh E)) (st.map (ni_sh E)) H = some o' ∧ ni_Fo E Z n0 h0 H o o') →
  (∀ (q : Nat) (ls st : List Value) (M : ni_H), next q ls st M = some o → ni_le M o.2) →
  ∀ (ls st : List Value) (M H : ni_H), ni_Em E Z n0 h0 M H → sem call next ls st M = some o → ∃ o', sem call' next' (ls.map (ni_sh E)) (st.map (ni_sh E)) H = some o' ∧ ni_Fo E Z n0 h0 H o o'
/-- a row of the stack that treats references alike -/
def ni_Eq (g : List Value → Option (Nat × List Value)) : Prop := ∀ (E : Nat → Nat) (st : List Value) (q : Nat) (st' : List Value), g st = some (q, st') → g (st.map (ni_sh E)) = some (q, st'.map (ni_sh E))
theorem ni_frP {g : List Value → Option (Nat × List Value)} (hg : ni_Eq g) : ni_Fr (ni_sP g) := by
  intro E Z n0 h0 hE call call' next next' o hb hc hn hm ls st M H hM hs
  unfold ni_sP at hs ⊢
  cases h : g st with
  | none => rw [h] at hs; cases hs
  | some r =>
    rw [h] at hs
    rw [hg E st r.1 r.2 h]
    exact hn _ _ _ _ _ hM hs
theorem ni_eqPush {v : Value} {q : Nat} (hv : ∀ E, ni_sh E v = v) : ni_Eq (ni_gPush v q) := by
  intro E st q' st' h
  cases h
  simp [ni_gPush, hv]
theorem ni_eqI {f : Int32 → Int32 → Int32} {q : Nat} : ni_Eq (ni_gI f q) := by
  intro E st q' st' h
  unfold ni_gI at h
  (repeat' split at h) <;> first | (cases h; done) | (cases h; simp [ni_gI, ni_sh, ni_shS, *]; done) | (cases h; simp_all [ni_gI, ni_sh, ni_shS]; done)
theorem ni_eqI0 {f : Int32 → Int32 → Int32} {q : Nat} : ni_Eq (ni_gI0 f q) := by
  intro E st q' st' h
  unfold ni_gI0 at h
  (repeat' split at h) <;> first | (cases h; done) | (cases h; simp [ni_gI0, ni_sh, ni_shS, *]; done) | (cases h; simp_all [ni_gI0, ni_sh, ni_shS]; done)
theorem ni_eqIM {f : Int32 → Int32 → Int32} {q : Nat} : ni_Eq (ni_gIM f q) := by
  intro E st q' st' h
  unfold ni_gIM at h
  (repeat' split at h) <;> first | (cases h; done) | (cases h; simp [ni_gIM, ni_sh, ni_shS, *]; done) | (cases h; simp_all [ni_gIM, ni_sh, ni_shS]; done)
theorem ni_eqIf {f : Int32 → Bool} {t q : Nat} : ni_Eq (ni_gIf f t q) := by
  intro E st q' st' h
  unfold ni_gIf at h
  (repeat' split at h) <;> first | (cases h; done) | (cases h; simp [ni_gIf, ni_sh, ni_shS, *]; done) | (cases h; simp_all [ni_gIf, ni_sh, ni_shS]; done)
theorem ni_eqIc {f : Int32 → Int32 → Bool} {t q : Nat} : ni_Eq (ni_gIc f t q) := by
  intro E st q' st' h
  unfold ni_gIc at h
  (repeat' split at h) <;> first | (cases h; done) | (cases h; simp [ni_gIc, ni_sh, ni_shS, *]; done) | (cases h; simp_all [ni_gIc, ni_sh, ni_shS]; done)
theorem ni_eqSw {f : Int32 → Nat} : ni_Eq (ni_gSw f) := by
  intro E st q' st' h
  unfold ni_gSw at h
  (repeat' split at h) <;> first | (cases h; done) | (cases h; simp [ni_gSw, ni_sh, ni_shS, *]; done) | (cases h; simp_all [ni_gSw, ni_sh, ni_shS]; done)
theorem ni_eqDv {q : Nat} : ni_Eq (ni_gDv q) := by
  intro E st q' st' h
  unfold ni_gDv at h
  (repeat' split at h) <;> first | (cases h; done) | (cases h; simp [ni_gDv, ni_sh, ni_shS, *]; done) | (cases h; simp_all [ni_gDv, ni_sh, ni_shS]; done)
theorem ni_eqJ {f : Int64 → Int64 → Value} {q : Nat} (hf : ∀ E x y, ni_sh E (f x y) = f x y) : ni_Eq (ni_gJ f q) := by
  intro E st q' st' h
  unfold ni_gJ at h
  split at h
  · cases h
    simp [ni_gJ, ni_sh] at *
    exact (hf _ _ _).symm
  · cases h
theorem ni_eqU {f : Int32 → Value} {q : Nat} (hf : ∀ E x, ni_sh E (f x) = f x) : ni_Eq (ni_gU f q) := by
  intro E st q' st' h
  unfold ni_gU at h
  split at h
  · cases h
    simp [ni_gU, ni_sh] at *
    exact (hf _ _).symm
  · cases h
theorem ni_eqUL {f : Int64 → Value} {q : Nat} (hf : ∀ E x, ni_sh E (f x) = f x) : ni_Eq (ni_gUL f q) := by
  intro E st q' st' h
  unfold ni_gUL at h
  split at h
  · cases h
    simp [ni_gUL, ni_sh] at *
    exact (hf _ _).symm
  · cases h
theorem ni_eqD {f : UInt64 → UInt64 → Value} {q : Nat} (hf : ∀ E x y, ni_sh E (f x y) = f x y) : ni_Eq (ni_gD f q) := by
  intro E st q' st' h
  unfold ni_gD at h
  split at h
  · cases h
    simp [ni_gD, ni_sh] at *
    exact (hf _ _ _).symm
  · cases h
theorem ni_eqGo {q : Nat} : ni_Eq (ni_gGo q) := by
  intro E st q' st' h
  cases h
  rfl
theorem ni_eqN {t q : Nat} : ni_Eq (ni_gN t q) := by
  intro E st q' st' h
  unfold ni_gN at h
  split at h
  · cases h
    rfl
  · cases h
    simp only [List.map_cons, ni_sh]
    split <;> rfl
  · cases h
theorem ni_eqDup {q : Nat} : ni_Eq (ni_gDup q) := by
  intro E st q' st' h
  unfold ni_gDup at h
  split at h
  · split at h
    next hc =>
      cases h
      simp only [List.map_cons, ni_gDup, ni_shC, hc, if_true]
    next => cases h
  · cases h
theorem ni_eqDup2 {q : Nat} : ni_Eq (ni_gDup2 q) := by
  intro E st q' st' h
  unfold ni_gDup2 at h
  split at h
  · split at h
    next hc =>
      cases h
      simp only [List.map_cons, ni_gDup2, ni_shC, hc, and_self, if_true]
    next => cases h
  · cases h
theorem ni_eqDupx {q : Nat} : ni_Eq (ni_gDupx q) := by
  intro E st q' st' h
  unfold ni_gDupx at h
  split at h
  · split at h
    next hc =>
      cases h
      simp only [List.map_cons, ni_gDupx, ni_shC, hc, and_self, if_true]
    next => cases h
  · cases h
theorem ni_eqPop {q : Nat} : ni_Eq (ni_gPop q) := by
  intro E st q' st' h
  unfold ni_gPop at h
  split at h
  · split at h
    next hc =>
      cases h
      simp only [List.map_cons, ni_gPop, ni_shC, hc, if_true]
    next => cases h
  · cases h
theorem ni_eqObj {q : Nat} : ni_Eq (ni_gObj q) := by
  intro E st q' st' h
  unfold ni_gObj at h
  split at h
  next a r =>
    split at h
    next hc =>
      cases h
      simp only [List.map_cons, ni_sh]
      split <;> simp only [ni_gObj, ni_shS, hc, if_true]
    next => cases h
  · cases h
theorem ni_eqAc {q : Nat} : ni_Eq (ni_gAc q) := by
  intro E st q' st' h
  unfold ni_gAc at h
  split at h
  · split at h
    next hc =>
      subst hc
      cases h
      simp only [List.map_cons, ni_sh]
      split <;> simp only [ni_gAc, if_true]
    next => cases h
  · cases h
end NF
