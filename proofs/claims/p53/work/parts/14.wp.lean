/-! WALKS BY WEAKEST CONDITIONS: a method's answer, whole numbers as Int -/
section NWP
variable {xs : List Int32}
/-- the walk from here ends so (no throw) -/
def wp_G (xs : List Int32) (d y pc : Nat) (ls st : List Value) (M : ni_H) (Q : Option Value → ni_H → Prop) : Prop := ∃ v M', ni_G xs d y pc ls st M (.inl v, M') ∧ Q v M'
/-- a call ends so -/
def wp_C (xs : List Int32) (d y : Nat) (as : List Value) (M : ni_H) (Q : Option Value → ni_H → Prop) : Prop := ∃ v M', ni_R xs d y as M (.inl v, M') ∧ Q v M'
/-- a whole number as a value -/
abbrev ni_z (x : Int) : Value := .int (Int32.ofInt x)
abbrev ni_R32 (x : Int) : Prop := -2147483648 ≤ x ∧ x ≤ 2147483647
theorem wp_enter {d y : Nat} {as ls : List Value} {M : ni_H} {Q : Option Value → ni_H → Prop} (hen : (ni_en as).length ≤ (ni_ms y).2.2.1) (hls : ni_ent y as = ls) (h : wp_G xs d y 0 ls [] M Q) : wp_C xs (d + 1) y as M Q := by
  obtain ⟨v, M', h1, h2⟩ := h
  exact ⟨v, M', ni_enter hen hls h1, h2⟩
theorem wp_up {d d' y : Nat} {as : List Value} {M : ni_H} {Q : Option Value → ni_H → Prop} (h : wp_C xs d y as M Q) (hd : d ≤ d') : wp_C xs d' y as M Q := by
  obtain ⟨v, M', h1, h2⟩ := h
  exact ⟨v, M', ni_Rup h1 hd, h2⟩
theorem wp_mono {d y : Nat} {as : List Value} {M : ni_H} {Q Q' : Option Value → ni_H → Prop} (h : wp_C xs d y as M Q) (hq : ∀ v M', Q v M' → Q' v M') : wp_C xs d y as M Q' := by
  obtain ⟨v, M', h1, h2⟩ := h
  exact ⟨v, M', h1, hq v M' h2⟩
/-- M' is M with another cell at a -/
def wp_wr (M : ni_H) (a : Nat) (c : ni_C) (M' : ni_H) : Prop := M'.1[a]? = some c ∧ (∀ b, b ≠ a → M'.1[b]? = M.1[b]?) ∧ M'.1.length = M.1.length ∧ M'.2 = M.2
theorem wp_wrS {M : ni_H} {a : Nat} {c0 c : ni_C} (h : M.1[a]? = some c0) : wp_wr M a c (M.1.set a c, M.2) := by
  have hl := (List.getElem?_eq_some_iff.mp h).1
  refine ⟨by simp [hl], fun b hb => ?_, by simp, rfl⟩
  exact List.getElem?_set_ne (fun z => hb z.symm)
section X
variable {d y pc q : Nat} {ls st : List Value} {M : ni_H} {Q : Option Value → ni_H → Prop}
theorem wp_P {g : List Value → Option (Nat × List Value)} {st' : List Value} (hp : ni_prog xs y pc = ni_sP g) (hg : g st = some (q, st')) (k : wp_G xs d y q ls st' M Q) : wp_G xs d y pc ls st M Q := by
  obtain ⟨v, M', h1, h2⟩ := k
  exact ⟨v, M', ni_xP hp hg h1, h2⟩
theorem wp_If {f : Int32 → Bool} {t e : Nat} {x : Int32} (b : Bool) (hp : ni_prog xs y pc = ni_sP (ni_gIf f t e)) (hf : f x = b) (k : wp_G xs d y (cond b t e) ls st M Q) : wp_G xs d y pc ls (.int x :: st) M Q := by
  refine wp_P hp (q := cond b t e) ?_ k
  show some (if f x = true then t else e, st) = _
  rw [hf]
  cases b <;> rfl
theorem wp_Ic {f : Int32 → Int32 → Bool} {t e : Nat} {x z : Int32} (b : Bool) (hp : ni_prog xs y pc = ni_sP (ni_gIc f t e)) (hf : f x z = b) (k : wp_G xs d y (cond b t e) ls st M Q) : wp_G xs d y pc ls (.int z :: .int x :: st) M Q := by
  refine wp_P hp (q := cond b t e) ?_ k
  show some (if f x z = true then t else e, st) = _
  rw [hf]
  cases b <;> rfl
theorem wp_Ld {t i : Nat} {v : Value} (hp : ni_prog xs y pc = ni_sLd t i q) (hl : ls[i]? = some v) (ht : ni_ty v = t) (k : wp_G xs d y q ls (v :: st) M Q) : wp_G xs d y pc ls st M Q := by
  obtain ⟨u, M', h1, h2⟩ := k
  exact ⟨u, M', ni_xLd hp hl ht h1, h2⟩
theorem wp_St {t i : Nat} {v : Value} {ls' : List Value} (hp : ni_prog xs y pc = ni_sSt t i q) (ht : ni_ty v = t) (hs : ni_st ls i v = ls') (k : wp_G xs d y q ls' st M Q) : wp_G xs d y pc ls (v :: st) M Q := by
  obtain ⟨u, M', h1, h2⟩ := k
  exact ⟨u, M', ni_xSt hp ht hs h1, h2⟩
theorem wp_Inc {i : Nat} {c x : Int32} {x' : Int} {ls' : List Value} (hp : ni_prog xs y pc = ni_sInc i c q) (hl : ls[i]? = some (.int x)) (hx : x + c = Int32.ofInt x') (hs : ni_st ls i (ni_z x') = ls') (k : wp_G xs d y q ls' st M Q) : wp_G xs d y pc ls st M Q := by
  obtain ⟨u, M', h1, h2⟩ := k
  exact ⟨u, M', ni_xInc hp hl (by rw [hx]; exact hs) h1, h2⟩
theorem wp_Get {ci kk a : Nat} {vs : List Value} {v : Value} (hp : ni_prog xs y pc = ni_sGet ci kk q) (ha : M.1[a]? = some (ci, vs)) (hv : vs[kk]? = some v) (k : wp_G xs d y q ls (v :: st) M Q) : wp_G xs d y pc ls (.ref a :: st) M Q := by
  obtain ⟨u, M', h1, h2⟩ := k
  exact ⟨u, M', ni_xGet hp ha hv h1, h2⟩
theorem wp_Put {ci kk a : Nat} {ty : FieldType} {vs vs' : List Value} {v : Value} (hp : ni_prog xs y pc = ni_sPut ci kk ty q) (ha : M.1[a]? = some (ci, vs)) (hk : kk < vs.length) (hf : ni_fit ty v = true) (hv : vs.set kk v = vs') (k : ∀ M', wp_wr M a (ci, vs') M' → wp_G xs d y q ls st M' Q) : wp_G xs d y pc ls (v :: .ref a :: st) M Q := by
  subst hv
  obtain ⟨u, M', h1, h2⟩ := k _ (wp_wrS ha)
  exact ⟨u, M', ni_xPut hp ha hk hf rfl h1, h2⟩
theorem wp_Len {a t : Nat} {vs : List Value} {x : Int32} (hp : ni_prog xs y pc = ni_sLen q) (ha : M.1[a]? = some (t, vs)) (ht : 100 ≤ t ∧ t - 100 < ni_aks.length) (hx : Int32.ofNat vs.length = x) (k : wp_G xs d y q ls (.int x :: st) M Q) : wp_G xs d y pc ls (.ref a :: st) M Q := by
  obtain ⟨u, M', h1, h2⟩ := k
  exact ⟨u, M', ni_xLen hp ha ht hx h1, h2⟩
theorem wp_Ald {ty : FieldType} {tv a t : Nat} {i : Int32} {vs : List Value} {v : Value} (hp : ni_prog xs y pc = ni_sAld ty tv q) (ha : M.1[a]? = some (t, vs)) (ht : 100 ≤ t ∧ ni_aks[t - 100]? = some ty ∧ ¬ i < 0) (hv : vs[i.toNatClampNeg]? = some v) (hy : ni_ty v = tv) (k : wp_G xs d y q ls (v :: st) M Q) : wp_G xs d y pc ls (.int i :: .ref a :: st) M Q := by
  obtain ⟨u, M', h1, h2⟩ := k
  exact ⟨u, M', ni_xAld hp ha ht hv hy h1, h2⟩
theorem wp_Ast {ty : FieldType} {tv a t : Nat} {i : Int32} {vs vs' : List Value} {v : Value} (hp : ni_prog xs y pc = ni_sAst ty tv q) (ha : M.1[a]? = some (t, vs)) (ht : 100 ≤ t ∧ ni_aks[t - 100]? = some ty ∧ ¬ i < 0 ∧ i.toNatClampNeg < vs.length ∧ ni_ty v = tv ∧ ni_fit ty v = true) (hv : vs.set i.toNatClampNeg v = vs') (k : ∀ M', wp_wr M a (t, vs') M' → wp_G xs d y q ls st M' Q) : wp_G xs d y pc ls (v :: .int i :: .ref a :: st) M Q := by
  subst hv
  obtain ⟨u, M', h1, h2⟩ := k _ (wp_wrS ha)
  exact ⟨u, M', ni_xAst hp ha ht rfl h1, h2⟩
theorem wp_R {rt : Option FieldType} {v : Value} (hp : ni_prog xs y pc = ni_sR rt) (hk : ni_rok rt (some v) = true) (h : Q (some v) M) : wp_G xs d y pc ls [v] M Q := ⟨some v, M, ni_xR hp hk, h⟩
theorem wp_Rv {rt : Option FieldType} (hp : ni_prog xs y pc = ni_sR rt) (hk : ni_rok rt none = true) (h : Q none M) : wp_G xs d y pc ls [] M Q := ⟨none, M, ni_xRv hp hk, h⟩
theorem wp_V {y' nn ci a : Nat} {vs r as : List Value} {Q1 : Option Value → ni_H → Prop} (hp : ni_prog xs y pc = ni_sV y' nn ci q) (hd : st.drop nn = .ref a :: r) (ht : (st.take nn).reverse = as) (ha : M.1[a]? = some (ci, vs)) (hc : ni_cs r ≤ 8) (hr : wp_C xs d y' (.ref a :: as) M Q1) (k : ∀ v M', Q1 v M' → wp_G xs d y q ls (v.toList ++ r) M' Q) : wp_G xs d y pc ls st M Q := by
  obtain ⟨v, M1, h1, h2⟩ := hr
  obtain ⟨u, M2, h3, h4⟩ := k v M1 h2
  exact ⟨u, M2, ni_xV hp hd ht ha hc h1 h3, h4⟩
theorem wp_S {y' nn : Nat} {r as : List Value} {Q1 : Option Value → ni_H → Prop} (hp : ni_prog xs y pc = ni_sC y' nn q) (hl : nn ≤ st.length) (hd : st.drop nn = r) (ht : (st.take nn).reverse = as) (hc : ni_cs r ≤ 8) (hr : wp_C xs d y' as M Q1) (k : ∀ v M', Q1 v M' → wp_G xs d y q ls (v.toList ++ r) M' Q) : wp_G xs d y pc ls st M Q := by
  obtain ⟨v, M1, h1, h2⟩ := hr
  obtain ⟨u, M2, h3, h4⟩ := k v M1 h2
  exact ⟨u, M2, ni_xC hp hl hd ht hc h1 h3, h4⟩
end X
/-! whole numbers -/
theorem ni_toZ {x : Int} (h : ni_R32 x) : (Int32.ofInt x).toInt = x := Int32.toInt_ofInt_of_le (by omega) (by omega)
theorem ni_ltZ {x y : Int} (hx : ni_R32 x) (hy : ni_R32 y) : (Int32.ofInt x < Int32.ofInt y) ↔ x < y := by
  rw [Int32.lt_iff_toInt_lt, ni_toZ hx, ni_toZ hy]
theorem ni_leZ {x y : Int} (hx : ni_R32 x) (hy : ni_R32 y) : (Int32.ofInt x ≤ Int32.ofInt y) ↔ x ≤ y := by
  rw [Int32.le_iff_toInt_le, ni_toZ hx, ni_toZ hy]
theorem ni_eqZ {x y : Int} (hx : ni_R32 x) (hy : ni_R32 y) : (Int32.ofInt x = Int32.ofInt y) ↔ x = y := by
  rw [← Int32.toInt_inj, ni_toZ hx, ni_toZ hy]
theorem ni_clZ {x : Int} (h : 0 ≤ x ∧ x ≤ 2147483647) : ¬ Int32.ofInt x < 0 ∧ (Int32.ofInt x).toNatClampNeg = x.toNat := by
  have h1 : (Int32.ofInt x).toInt = x := ni_toZ (by omega)
  refine ⟨fun z => ?_, ?_⟩
  · have h2 := Int32.lt_iff_toInt_lt.mp z
    rw [h1] at h2
    have h3 : (0 : Int32).toInt = 0 := by decide
    omega
  · show (Int32.ofInt x).toInt.toNat = x.toNat
    rw [h1]
theorem wp_add {x y : Int} {q : Nat} {r : List Value} : ni_gI (fun x y => x + y) q (ni_z y :: ni_z x :: r) = some (q, ni_z (x + y) :: r) := by
  simp [ni_gI, Int32.ofInt_add]
theorem wp_sub {x y : Int} {q : Nat} {r : List Value} : ni_gI (fun x y => x - y) q (ni_z y :: ni_z x :: r) = some (q, ni_z (x - y) :: r) := by
  simp [ni_gI, Int32.ofInt_sub]
theorem wp_mul {x y : Int} {q : Nat} {r : List Value} : ni_gI (fun x y => x * y) q (ni_z y :: ni_z x :: r) = some (q, ni_z (x * y) :: r) := by
  simp [ni_gI, Int32.ofInt_mul]
theorem wp_push {c : Int32} {z : Int} {q : Nat} {st : List Value} (h : c = Int32.ofInt z) : ni_gPush (.int c) q st = some (q, ni_z z :: st) := by
  rw [h]
  rfl
end NWP
