theorem ni_msLen : ni_msL.length = 159 := by decide +kernel
section NV
variable {xs : List Int32}
/-- the rows by their counter -/
def ni_look (l : List (Nat × ni_S)) (pc : Nat) : ni_S := match l with
  | [] => ni_s0
  | r :: t => cond (Nat.beq r.1 pc) r.2 (ni_look t pc)
theorem ni_lookOk {Y : MethodName} {cc : ByteArray} {nL : Nat} {rt : Option FieldType} {hh : List (Nat × Nat × Nat × Nat)} {l : List (Nat × ni_S)} (h : ∀ r ∈ l, ni_Ok xs Y cc nL rt hh r.1 r.2 ∧ ni_MU r.2) (pc : Nat) : ni_Ok xs Y cc nL rt hh pc (ni_look l pc) ∧ ni_MU (ni_look l pc) := by
  induction l with
  | nil => exact ⟨ni_ok0, ni_mu0⟩
  | cons r t ih =>
    show ni_Ok xs Y cc nL rt hh pc (cond (Nat.beq r.1 pc) r.2 (ni_look t pc)) ∧ ni_MU (cond (Nat.beq r.1 pc) r.2 (ni_look t pc))
    cases hb : Nat.beq r.1 pc with
    | true =>
      have e : r.1 = pc := Nat.eq_of_beq_eq_true hb
      have := h r List.mem_cons_self
      rw [e] at this
      exact this
    | false => exact ih (fun r hr => h r (List.mem_cons_of_mem _ hr))
def ni_prog (xs : List Int32) (y pc : Nat) : ni_S := ni_look ((ni_prL xs).getD y []) pc
theorem ni_progOk (xs : List Int32) (y pc : Nat) : ni_Ok xs (ni_ms y).1 (ni_ms y).2.1 (ni_ms y).2.2.1 (ni_ms y).2.2.2.1 (ni_ms y).2.2.2.2 pc (ni_prog xs y pc) ∧ ni_MU (ni_prog xs y pc) := ni_lookOk (ni_all xs y) pc
theorem ni_plainP (y : Nat) : plainFor (ni_ms y).1 = true ∨ ∀ pc, ni_prog xs y pc = ni_s0 := by
  by_cases h : y < ni_msL.length
  · exact Or.inl (ni_plain y (by rw [← ni_msLen]; exact h))
  · refine Or.inr fun pc => ?_
    unfold ni_prog
    rw [ni_far xs y (by rw [← ni_msLen]; omega)]
    rfl
/-- the walk from here ends so -/
def ni_G (xs : List Int32) (d y pc : Nat) (ls st : List Value) (M : ni_H) (o : ni_O) : Prop := ∃ n, ni_ex (ni_prog xs) n d y pc ls st M = some o
/-- a call ends so -/
def ni_R (xs : List Int32) (d y : Nat) (as : List Value) (M : ni_H) (o : ni_O) : Prop := ∃ n, ni_cl (ni_ex (ni_prog xs) n) d y as M = some o
theorem ni_up (y pc : Nat) : ni_Up (ni_prog xs y pc) := (ni_progOk xs y pc).2.2.1
theorem ni_fr (y pc : Nat) : ni_Fr (ni_prog xs y pc) := (ni_progOk xs y pc).2.2.2
theorem ni_mo (y pc : Nat) : ni_Mo (ni_prog xs y pc) := (ni_progOk xs y pc).2.1
theorem ni_Rup {d d' y : Nat} {as : List Value} {M : ni_H} {o : ni_O} (h : ni_R xs d y as M o) (hd : d ≤ d') : ni_R xs d' y as M o := h.elim fun n h => ⟨n, ni_clUp ni_up (Nat.le_refl n) hd h⟩
theorem ni_Xup {d d' y pc : Nat} {ls st : List Value} {M : ni_H} {o : ni_O} (h : ni_G xs d y pc ls st M o) (hd : d ≤ d') : ni_G xs d' y pc ls st M o := h.elim fun n h => ⟨n, ni_exUp ni_up n n d d' (Nat.le_refl n) hd _ _ _ _ _ _ h⟩
/-- a method's walk, from its entry -/
theorem ni_enter {d y : Nat} {as : List Value} {M : ni_H} {o : ni_O} (hen : (ni_en as).length ≤ (ni_ms y).2.2.1) {ls : List Value} (hls : ni_ent y as = ls) (h : ni_G xs d y 0 ls [] M o) : ni_R xs (d + 1) y as M o := by
  obtain ⟨n, h⟩ := h
  refine ⟨n, ?_⟩
  unfold ni_cl
  dsimp only
  rw [if_pos hen, hls]
  exact h
section X
variable {d y pc q : Nat} {ls st : List Value} {M : ni_H} {o : ni_O}
theorem ni_xP {g : List Value → Option (Nat × List Value)} {st' : List Value} (hp : ni_prog xs y pc = ni_sP g) (hg : g st = some (q, st')) (k : ni_G xs d y q ls st' M o) : ni_G xs d y pc ls st M o := by
  obtain ⟨n, h⟩ := k
  refine ⟨n + 1, ?_⟩
  rw [ni_exS, hp]
  unfold ni_sP
  rw [hg]
  exact h
theorem ni_xLd {t i : Nat} {v : Value} (hp : ni_prog xs y pc = ni_sLd t i q) (hl : ls[i]? = some v) (ht : ni_ty v = t) (k : ni_G xs d y q ls (v :: st) M o) : ni_G xs d y pc ls st M o := by
  obtain ⟨n, h⟩ := k
  refine ⟨n + 1, ?_⟩
  rw [ni_exS, hp]
  unfold ni_sLd
  rw [hl]
  dsimp only
  rw [if_pos ht]
  exact h
theorem ni_xSt {t i : Nat} {v : Value} {ls' : List Value} (hp : ni_prog xs y pc = ni_sSt t i q) (ht : ni_ty v = t) (hs : ni_st ls i v = ls') (k : ni_G xs d y q ls' st M o) : ni_G xs d y pc ls (v :: st) M o := by
  obtain ⟨n, h⟩ := k
  refine ⟨n + 1, ?_⟩
  rw [ni_exS, hp]
  unfold ni_sSt
  dsimp only
  rw [if_pos ht, hs]
  exact h
theorem ni_xInc {i : Nat} {c x : Int32} {ls' : List Value} (hp : ni_prog xs y pc = ni_sInc i c q) (hl : ls[i]? = some (.int x)) (hs : ni_st ls i (.int (x + c)) = ls') (k : ni_G xs d y q ls' st M o) : ni_G xs d y pc ls st M o := by
  obtain ⟨n, h⟩ := k
  refine ⟨n + 1, ?_⟩
  rw [ni_exS, hp]
  unfold ni_sInc
  rw [hl]
  dsimp only
  rw [hs]
  exact h
theorem ni_xGet {ci kk a : Nat} {vs : List Value} {v : Value} (hp : ni_prog xs y pc = ni_sGet ci kk q) (ha : M.1[a]? = some (ci, vs)) (hv : vs[kk]? = some v) (k : ni_G xs d y q ls (v :: st) M o) : ni_G xs d y pc ls (.ref a :: st) M o := by
  obtain ⟨n, h⟩ := k
  refine ⟨n + 1, ?_⟩
  rw [ni_exS, hp]
  unfold ni_sGet
  simp only [ha, hv, if_true]
  exact h
theorem ni_xPut {ci kk a : Nat} {ty : FieldType} {vs : List Value} {v : Value} {M' : ni_H} (hp : ni_prog xs y pc = ni_sPut ci kk ty q) (ha : M.1[a]? = some (ci, vs)) (hk : kk < vs.length) (hf : ni_fit ty v = true) (hM : (M.1.set a (ci, vs.set kk v), M.2) = M') (k : ni_G xs d y q ls st M' o) : ni_G xs d y pc ls (v :: .ref a :: st) M o := by
  obtain ⟨n, h⟩ := k
  refine ⟨n + 1, ?_⟩
  rw [ni_exS, hp]
  unfold ni_sPut
  simp only [ha]
  rw [if_pos ⟨trivial, hk, hf⟩, hM]
  exact h
theorem ni_xLen {a t : Nat} {vs : List Value} {x : Int32} (hp : ni_prog xs y pc = ni_sLen q) (ha : M.1[a]? = some (t, vs)) (ht : 100 ≤ t ∧ t - 100 < ni_aks.length) (hx : Int32.ofNat vs.length = x) (k : ni_G xs d y q ls (.int x :: st) M o) : ni_G xs d y pc ls (.ref a :: st) M o := by
  obtain ⟨n, h⟩ := k
  refine ⟨n + 1, ?_⟩
  rw [ni_exS, hp]
  unfold ni_sLen
  simp only [ha]
  rw [if_pos ht, hx]
  exact h
theorem ni_xAld {ty : FieldType} {tv a t : Nat} {i : Int32} {vs : List Value} {v : Value} (hp : ni_prog xs y pc = ni_sAld ty tv q) (ha : M.1[a]? = some (t, vs)) (ht : 100 ≤ t ∧ ni_aks[t - 100]? = some ty ∧ ¬ i < 0) (hv : vs[i.toNatClampNeg]? = some v) (hy : ni_ty v = tv) (k : ni_G xs d y q ls (v :: st) M o) : ni_G xs d y pc ls (.int i :: .ref a :: st) M o := by
  obtain ⟨n, h⟩ := k
  refine ⟨n + 1, ?_⟩
  rw [ni_exS, hp]
  unfold ni_sAld
  simp only [ha]
  rw [if_pos ht]
  simp only [hv]
  rw [if_pos hy]
  exact h
theorem ni_xAst {ty : FieldType} {tv a t : Nat} {i : Int32} {vs : List Value} {v : Value} {M' : ni_H} (hp : ni_prog xs y pc = ni_sAst ty tv q) (ha : M.1[a]? = some (t, vs)) (ht : 100 ≤ t ∧ ni_aks[t - 100]? = some ty ∧ ¬ i < 0 ∧ i.toNatClampNeg < vs.length ∧ ni_ty v = tv ∧ ni_fit ty v = true) (hM : (M.1.set a (t, vs.set i.toNatClampNeg v), M.2) = M') (k : ni_G xs d y q ls st M' o) : ni_G xs d y pc ls (v :: .int i :: .ref a :: st) M o := by
  obtain ⟨n, h⟩ := k
  refine ⟨n + 1, ?_⟩
  rw [ni_exS, hp]
  unfold ni_sAst
  simp only [ha]
  rw [if_pos ht, hM]
  exact h
theorem ni_xR {rt : Option FieldType} {v : Value} (hp : ni_prog xs y pc = ni_sR rt) (hk : ni_rok rt (some v) = true) : ni_G xs d y pc ls [v] M (.inl (some v), M) := by
  refine ⟨1, ?_⟩
  rw [ni_exS, hp]
  unfold ni_sR
  dsimp only
  rw [if_pos hk]
theorem ni_xRv {rt : Option FieldType} (hp : ni_prog xs y pc = ni_sR rt) (hk : ni_rok rt none = true) : ni_G xs d y pc ls [] M (.inl none, M) := by
  refine ⟨1, ?_⟩
  rw [ni_exS, hp]
  unfold ni_sR
  dsimp only
  rw [if_pos hk]
theorem ni_xTh {E : String} (hp : ni_prog xs y pc = ni_sTh E) (hk : ni_cs st ≤ 8) : ni_G xs d y pc ls st M (.inr E, (M.1, M.2 + 1)) := by
  refine ⟨1, ?_⟩
  rw [ni_exS, hp]
  unfold ni_sTh
  rw [if_pos hk]
/-- two walks with one fuel -/
theorem ni_two {d1 y1 d2 y2 pc2 : Nat} {as ls2 st2 : List Value} {M1 M2 : ni_H} {o1 o2 : ni_O} (h1 : ni_R xs d1 y1 as M1 o1) (h2 : ni_G xs d2 y2 pc2 ls2 st2 M2 o2) : ∃ n, ni_cl (ni_ex (ni_prog xs) n) d1 y1 as M1 = some o1 ∧ ni_ex (ni_prog xs) n d2 y2 pc2 ls2 st2 M2 = some o2 := by
  obtain ⟨n1, h1⟩ := h1
  obtain ⟨n2, h2⟩ := h2
  exact ⟨max n1 n2, ni_clUp ni_up (Nat.le_max_left _ _) (Nat.le_refl _) h1, ni_exUp ni_up n2 _ d2 d2 (Nat.le_max_right _ _) (Nat.le_refl _) _ _ _ _ _ _ h2⟩
theorem ni_xV {y' nn ci a : Nat} {vs r as : List Value} {v : Option Value} {M' : ni_H} (hp : ni_prog xs y pc = ni_sV y' nn ci q) (hd : st.drop nn = .ref a :: r) (ht : (st.take nn).reverse = as) (ha : M.1[a]? = some (ci, vs)) (hc : ni_cs r ≤ 8) (hr : ni_R xs d y' (.ref a :: as) M (.inl v, M')) (k : ni_G xs d y q ls (v.toList ++ r) M' o) : ni_G xs d y pc ls st M o := by
  obtain ⟨n, h1, h2⟩ := ni_two hr k
  refine ⟨n + 1, ?_⟩
  rw [ni_exS, hp]
  unfold ni_sV
  simp only [hd, ha]
  rw [if_pos ⟨trivial, hc⟩, ht, h1]
  exact h2
theorem ni_xVt {y' nn ci a : Nat} {vs r as : List Value} {E : String} {M' : ni_H} (hp : ni_prog xs y pc = ni_sV y' nn ci q) (hd : st.drop nn = .ref a :: r) (ht : (st.take nn).reverse = as) (ha : M.1[a]? = some (ci, vs)) (hc : ni_cs r ≤ 8) (hr : ni_R xs d y' (.ref a :: as) M (.inr E, M')) : ni_G xs d y pc ls st M (.inr E, M') := by
  obtain ⟨n, h1⟩ := hr
  refine ⟨n + 1, ?_⟩
  rw [ni_exS, hp]
  unfold ni_sV
  simp only [hd, ha]
  rw [if_pos ⟨trivial, hc⟩, ht, h1]
  rfl
theorem ni_xC {y' nn : Nat} {r as : List Value} {v : Option Value} {M' : ni_H} (hp : ni_prog xs y pc = ni_sC y' nn q) (hl : nn ≤ st.length) (hd : st.drop nn = r) (ht : (st.take nn).reverse = as) (hc : ni_cs r ≤ 8) (hr : ni_R xs d y' as M (.inl v, M')) (k : ni_G xs d y q ls (v.toList ++ r) M' o) : ni_G xs d y pc ls st M o := by
  obtain ⟨n, h1, h2⟩ := ni_two hr k
  refine ⟨n + 1, ?_⟩
  rw [ni_exS, hp]
  unfold ni_sC
  rw [if_pos ⟨hl, by rw [hd]; exact hc⟩, ht, hd, h1]
  exact h2
theorem ni_xCt {y' nn : Nat} {r as : List Value} {E : String} {M' : ni_H} (hp : ni_prog xs y pc = ni_sC y' nn q) (hl : nn ≤ st.length) (hd : st.drop nn = r) (ht : (st.take nn).reverse = as) (hc : ni_cs r ≤ 8) (hr : ni_R xs d y' as M (.inr E, M')) : ni_G xs d y pc ls st M (.inr E, M') := by
  obtain ⟨n, h1⟩ := hr
  refine ⟨n + 1, ?_⟩
  rw [ni_exS, hp]
  unfold ni_sC
  rw [if_pos ⟨hl, by rw [hd]; exact hc⟩, ht, hd, h1]
  rfl
theorem ni_xI {y' nn a : Nat} {r as : List Value} {M' : ni_H} (hp : ni_prog xs y pc = ni_sI y' nn q) (hd : st.drop nn = .ref a :: r) (ht : (st.take nn).reverse = as) (hc : ni_cs r ≤ 8) (hr : ni_R xs d y' (.ref a :: as) M (.inl none, M')) (k : ni_G xs d y q ls r M' o) : ni_G xs d y pc ls st M o := by
  obtain ⟨n, h1, h2⟩ := ni_two hr k
  refine ⟨n + 1, ?_⟩
  rw [ni_exS, hp]
  unfold ni_sI
  simp only [hd]
  rw [if_pos hc, ht, h1]
  exact h2
theorem ni_xVX {y' nn ci q1 k0 a : Nat} {E0 : String} {vs r as : List Value} {v : Option Value} {M' : ni_H} (hp : ni_prog xs y pc = ni_sVX y' nn ci E0 q1 k0 q) (hd : st.drop nn = .ref a :: r) (ht : (st.take nn).reverse = as) (ha : M.1[a]? = some (ci, vs)) (hc : ni_cs r ≤ 8) (hr : ni_R xs d y' (.ref a :: as) M (.inl v, M')) (k : ni_G xs d y q ls (v.toList ++ r) M' o) : ni_G xs d y pc ls st M o := by
  obtain ⟨n, h1, h2⟩ := ni_two hr k
  refine ⟨n + 1, ?_⟩
  rw [ni_exS, hp]
  unfold ni_sVX
  simp only [hd, ha]
  rw [if_pos ⟨trivial, hc⟩, ht, h1]
  exact h2
/-- the call throws, the exception is caught -/
theorem ni_xVc {y' nn ci q1 k0 a : Nat} {E0 : String} {vs r as ls' : List Value} {M' : ni_H} (hp : ni_prog xs y pc = ni_sVX y' nn ci E0 q1 k0 q) (hd : st.drop nn = .ref a :: r) (ht : (st.take nn).reverse = as) (ha : M.1[a]? = some (ci, vs)) (hc : ni_cs r ≤ 8) (hr : ni_R xs d y' (.ref a :: as) M (.inr E0, M')) (hs : (ni_kp ls k0).set k0 ni_J = ls') (k : ni_G xs d y q1 ls' [] M' o) : ni_G xs d y pc ls st M o := by
  obtain ⟨n, h1, h2⟩ := ni_two hr k
  refine ⟨n + 1, ?_⟩
  rw [ni_exS, hp]
  unfold ni_sVX
  simp only [hd, ha]
  rw [if_pos ⟨trivial, hc⟩, ht, h1]
  simp only [ni_aftX]
  rw [if_true, hs]
  exact h2
theorem ni_xNew {ci : Nat} {fs : List Value} {L : List ni_C} {M' : ni_H} {a : Nat} (hp : ni_prog xs y pc = ni_sNew ci fs q) (hL : L.length = a) (hb : a < ni_big) (hM : (L ++ [(ci, fs)], 0) = M') (k : ni_G xs d y q ls (.ref a :: st) M' o) : ni_G xs d y pc ls st (L, 0) o := by
  obtain ⟨n, h⟩ := k
  subst hL
  refine ⟨n + 1, ?_⟩
  rw [ni_exS, hp]
  unfold ni_sNew
  dsimp only
  rw [if_pos ⟨rfl, hb⟩, hM]
  exact h
theorem ni_xNewa {kk : Nat} {ty : FieldType} {c : Int32} {L : List ni_C} {M' : ni_H} {a : Nat} (hp : ni_prog xs y pc = ni_sNewa kk ty q) (hc : ¬ c < 0 ∧ c.toNatClampNeg ≤ 1000000) (hL : L.length = a) (hb : a < ni_big) (hM : (L ++ [(100 + kk, List.replicate c.toNatClampNeg (ni_df ty))], 0) = M') (k : ni_G xs d y q ls (.ref a :: st) M' o) : ni_G xs d y pc ls (.int c :: st) (L, 0) o := by
  obtain ⟨n, h⟩ := k
  subst hL
  refine ⟨n + 1, ?_⟩
  rw [ni_exS, hp]
  unfold ni_sNewa
  dsimp only
  rw [if_pos ⟨hc.1, hc.2, rfl, hb⟩, hM]
  exact h
end X
end NV
