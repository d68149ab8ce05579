section NH
variable {xs : List Int32} {Y : MethodName} {cc : ByteArray} {nL pc : Nat} {rt : Option FieldType} {hh : List (Nat × Nat × Nat × Nat)}
theorem ni_eO {w : ni_W} {ci : Nat} {vs : List Value} (h : ci < 100) : ni_e w (ci, vs) = .inr (ci, vs.map (ni_v w)) := if_pos h
theorem ni_eA {w : ni_W} {t : Nat} {vs : List Value} (h : 100 ≤ t) : ni_e w (t, vs) = .inl (w.2.2.1 (t - 100), ni_ar w (t - 100) vs) := if_neg (by show ¬ t < 100; omega)
theorem ni_zsS {L : List ni_C} {a : Nat} {t t' : Nat} {vs vs' : List Value} (h : L[a]? = some (t, vs)) (hl : vs'.length = vs.length) : ((L.set a (t', vs')).map (fun c => c.2.length)).sum = (L.map (fun c => c.2.length)).sum := by
  have e : (L.set a (t', vs')).map (fun c => c.2.length) = L.map (fun c => c.2.length) := by
    apply List.ext_getElem?
    intro i
    simp only [List.getElem?_map, List.getElem?_set]
    by_cases hi : a = i
    · subst hi
      obtain ⟨hl2, hl3⟩ := List.getElem?_eq_some_iff.mp h
      simp [hl, hl2, hl3]
    · simp [hi]
  rw [e]
/-- a cell is changed, its length stays -/
theorem ni_setZ {M : ni_H} {a t t' : Nat} {vs vs' : List Value} (h : M.1[a]? = some (t, vs)) (hl : vs'.length = vs.length) : ni_zc (M.1.set a (t', vs'), M.2) = ni_zc M ∧ ni_zs (M.1.set a (t', vs'), M.2) = ni_zs M := by
  refine ⟨?_, ?_⟩
  · simp [ni_zc]
  · simp only [ni_zs]
    rw [ni_zsS h hl]
theorem ni_leS {M M' : ni_H} {a t t' : Nat} {vs vs' : List Value} (h : M.1[a]? = some (t, vs)) (hl : vs'.length = vs.length) (k : ni_le (M.1.set a (t', vs'), M.2) M') : ni_le M M' := by
  obtain ⟨h1, h2⟩ := ni_setZ (t' := t') h hl
  exact ⟨by rw [← h1]; exact k.1, by rw [← h2]; exact k.2.1, k.2.2⟩
theorem ni_AtS {w : ni_W} {M : ni_H} {H1 H : Heap} {a : Nat} {c : ni_C} (h : ni_At w M H) (hz : H.size ≤ H1.size) (hP : va_P (w.1, w.2.1) vwCl (ni_ws w (M.1.set a c)) H1) : ni_At w (M.1.set a c, M.2) H1 := by
  refine ⟨hP, ?_, ?_⟩
  · have := h.2.1
    simp only [List.length_set]
    omega
  · simp only [List.length_set]
    exact h.2.2
/-- the cells stand, so the heap reaches as far -/
theorem ni_lo {w : ni_W} {L : List ni_C} {H0 H : Heap} {locs : List Loc} (hB : ni_B w ≤ H0.size) (hS : va_S (ni_A w) H0 H locs) (hP : va_P (w.1, w.2.1) vwCl (ni_ws w L) H) : ni_B w + L.length ≤ H.size := by
  have h1 := hS.1
  cases hL : L.length with
  | zero => omega
  | succ n =>
    have hc : L[n]? = some (L[n]'(by omega)) := List.getElem?_eq_getElem (by omega)
    have := (hP n _ (ni_wsG hc)).lt
    have : ni_B w + n < H.size := this
    omega
def ni_sGet (ci k q : Nat) : ni_S := fun _ next ls st M => match st with
  | .ref a :: r => match M.1[a]? with
    | some c => if c.1 = ci then (match c.2[k]? with
      | some v => next q ls (v :: r) M
      | none => none) else none
    | none => none
  | _ => none
theorem ni_get {ci k i N : Nat} {C : String} {T : u_T} (hdg : decode cc pc = .ok (.getfield i, 3)) (h100 : ci < 100) (hc : vwCl[ci]? = some (C, T, N)) (hk : k < N) (hin : ∀ z ∈ u_ws C T N, z ∈ ni_tb) (hl : Cond.fieldLink Y.cls i (T k).1 (T k).2.1 (T k).2.2.1 ∈ ni_tb) : ni_Ok xs Y cc nL rt hh pc (ni_sGet ci k (pc + 3)) := by
  intro w p l e R s m args below meth c d out Q M0 X F call next hcl hn ls st M hs
  unfold ni_sGet at hs
  split at hs
  next a r =>
    split at hs
    next c0 ha =>
      obtain ⟨t, vs⟩ := c0
      dsimp only at hs
      split at hs
      next ht =>
        subst ht
        split at hs
        next v hv =>
          obtain ⟨h1, h2⟩ := hn _ _ _ _ hs
          refine ⟨h1, fun H locs A cells slots a1 a2 a3 a4 a5 a6 => ?_⟩
          have he := ni_wsG (w := w) ha
          rw [ni_eO h100] at he
          have e0 : ni_v w (.ref a) = .ref (ni_B w + a) := congrArg Value.ref (ni_adI a1 ha)
          rw [List.map_cons, e0]
          exact va_get (D := (w.1, w.2.1)) X.1 X.2.1 X.2.2.2.2.1 hin X.2.2.2.1 X.2.2.2.2.2.2.2.1.1 a1.1 a he hc k hk (X.2.2.2.2.1 _ hl) (fun _ h => h) (by rw [List.getElem?_map, hv]; rfl) hdg (h2 H locs A cells slots a1 a2 a3 a4 a5 a6)
        next => cases hs
      next => cases hs
    next => cases hs
  next => cases hs
def ni_fit (ty : FieldType) (v : Value) : Bool := match ty, v with
  | .int, .int _ => true
  | .long, .long _ => true
  | .double, .double _ => true
  | ty, v => decide (narrow ty v = v) && fits ty v
theorem ni_fitE (ty : FieldType) (v : Value) : ni_fit ty v = (decide (narrow ty v = v) && fits ty v) := by
  unfold ni_fit
  split <;> first | rfl | simp [narrow, fits]
theorem ni_fitV {w : ni_W} {ty : FieldType} {v : Value} (h : ni_fit ty v = true) : narrow ty (ni_v w v) = ni_v w v ∧ fits ty (ni_v w v) = true := by
  simp only [ni_fitE, Bool.and_eq_true, decide_eq_true_eq] at h
  cases v <;> first | exact h | (cases ty <;> first | exact ⟨rfl, rfl⟩ | exact absurd h.2 (by simp [fits]))
def ni_sPut (ci k : Nat) (ty : FieldType) (q : Nat) : ni_S := fun _ next ls st M => match st with
  | v :: .ref a :: r => match M.1[a]? with
    | some c => if c.1 = ci ∧ k < c.2.length ∧ ni_fit ty v = true then next q ls r (M.1.set a (ci, c.2.set k v), M.2) else none
    | none => none
  | _ => none
theorem ni_putA {ci k i N : Nat} {C : String} {T : u_T} {ty0 : Nat → FieldType} {b : Bool} (hb : (b = false) ∨ (b = true ∧ Y.name = "<init>" ∧ (T k).1 = Y.cls)) (hfin : (T k).2.2.2 = b) (hdg : decode cc pc = .ok (.putfield i, 3)) (h100 : ci < 100) (hc : vwCl[ci]? = some (C, T, N)) (hk : k < N) (hin : ∀ z ∈ u_ws C T N, z ∈ ni_tb) (hty : ∀ k, k < N → parseFieldDescriptor (T k).2.2.1 = some (ty0 k)) (hnm : ∀ a, a < N → ∀ b, b < N → a ≠ b → (T a).2.1 ≠ (T b).2.1)
    (hl : Cond.fieldLink Y.cls i (T k).1 (T k).2.1 (T k).2.2.1 ∈ ni_tb) : ni_Ok xs Y cc nL rt hh pc (ni_sPut ci k (ty0 k) (pc + 3)) := by
  intro w p l e R s m args below meth c d out Q M0 X F call next hcl hn ls st M hs
  unfold ni_sPut at hs
  split at hs
  next v a r =>
    split at hs
    next c0 ha =>
      obtain ⟨t, vs⟩ := c0
      dsimp only at hs
      split at hs
      next hq =>
        obtain ⟨rfl, hkl, hf⟩ := hq
        obtain ⟨h1, h2⟩ := hn _ _ _ _ hs
        refine ⟨ni_leS ha (by simp) h1, fun H locs A cells slots a1 a2 a3 a4 a5 a6 => ?_⟩
        have he := ni_wsG (w := w) ha
        rw [ni_eO h100] at he
        have e0 : ni_v w (.ref a) = .ref (ni_B w + a) := congrArg Value.ref (ni_adI a1 ha)
        rw [List.map_cons, List.map_cons, e0]
        obtain ⟨f1, f2⟩ := ni_fitV (w := w) hf
        obtain ⟨z1, z2⟩ := ni_setZ (t' := t) (vs' := vs.set k v) ha (by simp)
        have kk : ∀ (H1 : Heap) (locs1 : List Loc), va_P (w.1, w.2.1) vwCl ((ni_ws w M.1).set a (ni_B w + a, .inr (t, (vs.map (ni_v w)).set k (ni_v w v)))) H1 → va_D (ni_A w) ((ni_ws w M.1).set a (ni_B w + a, .inr (t, (vs.map (ni_v w)).set k (ni_v w v)))) → va_S (ni_A w) s.heap H1 locs1 → W p l e R s m args below meth c H1 locs1 cells slots Q (F0 m (pc + 3) A (r.map (ni_v w))) := by
          intro H1 locs1 hP1 hD1 hS1
          rw [← List.map_set, ← ni_eO (w := w) h100, ni_wsS] at hP1
          exact h2 H1 locs1 A cells slots ⟨hP1, ni_lo X.2.2.2.2.2.2.2.2.2.1 hS1 hP1, by simp only [List.length_set]; exact a1.2.2⟩ hS1 a3 (by rw [z1]; exact a4) (by rw [z2]; exact a5) a6
        rcases hb with rfl | ⟨rfl, hi, ho⟩
        · exact va_put (D := (w.1, w.2.1)) X.1 X.2.1 X.2.2.2.2.1 hin ty0 hty hnm X.2.2.2.1 X.2.2.2.2.2.2.2.1.1 a1.1 ni_D a2 a he hc k hk (X.2.2.2.2.1 _ hl) (fun _ h => h) hfin (hty k hk) f1 f2 (by simpa using hkl) hdg kk
        · exact va_putF (D := (w.1, w.2.1)) X.1 X.2.1 X.2.2.2.2.1 hin ty0 hty hnm X.2.2.2.1 X.2.2.2.2.2.2.2.1.1 a1.1 ni_D a2 a he hc k hk (X.2.2.2.2.1 _ hl) (fun _ h => h) hfin (X.2.2.2.2.2.2.1.trans hi) ho (hty k hk) f1 f2 (by simpa using hkl) hdg kk
      next => cases hs
    next => cases hs
  next => cases hs
/-! arrays -/
def ni_sLen (q : Nat) : ni_S := fun _ next ls st M => match st with
  | .ref a :: r => match M.1[a]? with
    | some c => if 100 ≤ c.1 ∧ c.1 - 100 < ni_aks.length then next q ls (.int (Int32.ofNat c.2.length) :: r) M else none
    | none => none
  | _ => none
theorem ni_len (hdg : decode cc pc = .ok (.arraylength, 1)) : ni_Ok xs Y cc nL rt hh pc (ni_sLen (pc + 1)) := by
  intro w p l e R s m args below meth c d out Q M0 X F call next hcl hn ls st M hs
  unfold ni_sLen at hs
  split at hs
  next a r =>
    split at hs
    next c0 ha =>
      obtain ⟨t, vs⟩ := c0
      dsimp only at hs
      split at hs
      next hq =>
        obtain ⟨h1, h2⟩ := hn _ _ _ _ hs
        refine ⟨h1, fun H locs A cells slots a1 a2 a3 a4 a5 a6 => ?_⟩
        have he := ni_wsG (w := w) ha
        rw [ni_eA hq.1] at he
        have e0 : ni_v w (.ref a) = .ref (ni_B w + a) := congrArg Value.ref (ni_adI a1 ha)
        rw [List.map_cons, e0]
        exact va_alen (D := (w.1, w.2.1)) X.1 X.2.1 X.2.2.2.2.2.2.2.1.1 a1.1 a (t - 100) he (ni_tyG (List.getElem?_eq_getElem hq.2)) rfl hdg (h2 H locs A cells slots a1 a2 a3 a4 a5 a6)
      next => cases hs
    next => cases hs
  next => cases hs
theorem ni_vpin {i : Int32} {vs : List Value} {v : Value} (h0 : ¬ i < 0) (hv : vs[i.toNatClampNeg]? = some v) : vp_in i vs.length := fun z => z.elim h0 (fun y => absurd (List.getElem?_eq_some_iff.mp hv).1 (by omega))
/-- a load from an array of numbers -/
def ni_sAld (ty : FieldType) (tv q : Nat) : ni_S := fun _ next ls st M => match st with
  | .int i :: .ref a :: r => match M.1[a]? with
    | some c => if 100 ≤ c.1 ∧ ni_aks[c.1 - 100]? = some ty ∧ ¬ i < 0 then (match c.2[i.toNatClampNeg]? with
      | some v => if ni_ty v = tv then next q ls (v :: r) M else none
      | none => none) else none
    | none => none
  | _ => none
theorem ni_okAld {ty : FieldType} {tv q : Nat} (row : ∀ {w : ni_W} {p : Program} {l : Launch} {e : Env} {R : Room} {s : State} {m : MethodId} {args : Array Value} {below : List Frame} {meth : Method} {c : Code} {H : Heap} {locs : List Loc} {cells slots : Nat} {Q : State → Prop} {A : Array Slot} {t a : Nat} {vs : List Value} {L : List ni_C} {i : Int32} {v : Value} {rest : List Value},
      p.tables.exec = Jvm.exec → c.code = cc → va_K (w.1, w.2.1) vwCl (ni_tys w) s → va_P (w.1, w.2.1) vwCl (ni_ws w L) H → (ni_ws w L)[a]? = some (ni_B w + a, .inl (w.2.2.1 t, ni_ar w t vs)) → ni_aks[t]? = some ty → vp_in i vs.length → vs[i.toNatClampNeg]? = some v → ni_ty v = tv →
      W p l e R s m args below meth c H locs cells slots Q (F0 m q A (ni_v w v :: rest)) → W p l e R s m args below meth c H locs cells slots Q (F0 m pc A (.int i :: .ref (ni_B w + a) :: rest))) : ni_Ok xs Y cc nL rt hh pc (ni_sAld ty tv q) := by
  intro w p l e R s m args below meth c d out Q M0 X F call next hcl hn ls st M hs
  unfold ni_sAld at hs
  split at hs
  next i a r =>
    split at hs
    next c0 ha =>
      obtain ⟨t, vs⟩ := c0
      dsimp only at hs
      split at hs
      next hq =>
        split at hs
        next v hv =>
          split at hs
          next hty =>
            obtain ⟨h1, h2⟩ := hn _ _ _ _ hs
            refine ⟨h1, fun H locs A cells slots a1 a2 a3 a4 a5 a6 => ?_⟩
            have he := ni_wsG (w := w) ha
            rw [ni_eA hq.1] at he
            have e0 : ni_v w (.ref a) = .ref (ni_B w + a) := congrArg Value.ref (ni_adI a1 ha)
            rw [List.map_cons, List.map_cons, e0]
            exact row X.1 X.2.1 X.2.2.2.2.2.2.2.1.1 a1.1 he hq.2.1 (ni_vpin hq.2.2 hv) hv hty (h2 H locs A cells slots a1 a2 a3 a4 a5 a6)
          next => cases hs
        next => cases hs
      next => cases hs
    next => cases hs
  next => cases hs
theorem ni_getD {vs : List Value} {j : Nat} {v : Value} (h : vs[j]? = some v) : vs.getD j .null = v := by simp [h]
theorem ni_arI {w : ni_W} {t : Nat} {vs : List Value} (h : ni_aks[t]? = some .int ∨ ni_aks[t]? = some .boolean) : ni_ar w t vs = (vs.length, .inl (fun j => ni_i (vs.getD j .null))) := by
  simp only [ni_ar]
  rw [if_pos (by rcases h with h | h <;> simp [ni_ak, h])]
theorem ni_arL {w : ni_W} {t : Nat} {vs : List Value} (h : ni_aks[t]? = some .long) : ni_ar w t vs = (vs.length, .inr (.inl (fun j => ni_l (vs.getD j .null)))) := by
  simp only [ni_ar]
  rw [if_neg (by simp [ni_ak, h]), if_pos (by simp [ni_ak, h])]
theorem ni_arD {w : ni_W} {t : Nat} {vs : List Value} (h : ni_aks[t]? = some .double) : ni_ar w t vs = (vs.length, .inr (.inr (.inr (.inl (fun j => ni_d (vs.getD j .null)))))) := by
  simp only [ni_ar]
  rw [if_neg (by simp [ni_ak, h]), if_neg (by simp [ni_ak, h]), if_pos (by simp [ni_ak, h])]
theorem ni_arQ {w : ni_W} {t : Nat} {vs : List Value} {C : String} (h : ni_aks[t]? = some (.object C)) : ni_ar w t vs = (vs.length, .inr (.inr (.inr (.inr (fun j => ni_r w (vs.getD j .null)))))) := by
  simp only [ni_ar]
  rw [if_neg (by simp [ni_ak, h]), if_neg (by simp [ni_ak, h]), if_neg (by simp [ni_ak, h])]
theorem ni_iald (hdg : decode cc pc = .ok (.iaload, 1)) : ni_Ok xs Y cc nL rt hh pc (ni_sAld .int 0 (pc + 1)) := by
  refine ni_okAld fun {w} {p} {l} {e} {R} {s} {m} {args} {below} {meth} {c} {H} {locs} {cells} {slots} {Q} {A} {t} {a} {vs} {L} {i} {v} {rest} h1 h2 h3 h4 h5 h6 h7 h8 h9 k => ?_
  rw [ni_arI (Or.inl h6)] at h5
  refine va_iald h1 h2 h3 h4 a t h5 (ni_tyG h6) h7 hdg ?_
  rw [ni_getD h8]
  cases v <;> first | (cases h9; done) | exact k
theorem ni_bald (hdg : decode cc pc = .ok (.baload, 1)) : ni_Ok xs Y cc nL rt hh pc (ni_sAld .boolean 0 (pc + 1)) := by
  refine ni_okAld fun {w} {p} {l} {e} {R} {s} {m} {args} {below} {meth} {c} {H} {locs} {cells} {slots} {Q} {A} {t} {a} {vs} {L} {i} {v} {rest} h1 h2 h3 h4 h5 h6 h7 h8 h9 k => ?_
  rw [ni_arI (Or.inr h6)] at h5
  refine va_zald h1 h2 h3 h4 a t h5 (ni_tyG h6) h7 hdg ?_
  rw [ni_getD h8]
  cases v <;> first | (cases h9; done) | exact k
theorem ni_lald (hdg : decode cc pc = .ok (.laload, 1)) : ni_Ok xs Y cc nL rt hh pc (ni_sAld .long 1 (pc + 1)) := by
  refine ni_okAld fun {w} {p} {l} {e} {R} {s} {m} {args} {below} {meth} {c} {H} {locs} {cells} {slots} {Q} {A} {t} {a} {vs} {L} {i} {v} {rest} h1 h2 h3 h4 h5 h6 h7 h8 h9 k => ?_
  rw [ni_arL h6] at h5
  refine va_lald h1 h2 h3 h4 a t h5 (ni_tyG h6) h7 hdg ?_
  rw [ni_getD h8]
  cases v <;> first | (cases h9; done) | exact k
theorem ni_dald (hdg : decode cc pc = .ok (.daload, 1)) : ni_Ok xs Y cc nL rt hh pc (ni_sAld .double 2 (pc + 1)) := by
  refine ni_okAld fun {w} {p} {l} {e} {R} {s} {m} {args} {below} {meth} {c} {H} {locs} {cells} {slots} {Q} {A} {t} {a} {vs} {L} {i} {v} {rest} h1 h2 h3 h4 h5 h6 h7 h8 h9 k => ?_
  rw [ni_arD h6] at h5
  refine va_dald h1 h2 h3 h4 a t h5 (ni_tyG h6) h7 hdg ?_
  rw [ni_getD h8]
  cases v <;> first | (cases h9; done) | exact k
/-- a load of a reference -/
def ni_sQld (q : Nat) : ni_S := fun _ next ls st M => match st with
  | .int i :: .ref a :: r => match M.1[a]? with
    | some c => if 100 ≤ c.1 ∧ ¬ i < 0 then (match ni_aks[c.1 - 100]?, c.2[i.toNatClampNeg]? with
      | some (.object _), some v => if ni_ty v = 3 then next q ls (v :: r) M else none
      | _, _ => none) else none
    | none => none
  | _ => none
theorem ni_rV {w : ni_W} {v : Value} (h : ni_ty v = 3) : va_rf (ni_r w v) = ni_v w v := by
  cases v <;> first | (cases h; done) | rfl
theorem ni_aald (hdg : decode cc pc = .ok (.aaload, 1)) : ni_Ok xs Y cc nL rt hh pc (ni_sQld (pc + 1)) := by
  intro w p l e R s m args below meth c d out Q M0 X F call next hcl hn ls st M hs
  unfold ni_sQld at hs
  split at hs
  next i a r =>
    split at hs
    next c0 ha =>
      obtain ⟨t, vs⟩ := c0
      dsimp only at hs
      split at hs
      next hq =>
        split at hs
        next C v hC hv =>
          split at hs
          next hty =>
            obtain ⟨h1, h2⟩ := hn _ _ _ _ hs
            refine ⟨h1, fun H locs A cells slots a1 a2 a3 a4 a5 a6 => ?_⟩
            have he := ni_wsG (w := w) ha
            rw [ni_eA hq.1, ni_arQ hC] at he
            have e0 : ni_v w (.ref a) = .ref (ni_B w + a) := congrArg Value.ref (ni_adI a1 ha)
            rw [List.map_cons, List.map_cons, e0]
            refine va_aldq X.1 X.2.1 X.2.2.2.2.2.2.2.1.1 a1.1 a (t - 100) he (ni_tyG hC) (ni_vpin hq.2 hv) hdg ?_
            rw [ni_getD hv, ni_rV hty]
            exact h2 H locs A cells slots a1 a2 a3 a4 a5 a6
          next => cases hs
        next => cases hs
      next => cases hs
    next => cases hs
  next => cases hs
end NH
