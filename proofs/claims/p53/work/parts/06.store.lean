section NT
variable {xs : List Int32} {Y : MethodName} {cc : ByteArray} {nL pc : Nat} {rt : Option FieldType} {hh : List (Nat × Nat × Nat × Nat)}
theorem ni_updI {vs : List Value} {j : Nat} {x : Int32} (hj : j < vs.length) : upd (fun k => ni_i (vs.getD k .null)) j x = fun k => ni_i ((vs.set j (.int x)).getD k .null) := by
  funext k
  simp only [upd, List.getD_eq_getElem?_getD, List.getElem?_set]
  by_cases h : k = j
  · subst h
    simp [hj, ni_i]
  · rw [if_neg h, if_neg (fun z => h z.symm)]
theorem ni_updL {vs : List Value} {j : Nat} {x : Int64} (hj : j < vs.length) : vp_updL (fun k => ni_l (vs.getD k .null)) j x = fun k => ni_l ((vs.set j (.long x)).getD k .null) := by
  funext k
  simp only [vp_updL, List.getD_eq_getElem?_getD, List.getElem?_set]
  by_cases h : k = j
  · subst h
    simp [hj, ni_l]
  · rw [if_neg h, if_neg (fun z => h z.symm)]
theorem ni_updD {vs : List Value} {j : Nat} {x : UInt64} (hj : j < vs.length) : vf_upd (fun k => ni_d (vs.getD k .null)) j x = fun k => ni_d ((vs.set j (.double x)).getD k .null) := by
  funext k
  simp only [vf_upd, List.getD_eq_getElem?_getD, List.getElem?_set]
  by_cases h : k = j
  · subst h
    simp [hj, ni_d]
  · rw [if_neg h, if_neg (fun z => h z.symm)]
theorem ni_updQ {w : ni_W} {vs : List Value} {j : Nat} {v : Value} (hj : j < vs.length) : va_up (fun k => ni_r w (vs.getD k .null)) j (ni_r w v) = fun k => ni_r w ((vs.set j v).getD k .null) := by
  funext k
  simp only [va_up, List.getD_eq_getElem?_getD, List.getElem?_set]
  by_cases h : k = j
  · subst h
    simp [hj]
  · rw [if_neg h, if_neg (fun z => h z.symm)]
/-- a store into an array of numbers -/
def ni_sAst (ty : FieldType) (tv q : Nat) : ni_S := fun _ next ls st M => match st with
  | v :: .int i :: .ref a :: r => match M.1[a]? with
    | some c => if 100 ≤ c.1 ∧ ni_aks[c.1 - 100]? = some ty ∧ ¬ i < 0 ∧ i.toNatClampNeg < c.2.length ∧ ni_ty v = tv ∧ ni_fit ty v = true then next q ls r (M.1.set a (c.1, c.2.set i.toNatClampNeg v), M.2) else none
    | none => none
  | _ => none
theorem ni_okAst {ty : FieldType} {tv q : Nat} (row : ∀ {w : ni_W} {p : Program} {l : Launch} {e : Env} {R : Room} {s : State} {m : MethodId} {args : Array Value} {below : List Frame} {meth : Method} {c : Code} {H : Heap} {locs : List Loc} {cells slots : Nat} {Q : State → Prop} {A : Array Slot} {t a : Nat} {vs : List Value} {L : List ni_C} {i : Int32} {v : Value} {rest : List Value},
      p.tables.exec = Jvm.exec → c.code = cc → va_K (w.1, w.2.1) vwCl (ni_tys w) s → va_P (w.1, w.2.1) vwCl (ni_ws w L) H → va_S (ni_A w) s.heap H locs → (ni_ws w L)[a]? = some (ni_B w + a, .inl (w.2.2.1 t, ni_ar w t vs)) → ni_aks[t]? = some ty → vp_in i vs.length → i.toNatClampNeg < vs.length → ni_ty v = tv → ni_fit ty v = true →
      (∀ (H1 : Heap) (locs1 : List Loc), va_P (w.1, w.2.1) vwCl ((ni_ws w L).set a (ni_B w + a, .inl (w.2.2.1 t, ni_ar w t (vs.set i.toNatClampNeg v)))) H1 → va_S (ni_A w) s.heap H1 locs1 → W p l e R s m args below meth c H1 locs1 cells slots Q (F0 m q A rest)) → W p l e R s m args below meth c H locs cells slots Q (F0 m pc A (ni_v w v :: .int i :: .ref (ni_B w + a) :: rest))) : ni_Ok xs Y cc nL rt hh pc (ni_sAst ty tv q) := by
  intro w p l e R s m args below meth c d out Q M0 X F call next hcl hn ls st M hs
  unfold ni_sAst at hs
  split at hs
  next v i a r =>
    split at hs
    next c0 ha =>
      obtain ⟨t, vs⟩ := c0
      dsimp only at hs
      split at hs
      next hq =>
        obtain ⟨q1, q2, q3, q4, q5, q6⟩ := hq
        obtain ⟨h1, h2⟩ := hn _ _ _ _ hs
        refine ⟨ni_leS ha (by simp) h1, fun H locs A cells slots a1 a2 a3 a4 a5 a6 => ?_⟩
        have he := ni_wsG (w := w) ha
        rw [ni_eA q1] at he
        have e0 : ni_v w (.ref a) = .ref (ni_B w + a) := congrArg Value.ref (ni_adI a1 ha)
        rw [List.map_cons, List.map_cons, List.map_cons, e0]
        obtain ⟨z1, z2⟩ := ni_setZ (t' := t) (vs' := vs.set i.toNatClampNeg v) ha (by simp)
        refine row X.1 X.2.1 X.2.2.2.2.2.2.2.1.1 a1.1 a2 he q2 (fun z => z.elim q3 (fun y => by omega)) q4 q5 q6 (fun H1 locs1 hP1 hS1 => ?_)
        rw [← ni_eA (w := w) q1, ni_wsS] at hP1
        exact h2 H1 locs1 A cells slots ⟨hP1, ni_lo X.2.2.2.2.2.2.2.2.2.1 hS1 hP1, by simp only [List.length_set]; exact a1.2.2⟩ hS1 a3 (by rw [z1]; exact a4) (by rw [z2]; exact a5) a6
      next => cases hs
    next => cases hs
  next => cases hs
theorem ni_iast (hdg : decode cc pc = .ok (.iastore, 1)) : ni_Ok xs Y cc nL rt hh pc (ni_sAst .int 0 (pc + 1)) := by
  refine ni_okAst fun {w} {p} {l} {e} {R} {s} {m} {args} {below} {meth} {c} {H} {locs} {cells} {slots} {Q} {A} {t} {a} {vs} {L} {i} {v} {rest} h1 h2 h3 h4 hS h5 h6 h7 h8 h9 hf k => ?_
  rw [ni_arI (Or.inl h6)] at h5
  cases v <;> first | (cases h9; done) | skip
  refine va_iast h1 h2 h3 h4 ni_D hS a t h5 (ni_tyG h6) h7 hdg (fun H1 locs1 g1 g2 g3 => k H1 locs1 ?_ g3)
  rw [ni_arI (Or.inl h6), List.length_set, ← ni_updI h8]
  exact g1
theorem ni_zast (hdg : decode cc pc = .ok (.bastore, 1)) : ni_Ok xs Y cc nL rt hh pc (ni_sAst .boolean 0 (pc + 1)) := by
  refine ni_okAst fun {w} {p} {l} {e} {R} {s} {m} {args} {below} {meth} {c} {H} {locs} {cells} {slots} {Q} {A} {t} {a} {vs} {L} {i} {v} {rest} h1 h2 h3 h4 hS h5 h6 h7 h8 h9 hf k => ?_
  rw [ni_arI (Or.inr h6)] at h5
  cases v <;> first | (cases h9; done) | skip
  next x =>
    refine va_zast h1 h2 h3 h4 ni_D hS a t h5 (ni_tyG h6) h7 hdg (fun H1 locs1 g1 g2 g3 => k H1 locs1 ?_ g3)
    have hx : vp_nar .boolean x = x := by
      have h := (ni_fitV (w := w) hf).1
      simp only [vp_nar]
      rw [show narrow .boolean (.int x) = .int x from h]
    rw [hx] at g1
    rw [ni_arI (Or.inr h6), List.length_set, ← ni_updI h8]
    exact g1
theorem ni_last (hdg : decode cc pc = .ok (.lastore, 1)) : ni_Ok xs Y cc nL rt hh pc (ni_sAst .long 1 (pc + 1)) := by
  refine ni_okAst fun {w} {p} {l} {e} {R} {s} {m} {args} {below} {meth} {c} {H} {locs} {cells} {slots} {Q} {A} {t} {a} {vs} {L} {i} {v} {rest} h1 h2 h3 h4 hS h5 h6 h7 h8 h9 hf k => ?_
  rw [ni_arL h6] at h5
  cases v <;> first | (cases h9; done) | skip
  refine va_last h1 h2 h3 h4 ni_D hS a t h5 (ni_tyG h6) h7 hdg (fun H1 locs1 g1 g2 g3 => k H1 locs1 ?_ g3)
  rw [ni_arL h6, List.length_set, ← ni_updL h8]
  exact g1
theorem ni_dast (hdg : decode cc pc = .ok (.dastore, 1)) : ni_Ok xs Y cc nL rt hh pc (ni_sAst .double 2 (pc + 1)) := by
  refine ni_okAst fun {w} {p} {l} {e} {R} {s} {m} {args} {below} {meth} {c} {H} {locs} {cells} {slots} {Q} {A} {t} {a} {vs} {L} {i} {v} {rest} h1 h2 h3 h4 hS h5 h6 h7 h8 h9 hf k => ?_
  rw [ni_arD h6] at h5
  cases v <;> first | (cases h9; done) | skip
  refine va_dast h1 h2 h3 h4 ni_D hS a t h5 (ni_tyG h6) h7 hdg (fun H1 locs1 g1 g2 g3 => k H1 locs1 ?_ g3)
  rw [ni_arD h6, List.length_set, ← ni_updD h8]
  exact g1
/-- a store of a reference: null, or a cell of the very class -/
def ni_sQst (q : Nat) : ni_S := fun _ next ls st M => match st with
  | v :: .int i :: .ref a :: r => match M.1[a]? with
    | some c => if 100 ≤ c.1 ∧ ¬ i < 0 ∧ i.toNatClampNeg < c.2.length then (match ni_aks[c.1 - 100]?, v with
      | some (.object _), .null => next q ls r (M.1.set a (c.1, c.2.set i.toNatClampNeg v), M.2)
      | some (.object C), .ref b => (match M.1[b]? with
        | some o => if o.1 < 100 ∧ (vwCl[o.1]?).map (fun z => z.1) = some C then next q ls r (M.1.set a (c.1, c.2.set i.toNatClampNeg v), M.2) else none
        | none => none)
      | _, _ => none) else none
    | none => none
  | _ => none
theorem ni_aast (hdg : decode cc pc = .ok (.aastore, 1)) : ni_Ok xs Y cc nL rt hh pc (ni_sQst (pc + 1)) := by
  intro w p l e R s m args below meth c d out Q M0 X F call next hcl hn ls st M hs
  unfold ni_sQst at hs
  split at hs
  next v i a r =>
    split at hs
    next c0 ha =>
      obtain ⟨t, vs⟩ := c0
      dsimp only at hs
      split at hs
      next hq =>
        obtain ⟨q1, q3, q4⟩ := hq
        split at hs
        next C hC =>
          obtain ⟨h1, h2⟩ := hn _ _ _ _ hs
          refine ⟨ni_leS ha (by simp) h1, fun H locs A cells slots a1 a2 a3 a4 a5 a6 => ?_⟩
          have he := ni_wsG (w := w) ha
          rw [ni_eA q1, ni_arQ hC] at he
          have e0 : ni_v w (.ref a) = .ref (ni_B w + a) := congrArg Value.ref (ni_adI a1 ha)
          rw [List.map_cons, List.map_cons, List.map_cons, e0]
          obtain ⟨z1, z2⟩ := ni_setZ (t' := t) (vs' := vs.set i.toNatClampNeg .null) ha (by simp)
          refine va_astqN X.1 X.2.1 X.2.2.2.2.2.2.2.1.1 a1.1 ni_D a2 a (t - 100) he (ni_tyG hC) (fun z => z.elim q3 (fun y => by omega)) hdg (fun H1 locs1 hP1 _ hS1 => ?_)
          have e1 : va_up (fun k => ni_r w (vs.getD k .null)) i.toNatClampNeg none = fun k => ni_r w ((vs.set i.toNatClampNeg .null).getD k .null) := ni_updQ (w := w) (v := .null) q4
          rw [e1, show (vs.length, Sum.inr (Sum.inr (Sum.inr (Sum.inr (fun k => ni_r w ((vs.set i.toNatClampNeg .null).getD k .null)))))) = ni_ar w (t - 100) (vs.set i.toNatClampNeg .null) by rw [ni_arQ hC, List.length_set], ← ni_eA (w := w) q1, ni_wsS] at hP1
          exact h2 H1 locs1 A cells slots ⟨hP1, ni_lo X.2.2.2.2.2.2.2.2.2.1 hS1 hP1, by simp only [List.length_set]; exact a1.2.2⟩ hS1 a3 (by rw [z1]; exact a4) (by rw [z2]; exact a5) a6
        next C b hC =>
          split at hs
          next o hb =>
            obtain ⟨ci, ws0⟩ := o
            dsimp only at hs
            split at hs
            next hcl9 =>
              obtain ⟨h1, h2⟩ := hn _ _ _ _ hs
              refine ⟨ni_leS ha (by simp) h1, fun H locs A cells slots a1 a2 a3 a4 a5 a6 => ?_⟩
              have he := ni_wsG (w := w) ha
              rw [ni_eA q1, ni_arQ hC] at he
              have heb := ni_wsG (w := w) hb
              rw [ni_eO hcl9.1] at heb
              have e0 : ni_v w (.ref a) = .ref (ni_B w + a) := congrArg Value.ref (ni_adI a1 ha)
              have e2 : ni_v w (.ref b) = .ref (ni_B w + b) := congrArg Value.ref (ni_adI a1 hb)
              have e3 : ni_r w (.ref b) = some (ni_B w + b) := congrArg some (ni_adI a1 hb)
              rw [List.map_cons, List.map_cons, List.map_cons, e0, e2]
              obtain ⟨z1, z2⟩ := ni_setZ (t' := t) (vs' := vs.set i.toNatClampNeg (.ref b)) ha (by simp)
              obtain ⟨r9, hr9, hr9n⟩ := Option.map_eq_some_iff.mp hcl9.2
              refine va_astq X.1 X.2.1 X.2.2.2.2.2.2.2.1.1 a1.1 ni_D a2 a (t - 100) b ci he (by rw [hr9n]; exact ni_tyG hC) heb hr9 (fun z => z.elim q3 (fun y => by omega)) hdg (fun H1 locs1 hP1 _ hS1 => ?_)
              have e1 : va_up (fun k => ni_r w (vs.getD k .null)) i.toNatClampNeg (some (ni_B w + b)) = fun k => ni_r w ((vs.set i.toNatClampNeg (.ref b)).getD k .null) := by
                rw [← e3]
                exact ni_updQ (w := w) (v := .ref b) q4
              rw [e1, show (vs.length, Sum.inr (Sum.inr (Sum.inr (Sum.inr (fun k => ni_r w ((vs.set i.toNatClampNeg (.ref b)).getD k .null)))))) = ni_ar w (t - 100) (vs.set i.toNatClampNeg (.ref b)) by rw [ni_arQ hC, List.length_set], ← ni_eA (w := w) q1, ni_wsS] at hP1
              exact h2 H1 locs1 A cells slots ⟨hP1, ni_lo X.2.2.2.2.2.2.2.2.2.1 hS1 hP1, by simp only [List.length_set]; exact a1.2.2⟩ hS1 a3 (by rw [z1]; exact a4) (by rw [z2]; exact a5) a6
            next => cases hs
          next => cases hs
        next => cases hs
      next => cases hs
    next => cases hs
  next => cases hs
/-! new cells -/
theorem ni_sz {p : Program} {l : Launch} {e : Env} {R : Room} {s : State} {m : MethodId} {args : Array Value} {below : List Frame} {meth : Method} {c : Code} {H : Heap} {locs : List Loc} {cells slots : Nat} {Q : State → Prop} {g : JFrame} (k : H.size ≤ s.heap.size + cells → W p l e R s m args below meth c H locs cells slots Q g) : W p l e R s m args below meth c H locs cells slots Q g := by
  intro T hT X
  refine k ?_ T hT X
  have h := X.same.2.2.1
  rw [← hT]
  exact h
theorem ni_AtA {w : ni_W} {M : ni_H} {H H1 : Heap} {c : ni_C} (h : ni_At w M H) (hz : H1.size = H.size + 1) (hs : H.size = ni_B w + M.1.length) (hb : M.1.length < ni_big) (ho : ∀ q : Nat, q < H.size → H1[q]? = H[q]?) (hc : va_at (w.1, w.2.1) vwCl (H.size, ni_e w c) H1) : ni_At w (M.1 ++ [c], M.2) H1 := by
  refine ⟨?_, by simp only [List.length_append, List.length_singleton]; omega, by simp only [List.length_append, List.length_singleton]; omega⟩
  show va_P (w.1, w.2.1) vwCl (ni_ws w (M.1 ++ [c])) H1
  rw [← ni_wsA]
  refine (h.1.kept (fun k x hx => ho x.1 ((h.1 k x hx).lt))).app (fun k x hx => ?_)
  have hk : k < 1 := (List.getElem?_eq_some_iff.mp hx).1
  rw [show k = 0 by omega] at hx
  cases hx
  rw [← hs]
  exact hc
theorem ni_SA {w : ni_W} {H0 H H1 : Heap} {locs : List Loc} (hS : va_S (ni_A w) H0 H locs) (hz : H1.size = H.size + 1) (ho : ∀ q : Nat, q < H.size → H1[q]? = H[q]?) : va_S (ni_A w) H0 H1 locs :=
  ⟨Nat.le_trans hS.1 (by omega), fun x h1 h2 => (ho x (Nat.lt_of_lt_of_le h1 hS.1)).trans (hS.2.1 x h1 h2), hS.2.2⟩
theorem ni_zA {M : ni_H} {c : ni_C} : ni_zc (M.1 ++ [c], M.2) = ni_zc M + 1 ∧ ni_zs (M.1 ++ [c], M.2) = ni_zs M + c.2.length := by
  refine ⟨?_, ?_⟩
  · simp only [ni_zc, List.length_append, List.length_singleton]
    omega
  · simp only [ni_zs, List.map_append, List.sum_append, List.map_cons, List.map_nil, List.sum_cons, List.sum_nil]
    omega
theorem ni_leA {M M' : ni_H} {c : ni_C} (k : ni_le (M.1 ++ [c], M.2) M') : ni_le M M' := by
  obtain ⟨h1, h2⟩ := ni_zA (M := M) (c := c)
  exact ⟨Nat.le_trans (by omega) k.1, Nat.le_trans (by omega) k.2.1, k.2.2⟩
def ni_df (ty : FieldType) : Value := match ty with
  | .int => .int 0
  | .boolean => .int 0
  | .long => .long 0
  | .double => .double 0
  | _ => .null
def ni_sNewa (k : Nat) (ty : FieldType) (q : Nat) : ni_S := fun _ next ls st M => match st with
  | .int n :: r => if ¬ n < 0 ∧ n.toNatClampNeg ≤ 1000000 ∧ M.2 = 0 ∧ M.1.length < ni_big then next q ls (.ref M.1.length :: r) (M.1 ++ [(100 + k, List.replicate n.toNatClampNeg (ni_df ty))], M.2) else none
  | _ => none
theorem ni_clean {w : ni_W} {M0 M : ni_H} {s : State} {H : Heap} {cells : Nat} (hs : M0.2 = 0 → s.heap.size = ni_B w + M0.1.length) (h0 : M0.2 ≤ M.2) (hM : M.2 = 0) (hz : ni_zc M = ni_zc M0 + cells) (hA : ni_At w M H) (hk : H.size ≤ s.heap.size + cells) : H.size = ni_B w + M.1.length := by
  have h1 := hs (by omega)
  have h2 := hA.2.1
  simp only [ni_zc] at hz
  omega
theorem ni_adN {w : ni_W} {n : Nat} (h : n < ni_big) : ni_v w (.ref n) = .ref (ni_B w + n) := by
  simp only [ni_v, ni_ad]
  rw [if_pos h]
theorem ni_getR {n j : Nat} {v : Value} : (List.replicate n v).getD j .null = if j < n then v else .null := by
  simp only [List.getD_eq_getElem?_getD, List.getElem?_replicate]
  by_cases h : j < n <;> simp [h]
theorem ni_newa {k : Nat} {ty : FieldType} {at0 : ArrayType} (hdg : decode cc pc = .ok (.newarray at0, 2)) (hty : newarray.typeOf at0 = ty) (hk : ni_aks[k]? = some ty) (h4 : ty = .int ∨ ty = .boolean ∨ ty = .long ∨ ty = .double) (w1 : Cond.arrayClass ty ∈ ni_tb) : ni_Ok xs Y cc nL rt hh pc (ni_sNewa k ty (pc + 2)) := by
  intro w p l e R s m args below meth c d out Q M0 X F call next hcl hn ls st M hs
  unfold ni_sNewa at hs
  split at hs
  next n r =>
    split at hs
    next hq =>
      obtain ⟨q1, q2, q3, q4⟩ := hq
      obtain ⟨h1, h2⟩ := hn _ _ _ _ hs
      refine ⟨ni_leA h1, fun H locs A cells slots a1 a2 a3 a4 a5 a6 => ?_⟩
      refine ni_sz fun hsz => ?_
      have hsize := ni_clean F.2.2.1 a6 q3 a4 a1 hsz
      obtain ⟨z1, z2⟩ := ni_zA (M := M) (c := (100 + k, List.replicate n.toNatClampNeg (ni_df ty)))
      have b1 := h1.1
      have b2 := h1.2.1
      have b3 := F.1
      have b4 := F.2.1
      rw [z1] at b1
      rw [z2] at b2
      simp only [List.length_replicate] at b2
      subst hty
      refine va_newaK X.1 X.2.1 (X.2.2.2.2.1 _ w1) rfl hdg rfl q1 rfl (by rcases h4 with h | h | h | h <;> rw [h] <;> simp only [componentBytes] <;> omega) (by omega) (by omega) rfl fun H1 cA e1 y1 o1 hAr hNm => ?_
      have hcA : cA = w.2.2.1 k := by
        have hh := (X.2.2.2.2.2.2.2.1.1.2 k _ (ni_tyG hk)).2
        rcases h4 with h | h | h | h <;> rw [h] at hh hNm <;> exact Option.some.inj (hNm.symm.trans hh)
      have hat : va_at (w.1, w.2.1) vwCl (H.size, ni_e w (100 + k, List.replicate n.toNatClampNeg (ni_df (newarray.typeOf at0)))) H1 := by
        rw [ni_eA (by omega), show 100 + k - 100 = k by omega]
        show H1[H.size]? = some (vp_cell (w.2.2.1 k) (ni_ar w k _))
        rw [e1, hcA]
        congr 1
        rcases h4 with h | h | h | h
        · rw [ni_arI (Or.inl (by rw [hk, h])), vp_cell_i, List.length_replicate, h]
          congr 1
          funext j
          rw [ni_getR]
          split <;> rfl
        · rw [ni_arI (Or.inr (by rw [hk, h])), vp_cell_i, List.length_replicate, h]
          congr 1
          funext j
          rw [ni_getR]
          split <;> rfl
        · rw [ni_arL (by rw [hk, h]), vp_cell_l, List.length_replicate, h]
          congr 1
          funext j
          rw [ni_getR]
          split <;> rfl
        · rw [ni_arD (by rw [hk, h]), vp_cell_d, List.length_replicate, h]
          congr 1
          funext j
          rw [ni_getR]
          split <;> rfl
      have := h2 H1 locs A (cells + 1) (slots + n.toNatClampNeg) (ni_AtA a1 y1 hsize q4 o1 hat) (ni_SA a2 y1 o1) a3 (by rw [z1]; omega) (by rw [z2]; simp only [List.length_replicate]; omega) a6
      rw [List.map_cons, ni_adN q4, ← hsize] at this
      exact this
    next => cases hs
  next => cases hs
end NT
