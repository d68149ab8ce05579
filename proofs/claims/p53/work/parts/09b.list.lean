section NL
variable {xs : List Int32} {Y : MethodName} {cc : ByteArray} {nL pc : Nat} {rt : Option FieldType} {hh : List (Nat × Nat × Nat × Nat)}
/-- a field under the name of a class below the one that has it -/
theorem ni_getS {ci k i N : Nat} {C ref : String} {T : u_T} (hdg : decode cc pc = .ok (.getfield i, 3)) (h100 : ci < 100) (hc : vwCl[ci]? = some (C, T, N)) (hk : k < N) (hin : ∀ z ∈ u_ws C T N, z ∈ ni_tb) (hl : Cond.fieldLink Y.cls i ref (T k).2.1 (T k).2.2.1 ∈ ni_tb) (hsf : Cond.sameField ref (T k).1 (T k).2.1 (T k).2.2.1 ∈ ni_tb) : ni_Ok xs Y cc nL rt hh pc (ni_sGet ci k (pc + 3)) := by
  intro w p l e R s m args below meth c d out Q M0 X F call next hcl hn ls st M hs
  unfold ni_sGet at hs
  split at hs
  next a r =>
    split at hs
    next c0 ha =>
      obtain ⟨t, vs⟩ := c0
      dsimp only at hs
      split at hs
      next ht =>
        subst ht
        split at hs
        next v hv =>
          obtain ⟨h1, h2⟩ := hn _ _ _ _ hs
          refine ⟨h1, fun H locs A cells slots a1 a2 a3 a4 a5 a6 => ?_⟩
          have he := ni_wsG (w := w) ha
          rw [ni_eO h100] at he
          have e0 : ni_v w (.ref a) = .ref (ni_B w + a) := congrArg Value.ref (ni_adI a1 ha)
          rw [List.map_cons, e0]
          exact va_get (D := (w.1, w.2.1)) X.1 X.2.1 X.2.2.2.2.1 hin X.2.2.2.1 X.2.2.2.2.2.2.2.1.1 a1.1 a he hc k hk (X.2.2.2.2.1 _ hl) (fun x h => u_same (X.2.2.2.2.1 _ hsf) x h) (by rw [List.getElem?_map, hv]; rfl) hdg (h2 H locs A cells slots a1 a2 a3 a4 a5 a6)
        next => cases hs
      next => cases hs
    next => cases hs
  next => cases hs
theorem ni_putS {ci k i N : Nat} {C ref : String} {T : u_T} {ty0 : Nat → FieldType} (hfin : (T k).2.2.2 = false) (hdg : decode cc pc = .ok (.putfield i, 3)) (h100 : ci < 100) (hc : vwCl[ci]? = some (C, T, N)) (hk : k < N) (hin : ∀ z ∈ u_ws C T N, z ∈ ni_tb) (hty : ∀ k, k < N → parseFieldDescriptor (T k).2.2.1 = some (ty0 k)) (hnm : ∀ a, a < N → ∀ b, b < N → a ≠ b → (T a).2.1 ≠ (T b).2.1)
    (hl : Cond.fieldLink Y.cls i ref (T k).2.1 (T k).2.2.1 ∈ ni_tb) (hsf : Cond.sameField ref (T k).1 (T k).2.1 (T k).2.2.1 ∈ ni_tb) : ni_Ok xs Y cc nL rt hh pc (ni_sPut ci k (ty0 k) (pc + 3)) := by
  intro w p l e R s m args below meth c d out Q M0 X F call next hcl hn ls st M hs
  unfold ni_sPut at hs
  split at hs
  next v a r =>
    split at hs
    next c0 ha =>
      obtain ⟨t, vs⟩ := c0
      dsimp only at hs
      split at hs
      next hq =>
        obtain ⟨rfl, hkl, hf⟩ := hq
        obtain ⟨h1, h2⟩ := hn _ _ _ _ hs
        refine ⟨ni_leS ha (by simp) h1, fun H locs A cells slots a1 a2 a3 a4 a5 a6 => ?_⟩
        have he := ni_wsG (w := w) ha
        rw [ni_eO h100] at he
        have e0 : ni_v w (.ref a) = .ref (ni_B w + a) := congrArg Value.ref (ni_adI a1 ha)
        rw [List.map_cons, List.map_cons, e0]
        obtain ⟨f1, f2⟩ := ni_fitV (w := w) hf
        obtain ⟨z1, z2⟩ := ni_setZ (t' := t) (vs' := vs.set k v) ha (by simp)
        refine va_put (D := (w.1, w.2.1)) X.1 X.2.1 X.2.2.2.2.1 hin ty0 hty hnm X.2.2.2.1 X.2.2.2.2.2.2.2.1.1 a1.1 ni_D a2 a he hc k hk (X.2.2.2.2.1 _ hl) (fun x h => u_same (X.2.2.2.2.1 _ hsf) x h) hfin (hty k hk) f1 f2 (by simpa using hkl) hdg (fun H1 locs1 hP1 hD1 hS1 => ?_)
        rw [← List.map_set, ← ni_eO (w := w) h100, ni_wsS] at hP1
        exact h2 H1 locs1 A cells slots ⟨hP1, ni_lo X.2.2.2.2.2.2.2.2.2.1 hS1 hP1, by simp only [List.length_set]; exact a1.2.2⟩ hS1 a3 (by rw [z1]; exact a4) (by rw [z2]; exact a5) a6
      next => cases hs
    next => cases hs
  next => cases hs
theorem ni_adX (w : ni_W) (k : Nat) : ni_v w (.ref (ni_big + k)) = .ref (w.2.2.2.2 k) := by
  simp only [ni_v, ni_ad]
  rw [if_neg (by omega), Nat.add_sub_cancel_left]
/-- two references that are one -/
def ni_gAc (q : Nat) (st : List Value) : Option (Nat × List Value) := match st with
  | .ref b :: .ref a :: r => if a = b then some (q, r) else none
  | _ => none
theorem ni_acEq {off : Int} {t : Nat} (hdg : decode cc pc = .ok (.if_acmp .eq off, 3)) (ht : (pc : Int) + off = (t : Int)) : ni_Row Y cc pc (ni_gAc t) := by
  intro w xs p l e R s m args below meth c H locs cells slots Q A nL hh d X _ _ _ st q st' h k
  unfold ni_gAc at h
  split at h
  next b a r =>
    split at h
    next hab =>
      subst hab
      cases h
      exact lv_acmp_eq (rx := some (ni_ad w a)) (ry := some (ni_ad w a)) X.1 X.2.1 hdg ht (fun _ => k) (fun z => absurd rfl z)
    next => cases h
  next => cases h
/-- a cast to a class that the cell's own class goes to -/
def ni_sCast (nm : String) (q : Nat) : ni_S := fun _ next ls st M => match st with
  | .ref a :: r => match M.1[a]? with
    | some c => match vwCl[c.1]? with
      | some z => if c.1 < 100 ∧ (z.1, nm) ∈ ni_ca then next q ls (.ref a :: r) M else none
      | none => none
    | none => none
  | _ => none
theorem ni_moCast {nm : String} {q : Nat} : ni_Mo (ni_sCast nm q) := by
  intro call next out hc hn ls st M hs
  unfold ni_sCast at hs
  split at hs
  · split at hs
    · split at hs
      · split at hs
        · exact hn _ _ _ _ hs
        · cases hs
      · cases hs
    · cases hs
  · cases hs
theorem ni_cast {nm : String} {i : Nat} (hdg : decode cc pc = .ok (.checkcast i, 3)) (hl : Cond.classLink Y.cls i nm ∈ ni_tb) : ni_Ok xs Y cc nL rt hh pc (ni_sCast nm (pc + 3)) := by
  intro w p l e R s m args below meth c d out Q M0 X F call next hcl hn ls st M hs
  unfold ni_sCast at hs
  split at hs
  next a r =>
    split at hs
    next c0 ha =>
      obtain ⟨t, vs⟩ := c0
      split at hs
      next z hz =>
        split at hs
        next hq =>
          obtain ⟨h1, h2⟩ := hn _ _ _ _ hs
          refine ⟨h1, fun H locs A cells slots a1 a2 a3 a4 a5 a6 => ?_⟩
          have he := ni_wsG (w := w) ha
          rw [ni_eO hq.1] at he
          have e0 : ni_v w (.ref a) = .ref (ni_B w + a) := congrArg Value.ref (ni_adI a1 ha)
          have := h2 H locs A cells slots a1 a2 a3 a4 a5 a6
          rw [List.map_cons, e0] at this ⊢
          exact va_castY X.1 X.2.1 X.2.2.2.1 (X.2.2.2.2.1 _ hl) (X.2.2.2.2.2.2.2.1.2.2.2.1 _ hq.2) (va_recv X.2.2.2.2.2.2.2.1.1 a1.1 hz he) hdg this
        next => cases hs
      next => cases hs
    next => cases hs
  next => cases hs
/-- a store into an array of a class above: the cell's own class goes to it -/
def ni_sQsO (q : Nat) : ni_S := fun _ next ls st M => match st with
  | .ref b :: .int i :: .ref a :: r => match M.1[a]?, M.1[b]? with
    | some c, some o => if 100 ≤ c.1 ∧ ¬ i < 0 ∧ i.toNatClampNeg < c.2.length ∧ o.1 < 100 then (match ni_aks[c.1 - 100]?, vwCl[o.1]? with
      | some (.object C), some z => if (z.1, C) ∈ ni_ca then next q ls r (M.1.set a (c.1, c.2.set i.toNatClampNeg (.ref b)), M.2) else none
      | _, _ => none) else none
    | _, _ => none
  | _ => none
theorem ni_moQsO {q : Nat} : ni_Mo (ni_sQsO q) := by
  intro call next out hc hn ls st M hs
  unfold ni_sQsO at hs
  split at hs
  · split at hs
    next c0 o0 ha hb =>
      obtain ⟨t, vs⟩ := c0
      split at hs
      · split at hs
        · split at hs
          · exact ni_leS ha (by simp) (hn _ _ _ _ hs)
          · cases hs
        · cases hs
      · cases hs
    next => cases hs
  · cases hs
theorem ni_aastO (hdg : decode cc pc = .ok (.aastore, 1)) : ni_Ok xs Y cc nL rt hh pc (ni_sQsO (pc + 1)) := by
  intro w p l e R s m args below meth c d out Q M0 X F call next hcl hn ls st M hs
  unfold ni_sQsO at hs
  split at hs
  next b i a r =>
    split at hs
    next c0 o0 ha hb =>
      obtain ⟨t, vs⟩ := c0
      obtain ⟨ci, ws0⟩ := o0
      dsimp only at hs
      split at hs
      next hq =>
        obtain ⟨q1, q3, q4, q5⟩ := hq
        split at hs
        next C z hC hz =>
          split at hs
          next hca =>
            obtain ⟨h1, h2⟩ := hn _ _ _ _ hs
            refine ⟨ni_leS ha (by simp) h1, fun H locs A cells slots a1 a2 a3 a4 a5 a6 => ?_⟩
            have he := ni_wsG (w := w) ha
            rw [ni_eA q1, ni_arQ hC] at he
            have heb := ni_wsG (w := w) hb
            rw [ni_eO q5] at heb
            have e0 : ni_v w (.ref a) = .ref (ni_B w + a) := congrArg Value.ref (ni_adI a1 ha)
            have e2 : ni_v w (.ref b) = .ref (ni_B w + b) := congrArg Value.ref (ni_adI a1 hb)
            have e3 : ni_r w (.ref b) = some (ni_B w + b) := congrArg some (ni_adI a1 hb)
            rw [List.map_cons, List.map_cons, List.map_cons, e0, e2]
            obtain ⟨z1, z2⟩ := ni_setZ (t' := t) (vs' := vs.set i.toNatClampNeg (.ref b)) ha (by simp)
            refine va_astqO X.1 X.2.1 X.2.2.2.2.2.2.2.1.1 a1.1 ni_D a2 a (t - 100) b ci he (ni_tyG hC) (X.2.2.2.2.2.2.2.1.2.2.2.1 _ hca) heb hz (fun z => z.elim q3 (fun y => by omega)) hdg (fun H1 locs1 hP1 _ hS1 => ?_)
            have e1 : va_up (fun k => ni_r w (vs.getD k .null)) i.toNatClampNeg (some (ni_B w + b)) = fun k => ni_r w ((vs.set i.toNatClampNeg (.ref b)).getD k .null) := by
              rw [← e3]
              exact ni_updQ (w := w) (v := .ref b) q4
            rw [e1, show (vs.length, Sum.inr (Sum.inr (Sum.inr (Sum.inr (fun k => ni_r w ((vs.set i.toNatClampNeg (.ref b)).getD k .null)))))) = ni_ar w (t - 100) (vs.set i.toNatClampNeg (.ref b)) by rw [ni_arQ hC, List.length_set], ← ni_eA (w := w) q1, ni_wsS] at hP1
            exact h2 H1 locs1 A cells slots ⟨hP1, ni_lo X.2.2.2.2.2.2.2.2.2.1 hS1 hP1, by simp only [List.length_set]; exact a1.2.2⟩ hS1 a3 (by rw [z1]; exact a4) (by rw [z2]; exact a5) a6
          next => cases hs
        next => cases hs
      next => cases hs
    next => cases hs
  next => cases hs
/-! arrays of arrays -/
theorem ni_arQA {w : ni_W} {t : Nat} {vs : List Value} {ty : FieldType} (h : ni_aks[t]? = some (.array ty)) : ni_ar w t vs = (vs.length, .inr (.inr (.inr (.inr (fun j => ni_r w (vs.getD j .null)))))) := by
  simp only [ni_ar]
  rw [if_neg (by simp [ni_ak, h]), if_neg (by simp [ni_ak, h]), if_neg (by simp [ni_ak, h])]
theorem ni_anewA {k i : Nat} {t : FieldType} {nm : String} (hnm : (FieldType.array t).toString = nm) (hdg : decode cc pc = .ok (.anewarray i, 3)) (hk : ni_aks[k]? = some (.array t)) (w1 : Cond.classLink Y.cls i nm ∈ ni_tb) (w2 : t ∈ ni_at) : ni_Ok xs Y cc nL rt hh pc (ni_sANew k (pc + 3)) := by
  subst hnm
  intro w p l e R s m args below meth c d out Q M0 X F call next hcl hn ls st M hs
  unfold ni_sANew at hs
  split at hs
  next n r =>
    split at hs
    next hq =>
      obtain ⟨q1, q2, q3, q4⟩ := hq
      obtain ⟨h1, h2⟩ := hn _ _ _ _ hs
      refine ⟨ni_leA h1, fun H locs A cells slots a1 a2 a3 a4 a5 a6 => ?_⟩
      refine ni_sz fun hsz => ?_
      have hsize := ni_clean F.2.2.1 a6 q3 a4 a1 hsz
      obtain ⟨z1, z2⟩ := ni_zA (M := M) (c := (100 + k, List.replicate n.toNatClampNeg .null))
      have b1 := h1.1
      have b2 := h1.2.1
      have b3 := F.1
      have b4 := F.2.1
      rw [z1] at b1
      rw [z2] at b2
      simp only [List.length_replicate] at b2
      have hov : (Cond.arrayOver (.array t)).before args s = true := X.2.2.2.2.2.2.2.1.2.2.2.2.2.2 t w2
      refine W.anewA (t := t) X.1 X.2.1 X.2.2.2.1 (X.2.2.2.2.1 _ w1) hov rfl hdg rfl q1 (by omega) (by omega) (by omega) fun cA kA comp f1 f2 f3 f4 => ?_
      generalize hH1 : H.push ({ cls := cA, slots := Array.replicate n.toNatClampNeg .null, vm := .none } : Cell) = H1
      have y1 : H1.size = H.size + 1 := by rw [← hH1, Array.size_push]
      have e1 : H1[H.size]? = some (arrV cA n.toNatClampNeg (fun _ => .null)) := by rw [← hH1, Array.getElem?_push_size, ← arrV_new]
      have o1 : ∀ q : Nat, q < H.size → H1[q]? = H[q]? := fun q hq => by rw [← hH1, Array.getElem?_push, if_neg (Nat.ne_of_lt hq)]
      have hcA : cA = w.2.2.1 k := by
        have hra := (X.2.2.2.2.2.2.2.1.1.2 k _ (ni_tyG hk)).2
        have g4 : s.vm.findClass ("[" ++ (FieldType.array t).toString) = some (w.2.2.1 k) := hra
        exact Option.some.inj (f1.symm.trans g4)
      have hat : va_at (w.1, w.2.1) vwCl (H.size, ni_e w (100 + k, List.replicate n.toNatClampNeg .null)) H1 := by
        rw [ni_eA (by omega), show 100 + k - 100 = k by omega]
        show H1[H.size]? = some (vp_cell (w.2.2.1 k) (ni_ar w k _))
        rw [e1, hcA, ni_arQA hk, vp_cell_q, List.length_replicate]
        congr 2
        funext j
        rw [ni_getR]
        split <;> rfl
      have := h2 H1 locs A (cells + 1) (slots + n.toNatClampNeg) (ni_AtA a1 y1 hsize q4 o1 hat) (ni_SA a2 y1 o1) a3 (by rw [z1]; omega) (by rw [z2]; simp only [List.length_replicate]; omega) a6
      rw [List.map_cons, ni_adN q4, ← hsize] at this
      exact this
    next => cases hs
  next => cases hs
def ni_sQlA (q : Nat) : ni_S := fun _ next ls st M => match st with
  | .int i :: .ref a :: r => match M.1[a]? with
    | some c => if 100 ≤ c.1 ∧ ¬ i < 0 then (match ni_aks[c.1 - 100]?, c.2[i.toNatClampNeg]? with
      | some (.array _), some v => if ni_ty v = 3 then next q ls (v :: r) M else none
      | _, _ => none) else none
    | none => none
  | _ => none
theorem ni_moQlA {q : Nat} : ni_Mo (ni_sQlA q) := by
  intro call next out hc hn ls st M hs
  unfold ni_sQlA at hs
  split at hs
  · split at hs
    · split at hs
      · split at hs
        · split at hs
          · exact hn _ _ _ _ hs
          · cases hs
        · cases hs
      · cases hs
    · cases hs
  · cases hs
theorem ni_aaldA (hdg : decode cc pc = .ok (.aaload, 1)) : ni_Ok xs Y cc nL rt hh pc (ni_sQlA (pc + 1)) := by
  intro w p l e R s m args below meth c d out Q M0 X F call next hcl hn ls st M hs
  unfold ni_sQlA at hs
  split at hs
  next i a r =>
    split at hs
    next c0 ha =>
      obtain ⟨t, vs⟩ := c0
      dsimp only at hs
      split at hs
      next hq =>
        split at hs
        next C v hC hv =>
          split at hs
          next hty =>
            obtain ⟨h1, h2⟩ := hn _ _ _ _ hs
            refine ⟨h1, fun H locs A cells slots a1 a2 a3 a4 a5 a6 => ?_⟩
            have he := ni_wsG (w := w) ha
            rw [ni_eA hq.1, ni_arQA hC] at he
            have e0 : ni_v w (.ref a) = .ref (ni_B w + a) := congrArg Value.ref (ni_adI a1 ha)
            rw [List.map_cons, List.map_cons, e0]
            have hlt : i.toNatClampNeg < vs.length := (List.getElem?_eq_some_iff.mp hv).1
            have hin := ni_vpin hq.2 hv
            have := h2 H locs A cells slots a1 a2 a3 a4 a5 a6
            rw [List.map_cons, ← ni_rV hty, ← ni_getD hv] at this
            exact W.aald (v := va_rf (ni_r w (vs.getD i.toNatClampNeg .null))) (ty := .array C) X.1 X.2.1 (a1.1 a _ he) ((X.2.2.2.2.2.2.2.1.1.2 (t - 100) _ (ni_tyG hC)).1 vs.length (fun j => va_rf (ni_r w (vs.getD j .null)))) rfl (fun q => by cases q) (by show ¬ (i < 0 ∨ (arrV _ _ _).slots.size ≤ _); rw [arrV_size]; exact hin) (by show (arrV _ _ _).slots[_]? = _; rw [arrV_read _ _ hlt]) rfl rfl hdg this
          next => cases hs
        next => cases hs
      next => cases hs
    next => cases hs
  next => cases hs
def ni_sQsA (q : Nat) : ni_S := fun _ next ls st M => match st with
  | .ref b :: .int i :: .ref a :: r => match M.1[a]?, M.1[b]? with
    | some c, some o => if 100 ≤ c.1 ∧ 100 ≤ o.1 ∧ (c.1 - 100, o.1 - 100) ∈ ni_aa ∧ ¬ i < 0 ∧ i.toNatClampNeg < c.2.length then (match ni_aks[c.1 - 100]? with
      | some (.array _) => next q ls r (M.1.set a (c.1, c.2.set i.toNatClampNeg (.ref b)), M.2)
      | _ => none) else none
    | _, _ => none
  | _ => none
theorem ni_moQsA {q : Nat} : ni_Mo (ni_sQsA q) := by
  intro call next out hc hn ls st M hs
  unfold ni_sQsA at hs
  split at hs
  · split at hs
    next c0 o0 ha hb =>
      obtain ⟨t, vs⟩ := c0
      split at hs
      · split at hs
        · exact ni_leS ha (by simp) (hn _ _ _ _ hs)
        · cases hs
      · cases hs
    next => cases hs
  · cases hs
theorem ni_aastA (hdg : decode cc pc = .ok (.aastore, 1)) : ni_Ok xs Y cc nL rt hh pc (ni_sQsA (pc + 1)) := by
  intro w p l e R s m args below meth c d out Q M0 X F call next hcl hn ls st M hs
  unfold ni_sQsA at hs
  split at hs
  next b i a r =>
    split at hs
    next c0 o0 ha hb =>
      obtain ⟨t, vs⟩ := c0
      obtain ⟨t2, ws0⟩ := o0
      dsimp only at hs
      split at hs
      next hq =>
        obtain ⟨q1, q2, q5, q3, q4⟩ := hq
        split at hs
        next C hC =>
          obtain ⟨h1, h2⟩ := hn _ _ _ _ hs
          refine ⟨ni_leS ha (by simp) h1, fun H locs A cells slots a1 a2 a3 a4 a5 a6 => ?_⟩
          have he := ni_wsG (w := w) ha
          rw [ni_eA q1, ni_arQA hC] at he
          have heb := ni_wsG (w := w) hb
          rw [ni_eA q2] at heb
          have e0 : ni_v w (.ref a) = .ref (ni_B w + a) := congrArg Value.ref (ni_adI a1 ha)
          have e2 : ni_v w (.ref b) = .ref (ni_B w + b) := congrArg Value.ref (ni_adI a1 hb)
          have e3 : ni_r w (.ref b) = some (ni_B w + b) := congrArg some (ni_adI a1 hb)
          rw [List.map_cons, List.map_cons, List.map_cons, e0, e2]
          obtain ⟨z1, z2⟩ := ni_setZ (t' := t) (vs' := vs.set i.toNatClampNeg (.ref b)) ha (by simp)
          obtain ⟨k, ty, g0, g1, g2, k2, g3⟩ := X.2.2.2.2.2.2.2.1.2.2.2.2.2.1 _ q5
          have hty : ty = .array C := Option.some.inj (g0.symm.trans hC)
          subst hty
          have hcb : H[ni_B w + b]? = some (vp_cell (w.2.2.1 (t2 - 100)) (ni_ar w (t2 - 100) ws0)) := a1.1 b _ heb
          have hcls : (vp_cell (w.2.2.1 (t2 - 100)) (ni_ar w (t2 - 100) ws0)).cls = w.2.2.1 (t2 - 100) := by
            unfold vp_cell
            split <;> rfl
          have hvm : (vp_cell (w.2.2.1 (t2 - 100)) (ni_ar w (t2 - 100) ws0)).vm = .none := by
            unfold vp_cell
            split <;> rfl
          refine W.aast (k := k) (kcomp := k2) (kv := k2) (comp := w.2.2.1 (t2 - 100)) X.1 X.2.1 (a1.1 a _ he) (fun q h => by cases h) (fun h => by cases h) g1 g2 rfl g3 ⟨q3, by show _ < (arrV _ _ _).slots.size; rw [arrV_size]; exact q4⟩ hcb (fun q h => by rw [hvm] at h; cases h) (by rw [hcls]; exact g3) (by rw [hcls]; exact va_asg _ _) rfl rfl hdg fun H1 ee z oq => ?_
          have hP1 : va_P (w.1, w.2.1) vwCl ((ni_ws w M.1).set a (ni_B w + a, ni_e w (t, vs.set i.toNatClampNeg (.ref b)))) H1 := by
            refine a1.1.set (A := ni_A w) ni_D he ?_ oq
            rw [ni_eA q1, ni_arQA hC]
            show H1[ni_B w + a]? = some (vp_cell _ _)
            rw [ee]
            show some ((arrV _ _ _).setSlot _ _) = _
            rw [vp_cell_q, arrV_store, List.length_set, ← ni_updQ (w := w) (v := .ref b) q4, e3]
            congr 2
            funext q
            by_cases hq : q = i.toNatClampNeg
            · subst hq
              simp [updV, va_rf, List.getElem?_set, q4, e3]
            · have hq' : ¬ i.toNatClampNeg = q := fun z => hq z.symm
              simp [updV, va_up, hq, List.getElem?_set, hq']
          rw [ni_wsS] at hP1
          have hS1 := a2.put z oq (show ni_A w (ni_B w + a) from Nat.le_add_right _ _) (k := i.toNatClampNeg)
          exact h2 H1 _ A cells slots ⟨hP1, ni_lo X.2.2.2.2.2.2.2.2.2.1 hS1 hP1, by simp only [List.length_set]; exact a1.2.2⟩ hS1 a3 (by rw [z1]; exact a4) (by rw [z2]; exact a5) a6
        next => cases hs
      next => cases hs
    next => cases hs
  next => cases hs
/-! the script -/
def ni_sSln (xs : List Int32) (q : Nat) : ni_S := fun _ next ls st M => match st with
  | .ref a :: r => if a = ni_big then next q ls (.int (Int32.ofNat xs.length) :: r) M else none
  | _ => none
def ni_sSld (xs : List Int32) (q : Nat) : ni_S := fun _ next ls st M => match st with
  | .int i :: .ref a :: r => if a = ni_big ∧ ¬ i < 0 then (match xs[i.toNatClampNeg]? with
    | some x => next q ls (.int x :: r) M
    | none => none) else none
  | _ => none
theorem ni_moSln {q : Nat} : ni_Mo (ni_sSln xs q) := by
  intro call next out hc hn ls st M hs
  unfold ni_sSln at hs
  split at hs
  · split at hs
    · exact hn _ _ _ _ hs
    · cases hs
  · cases hs
theorem ni_moSld {q : Nat} : ni_Mo (ni_sSld xs q) := by
  intro call next out hc hn ls st M hs
  unfold ni_sSld at hs
  split at hs
  · split at hs
    · split at hs
      · exact hn _ _ _ _ hs
      · cases hs
    · cases hs
  · cases hs
theorem ni_big0 (w : ni_W) : ni_v w (.ref ni_big) = .ref (w.2.2.2.2 0) := ni_adX w 0
theorem ni_slen (hdg : decode cc pc = .ok (.arraylength, 1)) : ni_Ok xs Y cc nL rt hh pc (ni_sSln xs (pc + 1)) := by
  intro w p l e R s m args below meth c d out Q M0 X F call next hcl hn ls st M hs
  unfold ni_sSln at hs
  split at hs
  next a r =>
    split at hs
    next hq =>
      subst hq
      obtain ⟨h1, h2⟩ := hn _ _ _ _ hs
      refine ⟨h1, fun H locs A cells slots a1 a2 a3 a4 a5 a6 => ?_⟩
      have hE := X.2.2.2.2.2.2.2.2.1
      have hB := X.2.2.2.2.2.2.2.2.2.1
      have hE2 := hE.2.1
      rw [List.map_cons, ni_big0]
      exact va_slen X.1 X.2.1 hE.1 (by omega) (fun z => by have z2 : ni_B w ≤ w.2.2.2.2 0 := z; omega) a2 hdg (h2 H locs A cells slots a1 a2 a3 a4 a5 a6)
    next => cases hs
  next => cases hs
theorem ni_sld (hdg : decode cc pc = .ok (.iaload, 1)) : ni_Ok xs Y cc nL rt hh pc (ni_sSld xs (pc + 1)) := by
  intro w p l e R s m args below meth c d out Q M0 X F call next hcl hn ls st M hs
  unfold ni_sSld at hs
  split at hs
  next i a r =>
    split at hs
    next hq =>
      split at hs
      next x hx =>
        obtain ⟨hq1, hq2⟩ := hq
        subst hq1
        obtain ⟨h1, h2⟩ := hn _ _ _ _ hs
        refine ⟨h1, fun H locs A cells slots a1 a2 a3 a4 a5 a6 => ?_⟩
        have hE := X.2.2.2.2.2.2.2.2.1
        have hB := X.2.2.2.2.2.2.2.2.2.1
        have hE2 := hE.2.1
        rw [List.map_cons, List.map_cons, ni_big0]
        have := h2 H locs A cells slots a1 a2 a3 a4 a5 a6
        have e : xs.getD i.toNatClampNeg 0 = x := by simp [hx]
        rw [List.map_cons, ← e] at this
        exact va_sld X.1 X.2.1 hE.1 (by omega) (fun z => by have z2 : ni_B w ≤ w.2.2.2.2 0 := z; omega) a2 (fun z => z.elim hq2 (fun y => absurd (List.getElem?_eq_some_iff.mp hx).1 (by omega))) hdg this
      next => cases hs
    next => cases hs
  next => cases hs
/-! a table of jumps -/
def ni_tsf (lo : Int) (D : Nat) (ts : List Nat) (x : Int32) : Nat := if x.toInt < lo then D else ts.getD (x.toInt - lo).toNat D
theorem ni_tsOk {dflt lo hi : Int} {offs : Array Int} {len D : Nat} {ts : List Nat} (hdg : decode cc pc = .ok (.tableswitch dflt lo hi offs, len)) (hn : hi - lo + 1 = (ts.length : Int)) (hD : (pc : Int) + dflt = (D : Int)) (ht : offs.toList.map (fun z => (pc : Int) + z) = ts.map Int.ofNat) : ni_Row Y cc pc (ni_gSw (ni_tsf lo D ts)) := by
  refine ni_tsw _ hdg (fun x hx => ?_) (fun x h1 h2 => ?_)
  · unfold ni_tsf
    split
    · exact hD
    next h =>
      have h2 : hi < x.toInt := hx.resolve_left h
      rw [List.getD_eq_getElem?_getD, List.getElem?_eq_none (by omega)]
      exact hD
  · have hk : (x.toInt - lo).toNat < ts.length := by omega
    have h3 := congrArg (fun z => z[(x.toInt - lo).toNat]?) ht
    simp only [List.getElem?_map, Array.getElem?_toList] at h3
    rw [List.getElem?_eq_getElem hk] at h3
    cases ho : offs[(x.toInt - lo).toNat]? with
    | none => rw [ho] at h3; cases h3
    | some off =>
      rw [ho] at h3
      refine ⟨off, rfl, ?_⟩
      unfold ni_tsf
      rw [if_neg h1, List.getD_eq_getElem?_getD, List.getElem?_eq_getElem hk]
      exact Option.some.inj h3
def ni_lsf (D : Nat) (ts : List (Int × Nat)) (x : Int32) : Nat := match ts with
  | [] => D
  | p :: r => if p.1 = x.toInt then p.2 else ni_lsf D r x
theorem ni_lsA {pc D : Nat} {dflt : Int} {x : Int32} (hD : (pc : Int) + dflt = (D : Int)) : ∀ (l : List (Int × Int)) (ts : List (Int × Nat)), l.map (fun z => (z.1, (pc : Int) + z.2)) = ts.map (fun z => (z.1, (z.2 : Int))) → (pc : Int) + Op.lookupswitch.offset l dflt x.toInt = (ni_lsf D ts x : Int) := by
  intro l
  induction l with
  | nil =>
    intro ts h
    cases ts with
    | nil => exact hD
    | cons p r => cases h
  | cons q l ih =>
    intro ts h
    cases ts with
    | nil => cases h
    | cons p r =>
      obtain ⟨qa, qo⟩ := q
      obtain ⟨pa, pt⟩ := p
      simp only [List.map_cons, List.cons.injEq, Prod.mk.injEq] at h
      obtain ⟨⟨h1, h2⟩, h3⟩ := h
      subst h1
      rw [Op.lookupswitch.offset_cons]
      unfold ni_lsf
      by_cases hk : qa = x.toInt
      · rw [if_pos hk, if_pos hk]
        exact h2
      · rw [if_neg hk, if_neg hk]
        exact ih r h3
theorem ni_lsOk {dflt : Int} {ps : Array (Int × Int)} {len D : Nat} {ts : List (Int × Nat)} (hdg : decode cc pc = .ok (.lookupswitch dflt ps, len)) (hp : (ps.toList.zip (ps.toList.drop 1)).all (fun (a, next) => a.1 < next.1) = true) (ht : ps.toList.map (fun z => (z.1, (pc : Int) + z.2)) = ts.map (fun z => (z.1, (z.2 : Int))) ∧ (pc : Int) + dflt = (D : Int)) : ni_Row Y cc pc (ni_gSw (ni_lsf D ts)) := ni_lsw _ hdg hp (fun _ => ni_lsA ht.2 _ _ ht.1)
end NL
