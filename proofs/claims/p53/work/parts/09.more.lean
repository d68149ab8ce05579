section NM
variable {xs : List Int32} {Y : MethodName} {cc : ByteArray} {nL pc : Nat} {rt : Option FieldType} {hh : List (Nat × Nat × Nat × Nat)}
theorem ni_dfv (w : ni_W) (ty : FieldType) : ni_v w (defaultValue ty) = defaultValue ty := by cases ty <;> rfl
/-- a new object of the class ci, its fields fs -/
def ni_sNew (ci : Nat) (fs : List Value) (q : Nat) : ni_S := fun _ next ls st M => if M.2 = 0 ∧ M.1.length < ni_big then next q ls (.ref M.1.length :: st) (M.1 ++ [(ci, fs)], M.2) else none
theorem ni_new {ci i N : Nat} {C : String} {T : u_T} {ty0 : Nat → FieldType} {fs : List Value} (hdg : decode cc pc = .ok (.new i, 3)) (h100 : ci < 100) (hc : vwCl[ci]? = some (C, T, N)) (hin : ∀ z ∈ u_ws C T N, z ∈ ni_tb) (hty : ∀ k, k < N → parseFieldDescriptor (T k).2.2.1 = some (ty0 k)) (hN : fs.length = N) (hfs : ∀ j, j < N → defaultValue (ty0 j) = fs.getD j .null)
    (w1 : Cond.classLink Y.cls i C ∈ ni_tb) (w2 : Cond.instantiable C N ∈ ni_tb) (w3 : Cond.initialized C ∈ ni_tb) : ni_Ok xs Y cc nL rt hh pc (ni_sNew ci fs (pc + 3)) := by
  intro w p l e R s m args below meth c d out Q M0 X F call next hcl hn ls st M hs
  unfold ni_sNew at hs
  split at hs
  next hq =>
    obtain ⟨q3, q4⟩ := hq
    obtain ⟨h1, h2⟩ := hn _ _ _ _ hs
    refine ⟨ni_leA h1, fun H locs A cells slots a1 a2 a3 a4 a5 a6 => ?_⟩
    refine ni_sz fun hsz => ?_
    have hsize := ni_clean F.2.2.1 a6 q3 a4 a1 hsz
    obtain ⟨z1, z2⟩ := ni_zA (M := M) (c := (ci, fs))
    have b1 := h1.1
    have b2 := h1.2.1
    have b3 := F.1
    have b4 := F.2.1
    rw [z1] at b1
    rw [z2] at b2
    dsimp only at b2
    have hKn := X.2.2.2.2.2.2.2.1.1.1 ci _ hc
    refine W.newcK X.1 X.2.1 X.2.2.2.1 (X.2.2.2.2.1 _ w1) (X.2.2.2.2.1 _ w2) (X.2.2.2.2.1 _ w3) rfl hdg (by omega) (by omega) hKn.2.1 rfl fun H1 kC hkC e1 y1 o1 => ?_
    have hat : va_at (w.1, w.2.1) vwCl (H.size, ni_e w (ci, fs)) H1 := by
      rw [ni_eO h100]
      refine ⟨_, hc, (u_born ty0 X.2.2.2.2.1 hin hKn hkC e1 hty).to (fun k hk => ?_)⟩
      show defaultValue (ty0 k) = (fs.map (ni_v w)).getD k .null
      rw [hfs k hk]
      have hk2 : k < fs.length := by omega
      have e3 : fs.getD k .null = fs[k] := by simp [hk2]
      have e4 : (fs.map (ni_v w)).getD k .null = ni_v w fs[k] := by simp [hk2]
      rw [e4, e3]
      have e5 := hfs k hk
      rw [e3] at e5
      rw [← e5, ni_dfv]
    have := h2 H1 locs A (cells + 1) (slots + N) (ni_AtA a1 y1 hsize q4 o1 hat) (ni_SA a2 y1 o1) a3 (by rw [z1]; omega) (by rw [z2]; dsimp only; omega) a6
    rw [List.map_cons, ni_adN q4, ← hsize] at this
    exact this
  next => cases hs
theorem ni_moNew {ci q : Nat} {fs : List Value} : ni_Mo (ni_sNew ci fs q) := by
  intro call next out hc hn ls st M hs
  unfold ni_sNew at hs
  split at hs
  · exact ni_leA (hn _ _ _ _ hs)
  · cases hs
/-- a new array of references -/
def ni_sANew (k q : Nat) : ni_S := fun _ next ls st M => match st with
  | .int n :: r => if ¬ n < 0 ∧ n.toNatClampNeg ≤ 1000000 ∧ M.2 = 0 ∧ M.1.length < ni_big then next q ls (.ref M.1.length :: r) (M.1 ++ [(100 + k, List.replicate n.toNatClampNeg .null)], M.2) else none
  | _ => none
theorem ni_moANew {k q : Nat} : ni_Mo (ni_sANew k q) := by
  intro call next out hc hn ls st M hs
  unfold ni_sANew at hs
  split at hs
  · split at hs
    · exact ni_leA (hn _ _ _ _ hs)
    · cases hs
  · cases hs
theorem ni_anew {k i : Nat} {C : String} (hdg : decode cc pc = .ok (.anewarray i, 3)) (hk : ni_aks[k]? = some (.object C)) (w1 : Cond.classLink Y.cls i C ∈ ni_tb) (w2 : C ∈ ni_ao) : ni_Ok xs Y cc nL rt hh pc (ni_sANew k (pc + 3)) := by
  intro w p l e R s m args below meth c d out Q M0 X F call next hcl hn ls st M hs
  unfold ni_sANew at hs
  split at hs
  next n r =>
    split at hs
    next hq =>
      obtain ⟨q1, q2, q3, q4⟩ := hq
      obtain ⟨h1, h2⟩ := hn _ _ _ _ hs
      refine ⟨ni_leA h1, fun H locs A cells slots a1 a2 a3 a4 a5 a6 => ?_⟩
      refine ni_sz fun hsz => ?_
      have hsize := ni_clean F.2.2.1 a6 q3 a4 a1 hsz
      obtain ⟨z1, z2⟩ := ni_zA (M := M) (c := (100 + k, List.replicate n.toNatClampNeg .null))
      have b1 := h1.1
      have b2 := h1.2.1
      have b3 := F.1
      have b4 := F.2.1
      rw [z1] at b1
      rw [z2] at b2
      simp only [List.length_replicate] at b2
      refine W.anew X.1 X.2.1 X.2.2.2.1 (X.2.2.2.2.1 _ w1) (va_AO.use (X.2.2.2.2.2.2.2.1.2.2.1 _ w2)) rfl hdg rfl q1 (by omega) (by omega) (by omega) fun cA kA comp f1 f2 f3 f4 => ?_
      generalize hH1 : H.push ({ cls := cA, slots := Array.replicate n.toNatClampNeg .null, vm := .none } : Cell) = H1
      have y1 : H1.size = H.size + 1 := by rw [← hH1, Array.size_push]
      have e1 : H1[H.size]? = some (arrV cA n.toNatClampNeg (fun _ => .null)) := by rw [← hH1, Array.getElem?_push_size, ← arrV_new]
      have o1 : ∀ q : Nat, q < H.size → H1[q]? = H[q]? := fun q hq => by rw [← hH1, Array.getElem?_push, if_neg (Nat.ne_of_lt hq)]
      have hcA : cA = w.2.2.1 k := by
        obtain ⟨kA', comp', g1, g2, g3, g4⟩ := (X.2.2.2.2.2.2.2.1.1.2 k _ (ni_tyG hk)).2
        exact Option.some.inj (f1.symm.trans g4)
      have hat : va_at (w.1, w.2.1) vwCl (H.size, ni_e w (100 + k, List.replicate n.toNatClampNeg .null)) H1 := by
        rw [ni_eA (by omega), show 100 + k - 100 = k by omega]
        show H1[H.size]? = some (vp_cell (w.2.2.1 k) (ni_ar w k _))
        rw [e1, hcA, ni_arQ hk, vp_cell_q, List.length_replicate]
        congr 2
        funext j
        rw [ni_getR]
        split <;> rfl
      have := h2 H1 locs A (cells + 1) (slots + n.toNatClampNeg) (ni_AtA a1 y1 hsize q4 o1 hat) (ni_SA a2 y1 o1) a3 (by rw [z1]; omega) (by rw [z2]; simp only [List.length_replicate]; omega) a6
      rw [List.map_cons, ni_adN q4, ← hsize] at this
      exact this
    next => cases hs
  next => cases hs
/-- System.arraycopy of ints -/
def ni_cpy (src dst : List Value) (sp dp n : Nat) : List Value := dst.take dp ++ (src.drop sp).take n ++ dst.drop (dp + n)
def ni_sCopy (q : Nat) : ni_S := fun _ next ls st M => match st with
  | .int n :: .int dp :: .ref b :: .int sp :: .ref a :: r => match M.1[a]?, M.1[b]? with
    | some ca, some cb => if 100 ≤ ca.1 ∧ ni_aks[ca.1 - 100]? = some .int ∧ cb.1 = ca.1 ∧ ¬ sp < 0 ∧ ¬ dp < 0 ∧ ¬ n < 0 ∧ sp.toNatClampNeg + n.toNatClampNeg ≤ ca.2.length ∧ dp.toNatClampNeg + n.toNatClampNeg ≤ cb.2.length ∧ ni_cs r ≤ 8 then
        next q ls r (M.1.set b (cb.1, ni_cpy ca.2 cb.2 sp.toNatClampNeg dp.toNatClampNeg n.toNatClampNeg), M.2) else none
    | _, _ => none
  | _ => none
theorem ni_cpyL {src dst : List Value} {sp dp n : Nat} (h1 : sp + n ≤ src.length) (h2 : dp + n ≤ dst.length) : (ni_cpy src dst sp dp n).length = dst.length := by
  simp only [ni_cpy, List.length_append, List.length_take, List.length_drop]
  omega
theorem ni_cpyG {α : Type} (f : Value → α) {src dst : List Value} {sp dp n : Nat} (h1 : sp + n ≤ src.length) (h2 : dp + n ≤ dst.length) : va_cpy (fun j => f (src.getD j .null)) (fun j => f (dst.getD j .null)) sp dp n = fun j => f ((ni_cpy src dst sp dp n).getD j .null) := by
  funext k
  simp only [va_cpy, ni_cpy, List.getD_eq_getElem?_getD]
  by_cases c1 : k < dp
  · rw [if_neg (by omega), List.getElem?_append_left (by simp; omega), List.getElem?_append_left (by simp; omega), List.getElem?_take, if_pos c1]
  · by_cases c2 : k < dp + n
    · rw [if_pos ⟨by omega, c2⟩, List.getElem?_append_left (by simp; omega), List.getElem?_append_right (by simp; omega)]
      simp only [List.length_take, List.getElem?_take, List.getElem?_drop]
      rw [show min dp dst.length = dp by omega, if_pos (by omega)]
    · rw [if_neg (by omega), List.getElem?_append_right (by simp; omega)]
      simp only [List.length_append, List.length_take, List.length_drop, List.getElem?_drop]
      rw [show dp + n + (k - (min dp dst.length + min n (src.length - sp))) = k by omega]
theorem ni_moCopy {q : Nat} : ni_Mo (ni_sCopy q) := by
  intro call next out hc hn ls st M hs
  unfold ni_sCopy at hs
  split at hs
  · split at hs
    next ca cb ha hb =>
      split at hs
      next hq => exact ni_leS (t := cb.1) (vs := cb.2) hb (ni_cpyL hq.2.2.2.2.2.2.1 hq.2.2.2.2.2.2.2.1) (hn _ _ _ _ hs)
      next => cases hs
    next => cases hs
  · cases hs
theorem ni_copy {i : Nat} (hdg : decode cc pc = .ok (.invokestatic i, 3)) (w1 : Cond.methodLink Y.cls i arraycopyName ∈ ni_tb) (w2 : Cond.native arraycopyName ∈ ni_tb) (w3 : Cond.static arraycopyName ∈ ni_tb) (w4 : Cond.initialized "java/lang/System" ∈ ni_tb) : ni_Ok xs Y cc nL rt hh pc (ni_sCopy (pc + 3)) := by
  intro w p l e R s m args below meth c d out Q M0 X F call next hcl hn ls st M hs
  unfold ni_sCopy at hs
  split at hs
  next n dp b sp a r =>
    split at hs
    next ca cb ha hb =>
      obtain ⟨ta, va⟩ := ca
      obtain ⟨tb, vb⟩ := cb
      dsimp only at hs
      split at hs
      next hq =>
        obtain ⟨q1, q2, rfl, q4, q5, q6, q7, q8, q9⟩ := hq
        obtain ⟨h1, h2⟩ := hn _ _ _ _ hs
        refine ⟨ni_leS hb (ni_cpyL q7 q8) h1, fun H locs A cells slots a1 a2 a3 a4 a5 a6 => ?_⟩
        have hea := ni_wsG (w := w) ha
        rw [ni_eA q1, ni_arI (Or.inl q2)] at hea
        have heb := ni_wsG (w := w) hb
        rw [ni_eA q1, ni_arI (Or.inl q2)] at heb
        have e0 : ni_v w (.ref a) = .ref (ni_B w + a) := congrArg Value.ref (ni_adI a1 ha)
        have e1 : ni_v w (.ref b) = .ref (ni_B w + b) := congrArg Value.ref (ni_adI a1 hb)
        rw [List.map_cons, List.map_cons, List.map_cons, List.map_cons, List.map_cons, e0, e1]
        obtain ⟨z1, z2⟩ := ni_setZ (t' := tb) (vs' := ni_cpy va vb sp.toNatClampNeg dp.toNatClampNeg n.toNatClampNeg) hb (ni_cpyL q7 q8)
        have r1 := X.2.2.2.2.2.2.2.2.2.2.1
        have r2 := X.2.2.2.2.2.2.2.2.2.2.2.1
        refine va_copyi (D := (w.1, w.2.1)) X.1 X.2.1 (by rw [X.2.2.1]; exact a3.1.symm) X.2.2.2.1 (X.2.2.2.2.1 _ w1) (X.2.2.2.2.1 _ w2) (X.2.2.2.2.1 _ w3) (X.2.2.2.2.1 _ w4) X.2.2.2.2.2.2.2.1.1 a1.1 ni_D a2 a b (tb - 100) (tb - 100) hea heb (ni_tyG q2) (ni_tyG q2) rfl q4 q5 q6 q7 q8 (fun _ _ => rfl) (by omega) ?_ hdg (fun H1 locs1 hP1 _ hS1 => ?_)
        · rw [ni_csM]
          have : nativeFrameWords "java/lang/System" "arraycopy" 5 + 11 ≤ 292 := by decide +kernel
          omega
        · rw [ni_cpyG ni_i q7 q8, show (vb.length, Sum.inl (fun j => ni_i ((ni_cpy va vb sp.toNatClampNeg dp.toNatClampNeg n.toNatClampNeg).getD j .null))) = ni_ar w (tb - 100) (ni_cpy va vb sp.toNatClampNeg dp.toNatClampNeg n.toNatClampNeg) by rw [ni_arI (Or.inl q2), ni_cpyL q7 q8], ← ni_eA (w := w) q1, ni_wsS] at hP1
          exact h2 H1 locs1 A cells slots ⟨hP1, ni_lo X.2.2.2.2.2.2.2.2.2.1 hS1 hP1, by simp only [List.length_set]; exact a1.2.2⟩ hS1 a3 (by rw [z1]; exact a4) (by rw [z2]; exact a5) a6
      next => cases hs
    next => cases hs
  next => cases hs
end NM
