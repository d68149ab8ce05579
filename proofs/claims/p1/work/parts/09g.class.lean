/-! the Class object of Object[], a call by an interface's name, a copy of nothing (ArrayList.toArray of an empty list) -/
section NGC
variable {xs : List Int32} {Y : MethodName} {cc : ByteArray} {nL pc : Nat} {rt : Option FieldType} {hh : List (Nat × Nat × Nat × Nat)}
theorem ni_MiEv {s : State} {args : Array Value} {A : Nat → Prop} {z y : Nat} {H : Heap} (h : ni_Mi A z y s H) : (Term.mirror "[Ljava/lang/Object;").eval args s none [] s = some (.ref y) := by
  obtain ⟨-, ⟨c, k, g1, g2, g3⟩, -⟩ := h
  simp [Term.eval, g1, g2, g3]
def ni_sMi (q : Nat) : ni_S := fun _ next ls st M => next q ls (.ref (ni_big + 2) :: st) M
theorem ni_moMi {q : Nat} : ni_Mo (ni_sMi q) := fun _ _ _ _ hn _ _ _ hs => hn _ _ _ _ hs
theorem ni_upMi {q : Nat} : ni_Up (ni_sMi q) := fun _ _ _ _ _ hn _ _ _ _ h => hn _ _ _ _ _ h
theorem ni_frMi {q : Nat} : ni_Fr (ni_sMi q) := by
  intro E Z n0 h0 hE call call' next next' o hb hc hn hm ls st M H hM hs
  have := hn _ _ _ _ _ hM hs
  rw [List.map_cons, ni_shX] at this
  exact this
theorem ni_muMi {q : Nat} : ni_MU (ni_sMi q) := ⟨ni_moMi, ni_upMi, ni_frMi⟩
theorem ni_ldcMi {i : Nat} (hdg : decode cc pc = .ok (.ldc i, 2)) (hl : Cond.classLink Y.cls i "[Ljava/lang/Object;" ∈ ni_tb) : ni_Ok xs Y cc nL rt hh pc (ni_sMi (pc + 2)) := by
  intro w p l e R s m args below meth c d out Q M0 X F call next hcl hn ls st M hs
  obtain ⟨h1, h2⟩ := hn _ _ _ _ hs
  refine ⟨h1, fun H locs A cells slots a1 a2 a3 a4 a5 a6 => ?_⟩
  have k := h2 H locs A cells slots a1 a2 a3 a4 a5 a6
  rw [List.map_cons, ni_adX] at k
  intro T hT St
  obtain ⟨vm', St', step⟩ := St.ldcMirror X.1 X.2.2.2.1 (X.2.2.2.2.1 _ hl) (ni_MiEv X.2.2.2.2.2.2.2.2.1.2.2.2.2.2.2.2) (g := F0 m pc A (st.map (ni_v w))) rfl (by rw [X.2.1]; exact hdg)
  obtain ⟨t, b1, b2⟩ := k (T.setVm vm') hT St'
  exact ⟨t, step t b1, b2⟩
/-- getClass of the array that was there before -/
def ni_sGc (q : Nat) : ni_S := fun _ next ls st M => match st with
  | .ref a :: r => if a = ni_big + 1 ∧ ni_cs r ≤ 8 then next q ls (.ref (ni_big + 2) :: r) M else none
  | _ => none
theorem ni_moGc {q : Nat} : ni_Mo (ni_sGc q) := by
  intro call next out hc hn ls st M hs
  unfold ni_sGc at hs
  split at hs
  · split at hs
    · exact hn _ _ _ _ hs
    · cases hs
  · cases hs
theorem ni_upGc {q : Nat} : ni_Up (ni_sGc q) := by
  intro call call' next next' hc hn ls st M o h
  unfold ni_sGc at h ⊢
  split at h
  · split at h
    next h3 => rw [if_pos h3]; exact hn _ _ _ _ _ h
    next => cases h
  · cases h
theorem ni_frGc {q : Nat} : ni_Fr (ni_sGc q) := by
  intro E Z n0 h0 hE call call' next next' o hb hc hn hm ls st M H hM hs
  unfold ni_sGc at hs ⊢
  split at hs
  next a r =>
    split at hs
    next hq =>
      obtain ⟨rfl, hq⟩ := hq
      simp only [List.map_cons, ni_shX]
      rw [if_pos ⟨trivial, by rw [ni_shS]; exact hq⟩]
      have := hn _ _ _ _ _ hM hs
      rw [List.map_cons, ni_shX] at this
      exact this
    next => cases hs
  next => cases hs
theorem ni_muGc {q : Nat} : ni_MU (ni_sGc q) := ⟨ni_moGc, ni_upGc, ni_frGc⟩
theorem ni_getClass {i : Nat} (hdg : decode cc pc = .ok (.invokevirtual i, 3)) (w1 : Cond.methodLink Y.cls i ⟨"java/lang/Object", "getClass", "()Ljava/lang/Class;"⟩ ∈ ni_tb) (w2 : Cond.sameMethod "java/lang/Object" "java/lang/Object" "getClass" "()Ljava/lang/Class;" ∈ ni_tb)
    (w3 : Cond.native ⟨"java/lang/Object", "getClass", "()Ljava/lang/Class;"⟩ ∈ ni_tb) (w4 : Cond.instanceMethod ⟨"java/lang/Object", "getClass", "()Ljava/lang/Class;"⟩ ∈ ni_tb) (w5 : Cond.selects "[Ljava/lang/Object;" ⟨"java/lang/Object", "getClass", "()Ljava/lang/Class;"⟩ ⟨"java/lang/Object", "getClass", "()Ljava/lang/Class;"⟩ ∈ ni_tb) : ni_Ok xs Y cc nL rt hh pc (ni_sGc (pc + 3)) := by
  intro w p l e R s m args below meth c d out Q M0 X F call next hcl hn ls st M hs
  unfold ni_sGc at hs
  split at hs
  next a r =>
    split at hs
    next hq =>
      obtain ⟨rfl, hq⟩ := hq
      obtain ⟨h1, h2⟩ := hn _ _ _ _ hs
      refine ⟨h1, fun H locs A cells slots a1 a2 a3 a4 a5 a6 => ?_⟩
      have k := h2 H locs A cells slots a1 a2 a3 a4 a5 a6
      rw [List.map_cons, ni_adX] at k
      rw [List.map_cons, ni_adX]
      have hMi := X.2.2.2.2.2.2.2.2.1.2.2.2.2.2.2.2
      obtain ⟨cell, c1, c2, c3, c4⟩ := hMi.1
      have hc1 : H[w.2.2.2.2 1]? = some cell := by rw [a2.2.1 _ (Array.getElem?_eq_some_iff.mp c1).1 c4]; exact c1
      have r1 := X.2.2.2.2.2.2.2.2.2.2.1
      have r2 := X.2.2.2.2.2.2.2.2.2.2.2.1
      intro T hT St
      obtain ⟨vm', St', step⟩ := St.getClass X.1 X.2.2.2.1 (X.2.2.2.2.1 _ w1) (X.2.2.2.2.1 _ w2) (X.2.2.2.2.1 _ w3) (X.2.2.2.2.1 _ w4) (X.2.2.2.2.1 _ w5) (a := w.2.2.2.2 1) (cell := cell) (by rw [hT]; exact hc1) c2 c3 (ni_MiEv hMi) (g := F0 m pc A (.ref (w.2.2.2.2 1) :: r.map (ni_v w))) rfl (by rw [X.2.2.1]; exact a3.1) rfl (by rw [X.2.1]; exact hdg) (by omega) (by
        rw [ni_csM]
        show 2 * 0 + ni_cs r + 14 ≤ R.locals
        omega)
      obtain ⟨t, b1, b2⟩ := k (T.setVm vm') hT St'
      exact ⟨t, step t b1, b2⟩
    next => cases hs
  next => cases hs
theorem ni_acNe {off : Int} {t : Nat} (hdg : decode cc pc = .ok (.if_acmp .ne off, 3)) (ht : (pc : Int) + off = (t : Int)) : ni_Row Y cc pc (ni_gAc (pc + 3)) := by
  intro w xs p l e R s m args below meth c H locs cells slots Q A nL hh d X _ _ _ st q st' h k
  unfold ni_gAc at h
  split at h
  next b a r =>
    split at h
    next hab =>
      subst hab
      cases h
      exact lv_acmp_ne (rx := some (ni_ad w a)) (ry := some (ni_ad w a)) X.1 X.2.1 hdg ht (fun z => absurd rfl z) (fun _ => k)
    next => cases h
  next => cases h
/-- a copy of nothing out of the array that was there before -/
def ni_sC0 (q : Nat) : ni_S := fun _ next ls st M => match st with
  | .int n :: .int dp :: .ref b :: .int sp :: .ref a :: r => match M.1[b]? with
    | some cb => if a = ni_big + 1 ∧ 100 ≤ cb.1 ∧ ni_aks[cb.1 - 100]? = some (.object "java/lang/Object") ∧ n = 0 ∧ sp = 0 ∧ dp = 0 ∧ ni_cs r ≤ 8 then next q ls r M else none
    | none => none
  | _ => none
theorem ni_moC0 {q : Nat} : ni_Mo (ni_sC0 q) := by
  intro call next out hc hn ls st M hs
  unfold ni_sC0 at hs
  split at hs
  · split at hs
    · split at hs
      · exact hn _ _ _ _ hs
      · cases hs
    · cases hs
  · cases hs
theorem ni_upC0 {q : Nat} : ni_Up (ni_sC0 q) := by
  intro call call' next next' hc hn ls st M o h
  unfold ni_sC0 at h ⊢
  split at h
  · split at h
    · split at h
      next h1 _ h2 h3 => simp only [h2, if_pos h3]; exact hn _ _ _ _ _ h
      next => cases h
    · cases h
  · cases h
theorem ni_frC0 {q : Nat} : ni_Fr (ni_sC0 q) := by
  intro E Z n0 h0 hE call call' next next' o hb hc hn hm ls st M H hM hs
  unfold ni_sC0 at hs ⊢
  split at hs
  next n dp b sp a r =>
    split at hs
    next cb hcb =>
      split at hs
      next hq =>
        obtain ⟨rfl, hq⟩ := hq
        obtain ⟨hab, hH⟩ := ni_EmG hM hcb (ni_nh1 hq.1)
        simp only [List.map_cons, ni_shX, ni_shR hab, show ∀ x : Int32, ni_sh E (.int x) = .int x from fun _ => rfl, hH]
        rw [if_pos ⟨trivial, hq.1, hq.2.1, hq.2.2.1, hq.2.2.2.1, hq.2.2.2.2.1, by rw [ni_shS]; exact hq.2.2.2.2.2⟩]
        exact hn _ _ _ _ _ hM hs
      next => cases hs
    next => cases hs
  next => cases hs
theorem ni_muC0 {q : Nat} : ni_MU (ni_sC0 q) := ⟨ni_moC0, ni_upC0, ni_frC0⟩
theorem ni_copy0 {i : Nat} (hdg : decode cc pc = .ok (.invokestatic i, 3)) (w1 : Cond.methodLink Y.cls i arraycopyName ∈ ni_tb) (w2 : Cond.native arraycopyName ∈ ni_tb) (w3 : Cond.static arraycopyName ∈ ni_tb) (w4 : Cond.initialized "java/lang/System" ∈ ni_tb) : ni_Ok xs Y cc nL rt hh pc (ni_sC0 (pc + 3)) := by
  intro w p l e R s m args below meth c d out Q M0 X F call next hcl hn ls st M hs
  unfold ni_sC0 at hs
  split at hs
  next n dp b sp a r =>
    split at hs
    next cb hb =>
      obtain ⟨tb, vb⟩ := cb
      dsimp only at hs
      split at hs
      next hq =>
        obtain ⟨rfl, q1, q2, rfl, rfl, rfl, q9⟩ := hq
        obtain ⟨h1, h2⟩ := hn _ _ _ _ hs
        refine ⟨h1, fun H locs A cells slots a1 a2 a3 a4 a5 a6 => ?_⟩
        have heb := ni_wsG (w := w) hb
        rw [ni_eA q1, ni_arQ q2] at heb
        have e1 : ni_v w (.ref b) = .ref (ni_B w + b) := congrArg Value.ref (ni_adI a1 hb)
        rw [List.map_cons, List.map_cons, List.map_cons, List.map_cons, List.map_cons, e1, ni_adX]
        have r1 := X.2.2.2.2.2.2.2.2.2.2.1
        have r2 := X.2.2.2.2.2.2.2.2.2.2.2.1
        refine va_copyg (D := (w.1, w.2.1)) X.1 X.2.1 (by rw [X.2.2.1]; exact a3.1.symm) X.2.2.2.1 (X.2.2.2.2.1 _ w1) (X.2.2.2.2.1 _ w2) (X.2.2.2.2.1 _ w3) (X.2.2.2.2.1 _ w4) X.2.2.2.2.2.2.2.1.1 a1.1 ni_D a2 b (tb - 100) X.2.2.2.2.2.2.2.2.1.2.2.2.2.2.2.1 heb (ni_tyG q2) (by decide) (by decide) (by decide) (Nat.le_refl 0) (Nat.zero_le _) (by omega) ?_ hdg (fun H1 locs1 hP1 _ hS1 => ?_)
        · rw [ni_csM]
          have : nativeFrameWords "java/lang/System" "arraycopy" 5 + 11 ≤ 292 := by decide +kernel
          omega
        · have e9 : (ni_ws w M.1).set b (ni_B w + b, .inl (w.2.2.1 (tb - 100), vb.length, .inr (.inr (.inr (.inr (va_cpy (fun _ => none) (fun j => ni_r w (vb.getD j .null)) (0 : Int32).toNatClampNeg (0 : Int32).toNatClampNeg (0 : Int32).toNatClampNeg)))))) = ni_ws w M.1 := by
            apply List.ext_getElem?
            intro k
            rw [List.getElem?_set]
            by_cases hk : b = k
            · subst hk
              rw [if_pos rfl, if_pos (List.getElem?_eq_some_iff.mp heb).1, heb]
              congr 5
            · rw [if_neg hk]
          rw [e9] at hP1
          exact h2 H1 locs1 A cells slots ⟨hP1, ni_lo X.2.2.2.2.2.2.2.2.2.1 hS1 hP1, a1.2.2⟩ hS1 a3 a4 a5 a6
      next => cases hs
    next => cases hs
  next => cases hs
end NGC
