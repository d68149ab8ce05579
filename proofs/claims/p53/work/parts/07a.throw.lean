section NW
variable {xs : List Int32} {Y : MethodName} {cc : ByteArray} {nL pc : Nat} {rt : Option FieldType} {hh : List (Nat × Nat × Nat × Nat)}
/-- throw new E(text): the cell that is made is nobody's -/
def ni_sTh (E : String) : ni_S := fun _ _ _ st M => if ni_cs st ≤ 8 then some (.inr E, (M.1, M.2 + 1)) else none
theorem ni_leG (M : ni_H) : ni_le M (M.1, M.2 + 1) := ⟨by simp only [ni_zc]; omega, by simp only [ni_zs]; omega, Nat.le_succ _⟩
theorem ni_throw {E : String} (h : ni_Th Y.cls cc pc E) : ni_Ok xs Y cc nL rt [] pc (ni_sTh E) := by
  intro w p l e R s m args below meth c d out Q M0 X F call next hcl hn ls st M hs
  unfold ni_sTh at hs
  split at hs
  next hcs =>
    have hs : out = (.inr E, (M.1, M.2 + 1)) := (Option.some.inj hs).symm
    refine ⟨by rw [hs]; exact ni_leG M, fun H locs A cells slots a1 a2 a3 a4 a5 a6 => ?_⟩
    exact F.2.2.2.2.2.1 Y.cls E M pc H locs A cells slots st hs X.2.2.2.1 h hcs a1 a2 a4 a5 (ni_tab0 X) (a3.1.trans X.2.2.1.symm)
  next => cases hs
/-- a call in a method that catches E0: the exception goes into the local k, the walk on to q1 -/
def ni_aftX (E0 : String) (q1 k : Nat) (next : ni_K) (q : Nat) (ls r : List Value) (o : Option ni_O) : Option ni_O := match o with
  | some (.inl v, M) => next q ls (v.toList ++ r) M
  | some (.inr E, M) => if E = E0 then next q1 ((ni_kp ls k).set k ni_J) [] M else none
  | none => none
def ni_sVX (y n ci : Nat) (E0 : String) (q1 k q : Nat) : ni_S := fun call next ls st M => match st.drop n with
  | .ref a :: r => match M.1[a]? with
    | some c => if c.1 = ci ∧ ni_cs r ≤ 8 then ni_aftX E0 q1 k next q ls r (call y (.ref a :: (st.take n).reverse) M) else none
    | none => none
  | _ => none
theorem ni_stJ {w : ni_W} {nL : Nat} {A A' : Array Slot} {ls : List Value} {i : Nat} {u : Value} (h : ni_L w nL A ls) (h' : lv_has A' nL ((i, u) :: (ni_lv w ls).filter (fun q => !(q.1 == i) && !(q.1 + 1 == i && q.2.category == 2)))) : ni_L w nL A' ((ni_kp ls i).set i ni_J) := by
  refine ⟨h'.1, h'.2.1, by rw [List.length_set, ni_kpL]; exact h.2.2.1, fun j u hj ht => ?_⟩
  by_cases hi : i = j
  · subst hi
    have hl : i < (ni_kp ls i).length := by
      have := (List.getElem?_eq_some_iff.mp hj).1
      simpa using this
    rw [List.getElem?_set_self hl] at hj
    cases hj
    exact absurd ht (by decide)
  · rw [List.getElem?_set_ne hi] at hj
    obtain ⟨h1, h2⟩ := ni_kpG hj ht
    refine h'.2.2 (j, ni_v w u) (List.mem_cons_of_mem _ (List.mem_filter.mpr ⟨ni_lvM.mpr ⟨u, h1, ht, rfl⟩, ?_⟩))
    simp only [Bool.and_eq_true, Bool.not_eq_true', Bool.and_eq_false_imp, beq_eq_false_iff_ne, beq_iff_eq, ne_eq]
    refine ⟨fun z => hi z.symm, fun z => ?_⟩
    rw [ni_cat]
    exact fun y => h2 ⟨z, y⟩
/-- a call of a method of a class, in a method whose first row of the table catches E0 (the very class) -/
theorem ni_virtX {y n ci i q1 k ct lo hi hp : Nat} {j : Fin 4} {C E0 : String} {T : u_T} {N : Nat} {ht : List (Nat × Nat × Nat × Nat)} (hdg : decode cc pc = .ok (.invokevirtual i, 3)) (h100 : ci < 100) (hc : vwCl[ci]? = some (C, T, N)) (hC : (ni_ms y).1.cls = C) (w1 : Cond.methodLink Y.cls i (ni_ms y).1 ∈ ni_tb) (w2 : Cond.instanceMethod (ni_ms y).1 ∈ ni_tb) (w3 : Cond.selects C (ni_ms y).1 (ni_ms y).1 ∈ ni_tb) (w4 : Cond.initialized C ∈ ni_tb) (w5 : ni_cw y ∈ ni_tb)
    (hd : (ni_ms y).1.cls ≠ "java/lang/invoke/MethodHandle" ∧ (ni_ms y).1.cls ≠ "java/lang/invoke/VarHandle" ∧ (parseMethodDescriptor (ni_ms y).1.desc).map (fun d => d.parameters.length) = some n) (hL : (ni_ms y).2.2.1 ≤ 45) (h0 : (ni_ms y).2.2.2.2 = [])
    (hin : lo ≤ pc ∧ pc < hi) (hct : ct ≠ 0) (w6 : Cond.classLink Y.cls ct E0 ∈ ni_tb) (w7 : (E0, E0) ∈ ni_ca) (hst : (decode cc hp = .ok (.astore_n j, 1) ∧ (j : Nat) = k ∧ q1 = hp + 1) ∨ (decode cc hp = .ok (.astore k, 2) ∧ q1 = hp + 2)) (hk : k < nL) : ni_Ok xs Y cc nL rt ((lo, hi, hp, ct) :: ht) pc (ni_sVX y n ci E0 q1 k (pc + 3)) := by
  intro w p l e R s m args below meth c d out Q M0 X F call next hcl hn ls st M hs
  unfold ni_sVX at hs
  split at hs
  next a r hst0 =>
    split at hs
    next c0 ha =>
      obtain ⟨t, vs⟩ := c0
      dsimp only at hs
      split at hs
      next hq =>
        obtain ⟨rfl, hcs⟩ := hq
        cases ho : call y (.ref a :: (st.take n).reverse) M with
        | none => rw [ho] at hs; cases hs
        | some o =>
          rw [ho] at hs
          obtain ⟨d', hd', hle, hM⟩ := hcl y _ M o ho
          obtain ⟨o1, M1⟩ := o
          obtain ⟨kc, hkc⟩ : ∃ kc, ni_zc M1 = ni_zc M + kc := ⟨ni_zc M1 - ni_zc M, by have := hle.1; dsimp only at this; omega⟩
          obtain ⟨ks, hks⟩ : ∃ ks, ni_zs M1 = ni_zs M + ks := ⟨ni_zs M1 - ni_zs M, by have := hle.2.1; dsimp only at this; omega⟩
          have hM := hM kc ks hkc hks
          have b3 := F.1
          have b4 := F.2.1
          have key : ni_le M1 out.2 → (∀ (H : Heap) (locs : List Loc) (A : Array Slot) (cells slots : Nat), ni_At w M H → va_S (ni_A w) s.heap H locs → ni_L w nL A ls → ni_zc M = ni_zc M0 + cells → ni_zs M = ni_zs M0 + slots → M0.2 ≤ M.2 →
              (∀ (v : Option Value) (H1 : Heap) (locs1 : List Loc), o1 = .inl v → ni_At w M1 H1 → va_S (ni_A w) s.heap H1 locs1 → W p l e R s m args below meth c H1 locs1 (cells + kc) (slots + ks) Q (F0 m (pc + 3) A (v.toList.map (ni_v w) ++ r.map (ni_v w)))) →
              (∀ (E : String) (ce : Cell) (q9 : Addr) (H1 : Heap) (locs1 : List Loc), o1 = .inr E → ni_At w M1 H1 → va_S (ni_A w) s.heap H1 locs1 → H1[q9]? = some ce → ce.vm = .none → s.vm.findClass E = some ce.cls → vx_W p l e R s m args below meth c H1 locs1 (cells + kc) (slots + ks) Q (F0 m pc A (r.map (ni_v w))) q9) →
              W p l e R s m args below meth c H locs cells slots Q (F0 m pc A (st.map (ni_v w)))) := by
            intro g1 H locs A cells slots a1 a2 a3 a4 a5 a6 kk kx
            have c1 := g1.1
            have c2 := g1.2.1
            refine ni_sz fun hsz0 => ?_
            have hsz : M.2 = 0 → H.size = ni_B w + M.1.length := fun h0 => ni_clean F.2.2.1 a6 h0 a4 a1 hsz0
            have he := ni_wsG (w := w) ha
            rw [ni_eO h100] at he
            have e0 : ni_v w (.ref a) = .ref (ni_B w + a) := congrArg Value.ref (ni_adI a1 ha)
            have hlen : n < st.length := by
              have h1 := congrArg List.length hst0
              simp only [List.length_drop, List.length_cons] at h1
              omega
            have r1 := X.2.2.2.2.2.2.2.2.2.2.1
            have r2 := X.2.2.2.2.2.2.2.2.2.2.2.1
            rw [List.map_cons, e0] at hM
            have hr : vx_Run p l e R s m args below meth c H locs cells slots kc ks (F0 m pc A (st.map (ni_v w))) (r.map (ni_v w)) (ni_Q w (o1, M1) #[]) (ni_X w (o1, M1)) (ni_A w) := by
              refine vx_runV (Qc := ni_Q w (o1, M1)) (C := C) (b := ni_B w + a) (As := ((st.take n).reverse).map (ni_v w)) (n := n) (ni_Ts X) hM
                (cwV n X.2.2.2.2.1 (ni_goodA (fun z hz => by simp only [List.mem_cons, List.not_mem_nil, or_false] at hz; rcases hz with rfl | rfl | rfl | rfl <;> assumption) (ni_good1 w5)) (ni_mw0 h0) rfl rfl ⟨hC, hd⟩ ⟨?_, ?_⟩)
                ⟨by rw [← e0, ← List.map_cons]; exact ni_blind, va_recv X.2.2.2.2.2.2.2.1.1 a1.1 hc he, fun U hU hW => ⟨rfl, ni_pre X.2.2.2.2.2.2.2.1 X.2.2.2.2.2.2.2.2.1 X.2.2.2.2.2.2.2.2.2.1 a1 a2 hsz hU hW⟩⟩ rfl (by simp; omega) a3.1 ?_ ?_ hdg ⟨by omega, by omega⟩
              · show d' + 8 + 1 ≤ R.frames
                omega
              · exact ni_rmL hL (by rw [← hd']; exact r2)
              · show st.map (ni_v w) = _
                rw [ni_revM (n := n), hst0, List.map_cons, e0]
              · rw [ni_csM]
                show 2 * 0 + ni_cs r ≤ 8
                omega
            exact ni_call hr a2 kk kx
          cases o1 with
          | inl v =>
            obtain ⟨h1, h2⟩ := hn _ _ _ _ hs
            refine ⟨⟨Nat.le_trans hle.1 h1.1, Nat.le_trans hle.2.1 h1.2.1, Nat.le_trans hle.2.2 h1.2.2⟩, fun H locs A cells slots a1 a2 a3 a4 a5 a6 => ?_⟩
            refine key h1 H locs A cells slots a1 a2 a3 a4 a5 a6 (fun v' H1 locs1 hv g1 g2 => ?_) (fun E ce q9 H1 locs1 hE => by cases hE)
            cases hv
            have hg : M0.2 ≤ M1.2 := Nat.le_trans a6 hle.2.2
            have := h2 H1 locs1 A (cells + kc) (slots + ks) g1 g2 a3 (by omega) (by omega) hg
            rw [List.map_append] at this
            exact this
          | inr E =>
            simp only [ni_aftX] at hs
            split at hs
            next hE0 =>
              subst hE0
              obtain ⟨h1, h2⟩ := hn _ _ _ _ hs
              refine ⟨⟨Nat.le_trans hle.1 h1.1, Nat.le_trans hle.2.1 h1.2.1, Nat.le_trans hle.2.2 h1.2.2⟩, fun H locs A cells slots a1 a2 a3 a4 a5 a6 => ?_⟩
              refine key h1 H locs A cells slots a1 a2 a3 a4 a5 a6 (fun v' H1 locs1 hv => by cases hv) (fun E' ce q9 H1 locs1 hE g1 g2 g3 g4 g5 => ?_)
              cases hE
              have htab := X.2.2.2.2.2.2.2.2.2.2.2.2
              cases hT : c.exceptionTable.toList with
              | nil => rw [hT] at htab; cases htab
              | cons x suf =>
                rw [hT, List.map_cons] at htab
                obtain ⟨hx1, -⟩ := List.cons.inj htab
                have e1 : x.startPc = lo := congrArg (fun z => z.1) hx1
                have e2 : x.endPc = hi := congrArg (fun z => z.2.1) hx1
                have e3 : x.handlerPc = hp := congrArg (fun z => z.2.2.1) hx1
                have e4 : x.catchType = ct := congrArg (fun z => z.2.2.2) hx1
                have hg : M0.2 ≤ M1.2 := Nat.le_trans a6 hle.2.2
                refine vx_catch (own := Y.cls) (name := E) X.2.2.2.1 [] x suf (by rw [hT]; rfl) (fun z hz => by cases hz) (by simp [covers, e1, e2, hin.1, hin.2]) (by rw [e4]; exact hct) (by rw [e4]; exact X.2.2.2.2.1 _ w6) (va_Nw.use rfl (X.2.2.2.2.2.2.2.1.2.2.2.1 _ w7)) g3 g4 g5 ?_
                rw [e3]
                rcases hst with ⟨k1, k2, k3⟩ | ⟨k1, k3⟩
                · refine lv_astore_n X.1 X.2.1 k1 k2 (ni_Lh a3) hk rfl (fun A' h' => ?_)
                  have := h2 H1 locs1 A' (cells + kc) (slots + ks) g1 g2 (ni_stJ a3 h') (by omega) (by omega) hg
                  rw [k3] at this
                  exact this
                · refine lv_astore X.1 X.2.1 k1 (ni_Lh a3) hk rfl (fun A' h' => ?_)
                  have := h2 H1 locs1 A' (cells + kc) (slots + ks) g1 g2 (ni_stJ a3 h') (by omega) (by omega) hg
                  rw [k3] at this
                  exact this
            next => cases hs
      next => cases hs
    next => cases hs
  next => cases hs
/-- a static call of a method with a table -/
theorem ni_statX {y n i : Nat} (hdg : decode cc pc = .ok (.invokestatic i, 3)) (w1 : Cond.methodLink Y.cls i (ni_ms y).1 ∈ ni_tb) (w2 : Cond.static (ni_ms y).1 ∈ ni_tb) (w4 : Cond.initialized (ni_ms y).1.cls ∈ ni_tb) (w5 : ni_cw y ∈ ni_tb)
    (hd : (ni_ms y).1.cls ≠ "java/lang/invoke/MethodHandle" ∧ (ni_ms y).1.cls ≠ "java/lang/invoke/VarHandle" ∧ (parseMethodDescriptor (ni_ms y).1.desc).map (fun d => d.parameters.length) = some n) (hL : (ni_ms y).2.2.1 ≤ 45) (h0 : (ni_ms y).2.2.2.2 ≠ []) : ni_Ok xs Y cc nL rt [] pc (ni_sC y n (pc + 3)) := by
  intro w p l e R s m args below meth c d out Q M0 X F call next hcl hn ls st M hs
  unfold ni_sC at hs
  split at hs
  next hq =>
    obtain ⟨hlen, hcs⟩ := hq
    refine ni_okCall X F hcl hn hs fun d' kc ks o H locs A cells slots hd' hM hf a1 a2 a3 hsz => ⟨#[], ?_⟩
    have r1 := X.2.2.2.2.2.2.2.2.2.2.1
    have r2 := X.2.2.2.2.2.2.2.2.2.2.2.1
    have w5' : Cond.codeWith (ni_ms y).1 (ni_ms y).2.1 (ni_ms y).2.2.1 (ni_ms y).2.2.2.1 (ni_ms y).2.2.2.2 ∈ ni_tb := by rw [← ni_cw1 h0]; exact w5
    have hw : ni_mw y = Cond.codeWith (ni_ms y).1 (ni_ms y).2.1 (ni_ms y).2.2.1 (ni_ms y).2.2.2.1 (ni_ms y).2.2.2.2 :: ni_tb := by
      unfold ni_mw
      rw [ni_cw1 h0]
    refine vx_runSX (hh := (ni_ms y).2.2.2.2) (Qc := ni_Q w o) (As := ((st.take n).reverse).map (ni_v w)) (n := n) (ni_Ts X) hM
      (vx_cwSW n X.2.2.2.2.1 (ni_goodA (fun z hz => by simp only [List.mem_cons, List.not_mem_nil, or_false] at hz; rcases hz with rfl | rfl | rfl <;> assumption) (ni_good1 w5)) hw rfl rfl hd ⟨?_, ?_⟩)
      ⟨ni_blind, fun U hU hW => ⟨rfl, ni_pre X.2.2.2.2.2.2.2.1 X.2.2.2.2.2.2.2.2.1 X.2.2.2.2.2.2.2.2.2.1 a1 a2 hsz hU hW⟩⟩ rfl (by simp; omega) a3 ?_ ?_ hdg hf
    · show d' + 8 + 1 ≤ R.frames
      omega
    · exact ni_rmL hL (by rw [← hd']; exact r2)
    · exact ni_revM (n := n)
    · rw [ni_csM]
      show 2 * 0 + ni_cs (st.drop n) ≤ 8
      omega
  next => cases hs
end NW
