section NC
variable {xs : List Int32} {Y : MethodName} {cc : ByteArray} {nL pc : Nat} {rt : Option FieldType} {hh : List (Nat × Nat × Nat × Nat)}
theorem ni_aaM {w : ni_W} {s U : State} (hA : s.vm.Alike U.vm) (h : ∀ z ∈ ni_aa, ∃ (k : Class) (ty : FieldType), ni_aks[z.1]? = some ty ∧ s.vm.classes[w.2.2.1 z.1]? = some k ∧ k.kind = .array (w.2.2.1 z.2) ty ∧ ∃ k2, s.vm.classes[w.2.2.1 z.2]? = some k2) :
    ∀ z ∈ ni_aa, ∃ (k : Class) (ty : FieldType), ni_aks[z.1]? = some ty ∧ U.vm.classes[w.2.2.1 z.1]? = some k ∧ k.kind = .array (w.2.2.1 z.2) ty ∧ ∃ k2, U.vm.classes[w.2.2.1 z.2]? = some k2 := by
  intro z hz
  obtain ⟨k, ty, h0, h1, h2, k2, h3⟩ := h z hz
  obtain ⟨k', hk', he⟩ := hA.2.2 _ _ h1
  obtain ⟨k2', hk2', -⟩ := hA.2.2 _ _ h3
  exact ⟨k', ty, h0, hk', by rw [he]; exact h2, k2', hk2'⟩
theorem ni_KnW {w : ni_W} {s U : State} (hW : s.WarmedH U.vm) (h : ni_Kn w s) : ni_Kn w U :=
  ⟨va_K.moved hW.alike h.1, fun z hz => va_Nw.warmM hW (h.2.1 z hz), fun z hz => va_AO.moved hW.alike (h.2.2.1 z hz), fun z hz => va_Nw.warmC hW (h.2.2.2.1 z hz), fun z hz => va_Nw.warmD hW (h.2.2.2.2.1 z hz), ni_aaM hW.alike h.2.2.2.2.2.1, fun t ht => (h.2.2.2.2.2.2 t ht).moved hW.alike⟩
theorem ni_KnV {w : ni_W} {s U : State} (hv : s.vm = U.vm) (h : ni_Kn w s) : ni_Kn w U :=
  have hA : s.vm.Alike U.vm := by rw [hv]; exact Vm.Alike.refl _
  ⟨va_K.moved hA h.1, fun z hz => va_Nw.same rfl hv (h.2.1 z hz), fun z hz => va_AO.moved hA (h.2.2.1 z hz), fun z hz => va_Nw.same rfl hv (h.2.2.2.1 z hz), fun z hz => va_Nw.same rfl hv (h.2.2.2.2.1 z hz), ni_aaM hA h.2.2.2.2.2.1, fun t ht => (h.2.2.2.2.2.2 t ht).moved hA⟩
theorem ni_blind {w : ni_W} {xs : List Int32} {M : ni_H} {av : List Value} : FrameBlind (va_Pc av (ni_Pi w xs M)) := by
  intro a U g mk q
  obtain ⟨q0, q1, q2, q3, q4, q5⟩ := q
  exact ⟨q0, q1, ni_KnV rfl q2, ⟨va_X.moved (Vm.Alike.refl U.vm) q3.1, q3.2.1, ni_ExV rfl q3.2.2⟩, q4, q5⟩
/-- what holds at a call -/
theorem ni_pre {w : ni_W} {xs : List Int32} {M : ni_H} {s U : State} {H : Heap} {locs : List Loc} (hK : ni_Kn w s) (hE : ni_Ev w xs s s.heap) (hB : ni_B w ≤ s.heap.size) (hA : ni_At w M H) (hS : va_S (ni_A w) s.heap H locs) (hsz : M.2 = 0 → H.size = ni_B w + M.1.length) (hU : U.heap = H) (hW : s.WarmedH U.vm) : ni_Pi w xs M U := by
  refine ⟨by rw [hU]; exact hA, ni_KnW hW hK, ⟨?_, hE.2.1, ?_⟩, by rw [hU]; exact Nat.le_trans hB hS.1, by rw [hU]; exact hsz⟩
  · rw [hU]
    refine va_X.moved hW.alike (hE.1.kept (hS.2.1 _ (by have := hE.2.1; omega) (fun z => ?_)))
    have h1 := hE.2.1
    have h2 : ni_B w ≤ w.2.2.2.2 0 := z
    omega
  · rw [hU]
    exact ni_ExW hW (fun q h1 h2 => hS.2.1 q h1 h2) hE.2.2
section C
variable {w : ni_W} {o : ni_O} {p : Program} {l : Launch} {e : Env} {R : Room} {s : State} {m : MethodId} {args : Array Value} {below : List Frame} {meth : Method} {c : Code} {H : Heap} {locs : List Loc} {cells slots kc ks : Nat} {Q : State → Prop} {A : Array Slot} {st0 rest : List Value} {a : Array Value}
theorem ni_call (hr : vx_Run p l e R s m args below meth c H locs cells slots kc ks (F0 m pc A st0) rest (ni_Q w o a) (ni_X w o) (ni_A w)) (hS : va_S (ni_A w) s.heap H locs)
    (kk : ∀ (v : Option Value) (H1 : Heap) (locs1 : List Loc), o.1 = .inl v → ni_At w o.2 H1 → va_S (ni_A w) s.heap H1 locs1 → W p l e R s m args below meth c H1 locs1 (cells + kc) (slots + ks) Q (F0 m (pc + 3) A (v.toList.map (ni_v w) ++ rest)))
    (kx : ∀ (E : String) (ce : Cell) (q9 : Addr) (H1 : Heap) (locs1 : List Loc), o.1 = .inr E → ni_At w o.2 H1 → va_S (ni_A w) s.heap H1 locs1 → H1[q9]? = some ce → ce.vm = .none → s.vm.findClass E = some ce.cls → vx_W p l e R s m args below meth c H1 locs1 (cells + kc) (slots + ks) Q (F0 m pc A rest) q9) : W p l e R s m args below meth c H locs cells slots Q (F0 m pc A st0) := by
  intro T hT X
  rcases hr T hT X with ⟨v, st₀, t, T', L, h0, X', hL, e1, e2, ⟨u, ho, hv, hA1, hF⟩, st⟩ | ⟨q, st₀, t, T', L, E, ce, h0, X', hL, e1, e2, ⟨ho, hA1, hF⟩, hce, hcv, hcl, st⟩
  · have hv : v = u.map (ni_v w) := Outcome.returned.inj hv
    subst hv
    obtain ⟨k1, k2, k3⟩ := vx_keep h0 e1 hS (fun q h1 h2 => h2) (fun q h => h) hL hF
    obtain ⟨t2, a1, b1⟩ := kk u T'.heap (locs ++ L) ho (by rw [e1]; exact hA1) k3 T' rfl X'
    refine ⟨t2, st t2 ?_, b1⟩
    have ee : (u.map (ni_v w)).toList ++ rest = u.toList.map (ni_v w) ++ rest := by cases u <;> rfl
    rw [ee]
    exact a1
  · obtain ⟨k1, k2, k3⟩ := vx_keep h0 e1 hS (fun q h1 h2 => h2) (fun q h => h) hL hF
    obtain ⟨t2, a1, b1⟩ := kx E ce q T'.heap (locs ++ L) ho (by rw [e1]; exact hA1) k3 (by rw [e1]; exact hce) hcv hcl T' rfl X'
    exact ⟨t2, st.trans a1, b1⟩
end C
/-- behind a call -/
def ni_aft (next : ni_K) (q : Nat) (ls r : List Value) (o : Option ni_O) : Option ni_O := match o with
  | some (.inl v, M) => next q ls (v.toList ++ r) M
  | some (.inr E, M) => some (.inr E, M)
  | none => none
/-- a call of a method of a class (virtual, or private): n arguments, the receiver of the class ci -/
def ni_sV (y n ci q : Nat) : ni_S := fun call next ls st M => match st.drop n with
  | .ref a :: r => match M.1[a]? with
    | some c => if c.1 = ci ∧ ni_cs r ≤ 8 then ni_aft next q ls r (call y (.ref a :: (st.take n).reverse) M) else none
    | none => none
  | _ => none
/-- a static call -/
def ni_sC (y n q : Nat) : ni_S := fun call next ls st M => if n ≤ st.length ∧ ni_cs (st.drop n) ≤ 8 then ni_aft next q ls (st.drop n) (call y (st.take n).reverse M) else none
/-- a constructor -/
def ni_sI (y n q : Nat) : ni_S := fun call next ls st M => match st.drop n with
  | .ref a :: r => if ni_cs r ≤ 8 then ni_aft next q ls r (call y (.ref a :: (st.take n).reverse) M) else none
  | _ => none
theorem ni_revM {w : ni_W} {st : List Value} {n : Nat} : (st.map (ni_v w)) = (((st.take n).reverse).map (ni_v w)).reverse ++ ((st.drop n).map (ni_v w)) := by
  rw [← List.map_reverse, List.reverse_reverse, ← List.map_append, List.take_append_drop]
theorem ni_tab0 {w : ni_W} {xs : List Int32} {p : Program} {R : Room} {s : State} {m : MethodId} {args : Array Value} {meth : Method} {c : Code} {Y : MethodName} {d : Nat} (X : ni_Cx w xs p R s m args meth c Y cc nL [] d) : c.exceptionTable.toList = [] := List.map_eq_nil_iff.mp X.2.2.2.2.2.2.2.2.2.2.2.2
/-- the rest of a call: what the kit says of it (vx_Run), and what comes behind it -/
theorem ni_okCall {w : ni_W} {xs : List Int32} {p : Program} {l : Launch} {e : Env} {R : Room} {s : State} {m : MethodId} {args : Array Value} {below : List Frame} {meth : Method} {c : Code} {d y : Nat} {out : ni_O} {Q : State → Prop} {M0 : ni_H} {Y : MethodName}
    (X : ni_Cx w xs p R s m args meth c Y cc nL [] d) (F : ni_Fin w out Q M0 p l e R s m args below meth c cc rt) {call : ni_F} {next : ni_K}
    (hcl : ∀ (y : Nat) (as : List Value) (M : ni_H) (o : ni_O), call y as M = some o → ∃ d', d = d' + 1 ∧ ni_Ca w xs l d' y as M o)
    (hn : ∀ (q : Nat) (ls st : List Value) (M : ni_H), next q ls st M = some out → ni_le M out.2 ∧ ni_Wt w Q M0 p l e R s m args below meth c nL q ls st M)
    {ls r st as : List Value} {M : ni_H} (hs : ni_aft next (pc + 3) ls r (call y as M) = some out)
    (hrun : ∀ (d' kc ks : Nat) (o : ni_O) (H : Heap) (locs : List Loc) (A : Array Slot) (cells slots : Nat), d = d' + 1 → vx_Met l (ni_ms y).1 (ni_mw y) (ni_rm d' kc ks) (va_Pc (as.map (ni_v w)) (ni_Pi w xs M)) (ni_Q w o) (ni_X w o) kc ks (ni_A w) → (cells + kc ≤ R.cells ∧ slots + ks ≤ R.slots) → ni_At w M H → va_S (ni_A w) s.heap H locs → A.size = nL → (M.2 = 0 → H.size = ni_B w + M.1.length) →
      ∃ aa, vx_Run p l e R s m args below meth c H locs cells slots kc ks (F0 m pc A (st.map (ni_v w))) (r.map (ni_v w)) (ni_Q w o aa) (ni_X w o) (ni_A w)) :
    ni_le M out.2 ∧ ni_Wt w Q M0 p l e R s m args below meth c nL pc ls st M := by
  cases ho : call y as M with
  | none => rw [ho] at hs; cases hs
  | some o =>
    rw [ho] at hs
    obtain ⟨d', hd, hle, hM⟩ := hcl y as M o ho
    obtain ⟨o1, M1⟩ := o
    obtain ⟨kc, hkc⟩ : ∃ kc, ni_zc M1 = ni_zc M + kc := ⟨ni_zc M1 - ni_zc M, by have := hle.1; dsimp only at this; omega⟩
    obtain ⟨ks, hks⟩ : ∃ ks, ni_zs M1 = ni_zs M + ks := ⟨ni_zs M1 - ni_zs M, by have := hle.2.1; dsimp only at this; omega⟩
    have hM := hM kc ks hkc hks
    have b3 := F.1
    have b4 := F.2.1
    have key : ni_le M1 out.2 → (∀ (H : Heap) (locs : List Loc) (A : Array Slot) (cells slots : Nat), ni_At w M H → va_S (ni_A w) s.heap H locs → ni_L w nL A ls → ni_zc M = ni_zc M0 + cells → ni_zs M = ni_zs M0 + slots → M0.2 ≤ M.2 →
        (∀ (v : Option Value) (H1 : Heap) (locs1 : List Loc), o1 = .inl v → ni_At w M1 H1 → va_S (ni_A w) s.heap H1 locs1 → W p l e R s m args below meth c H1 locs1 (cells + kc) (slots + ks) Q (F0 m (pc + 3) A (v.toList.map (ni_v w) ++ r.map (ni_v w)))) →
        (∀ (E : String) (ce : Cell) (q9 : Addr) (H1 : Heap) (locs1 : List Loc), o1 = .inr E → ni_At w M1 H1 → va_S (ni_A w) s.heap H1 locs1 → H1[q9]? = some ce → ce.vm = .none → s.vm.findClass E = some ce.cls → vx_W p l e R s m args below meth c H1 locs1 (cells + kc) (slots + ks) Q (F0 m pc A (r.map (ni_v w))) q9) →
        W p l e R s m args below meth c H locs cells slots Q (F0 m pc A (st.map (ni_v w)))) := by
      intro g1 H locs A cells slots a1 a2 a3 a4 a5 a6 kk kx
      have c1 := g1.1
      have c2 := g1.2.1
      refine ni_sz fun hsz => ?_
      obtain ⟨aa, hr⟩ := hrun d' kc ks (o1, M1) H locs A cells slots hd hM ⟨by omega, by omega⟩ a1 a2 a3.1 (fun h0 => ni_clean F.2.2.1 a6 h0 a4 a1 hsz)
      exact ni_call hr a2 kk kx
    cases o1 with
    | inl v =>
      obtain ⟨h1, h2⟩ := hn _ _ _ _ hs
      refine ⟨⟨Nat.le_trans hle.1 h1.1, Nat.le_trans hle.2.1 h1.2.1, Nat.le_trans hle.2.2 h1.2.2⟩, fun H locs A cells slots a1 a2 a3 a4 a5 a6 => ?_⟩
      refine key h1 H locs A cells slots a1 a2 a3 a4 a5 a6 (fun v' H1 locs1 hv g1 g2 => ?_) (fun E ce q9 H1 locs1 hE => by cases hE)
      cases hv
      have hg : M0.2 ≤ M1.2 := Nat.le_trans a6 hle.2.2
      have := h2 H1 locs1 A (cells + kc) (slots + ks) g1 g2 a3 (by omega) (by omega) hg
      rw [List.map_append] at this
      exact this
    | inr E =>
      have hs : out = (.inr E, M1) := (Option.some.inj hs).symm
      subst hs
      refine ⟨hle, fun H locs A cells slots a1 a2 a3 a4 a5 a6 => ?_⟩
      refine key ⟨Nat.le_refl _, Nat.le_refl _, Nat.le_refl _⟩ H locs A cells slots a1 a2 a3 a4 a5 a6 (fun v' H1 locs1 hv => by cases hv) (fun E' ce q9 H1 locs1 hE g1 g2 g3 g4 g5 => ?_)
      cases hE
      exact F.2.2.2.2.1 E M1 pc q9 ce H1 locs1 A (cells + kc) (slots + ks) (r.map (ni_v w)) rfl g1 g2 (by omega) (by omega) (ni_tab0 X) g3 g4 g5
set_option maxRecDepth 20000 in
theorem ni_rmL {k d L : Nat} (h : k ≤ 45) (h2 : 64 * (d + 1) + 300 ≤ L) : 8 + (k + 11) + (64 * d + 300) ≤ L := by
  rw [Nat.mul_succ] at h2
  generalize 64 * d = x at h2 ⊢
  omega
theorem ni_Ts {w : ni_W} {xs : List Int32} {p : Program} {R : Room} {s : State} {m : MethodId} {args : Array Value} {meth : Method} {c : Code} {Y : MethodName} {d : Nat} {hh : List (Nat × Nat × Nat × Nat)} (X : ni_Cx w xs p R s m args meth c Y cc nL hh d) : CallFix p m c cc nL s args ni_tb Y.cls := ⟨X.1, X.2.1, X.2.2.1, X.2.2.2.1, X.2.2.2.2.1⟩
theorem ni_mw0 {y : Nat} (h : (ni_ms y).2.2.2.2 = []) : ni_mw y = .code (ni_ms y).1 (ni_ms y).2.1 (ni_ms y).2.2.1 (ni_ms y).2.2.2.1 :: ni_tb := by
  unfold ni_mw
  rw [ni_cw0 h]
theorem ni_good1 {y : Nat} (h : ni_cw y ∈ ni_tb) : GoodIn ni_tb (ni_mw y) := by
  intro z hz
  rcases List.mem_cons.mp hz with h1 | h1
  · rw [h1]; exact ni_good _ h
  · exact ni_good _ h1
theorem ni_goodA {a b : List Cond} (ha : ∀ z ∈ a, z ∈ ni_tb) (hb : GoodIn ni_tb b) : GoodIn ni_tb (a ++ b) := fun z hz => (List.mem_append.mp hz).elim (fun h => ni_good _ (ha z h)) (hb z)
theorem ni_virt {y n ci i : Nat} {C : String} {T : u_T} {N : Nat} (hdg : decode cc pc = .ok (.invokevirtual i, 3)) (h100 : ci < 100) (hc : vwCl[ci]? = some (C, T, N)) (hC : (ni_ms y).1.cls = C) (w1 : Cond.methodLink Y.cls i (ni_ms y).1 ∈ ni_tb) (w2 : Cond.instanceMethod (ni_ms y).1 ∈ ni_tb) (w3 : Cond.selects C (ni_ms y).1 (ni_ms y).1 ∈ ni_tb) (w4 : Cond.initialized C ∈ ni_tb) (w5 : ni_cw y ∈ ni_tb)
    (hd : (ni_ms y).1.cls ≠ "java/lang/invoke/MethodHandle" ∧ (ni_ms y).1.cls ≠ "java/lang/invoke/VarHandle" ∧ (parseMethodDescriptor (ni_ms y).1.desc).map (fun d => d.parameters.length) = some n) (hL : (ni_ms y).2.2.1 ≤ 45) (h0 : (ni_ms y).2.2.2.2 = []) : ni_Ok xs Y cc nL rt [] pc (ni_sV y n ci (pc + 3)) := by
  intro w p l e R s m args below meth c d out Q M0 X F call next hcl hn ls st M hs
  unfold ni_sV at hs
  split at hs
  next a r hst =>
    split at hs
    next c0 ha =>
      obtain ⟨t, vs⟩ := c0
      dsimp only at hs
      split at hs
      next hq =>
        obtain ⟨rfl, hcs⟩ := hq
        refine ni_okCall X F hcl hn hs fun d' kc ks o H locs A cells slots hd' hM hf a1 a2 a3 hsz => ⟨#[], ?_⟩
        have he := ni_wsG (w := w) ha
        rw [ni_eO h100] at he
        have e0 : ni_v w (.ref a) = .ref (ni_B w + a) := congrArg Value.ref (ni_adI a1 ha)
        have hlen : n < st.length := by
          have h1 := congrArg List.length hst
          simp only [List.length_drop, List.length_cons] at h1
          omega
        have r1 := X.2.2.2.2.2.2.2.2.2.2.1
        have r2 := X.2.2.2.2.2.2.2.2.2.2.2.1
        rw [List.map_cons, e0] at hM
        refine vx_runV (Qc := ni_Q w o) (C := C) (b := ni_B w + a) (As := ((st.take n).reverse).map (ni_v w)) (n := n) (ni_Ts X) hM
          (cwV n X.2.2.2.2.1 (ni_goodA (fun z hz => by simp only [List.mem_cons, List.not_mem_nil, or_false] at hz; rcases hz with rfl | rfl | rfl | rfl <;> assumption) (ni_good1 w5)) (ni_mw0 h0) rfl rfl ⟨hC, hd⟩ ⟨?_, ?_⟩)
          ⟨by rw [← e0, ← List.map_cons]; exact ni_blind, va_recv X.2.2.2.2.2.2.2.1.1 a1.1 hc he, fun U hU hW => ⟨rfl, ni_pre X.2.2.2.2.2.2.2.1 X.2.2.2.2.2.2.2.2.1 X.2.2.2.2.2.2.2.2.2.1 a1 a2 hsz hU hW⟩⟩ rfl (by simp; omega) a3 ?_ ?_ hdg hf
        · show d' + 8 + 1 ≤ R.frames
          omega
        · exact ni_rmL hL (by rw [← hd']; exact r2)
        · show st.map (ni_v w) = _
          rw [ni_revM (n := n), hst, List.map_cons, e0]
        · rw [ni_csM]
          show 2 * 0 + ni_cs r ≤ 8
          omega
      next => cases hs
    next => cases hs
  next => cases hs
theorem ni_stat {y n i : Nat} (hdg : decode cc pc = .ok (.invokestatic i, 3)) (w1 : Cond.methodLink Y.cls i (ni_ms y).1 ∈ ni_tb) (w2 : Cond.static (ni_ms y).1 ∈ ni_tb) (w4 : Cond.initialized (ni_ms y).1.cls ∈ ni_tb) (w5 : ni_cw y ∈ ni_tb)
    (hd : (ni_ms y).1.cls ≠ "java/lang/invoke/MethodHandle" ∧ (ni_ms y).1.cls ≠ "java/lang/invoke/VarHandle" ∧ (parseMethodDescriptor (ni_ms y).1.desc).map (fun d => d.parameters.length) = some n) (hL : (ni_ms y).2.2.1 ≤ 45) (h0 : (ni_ms y).2.2.2.2 = []) : ni_Ok xs Y cc nL rt [] pc (ni_sC y n (pc + 3)) := by
  intro w p l e R s m args below meth c d out Q M0 X F call next hcl hn ls st M hs
  unfold ni_sC at hs
  split at hs
  next hq =>
    obtain ⟨hlen, hcs⟩ := hq
    refine ni_okCall X F hcl hn hs fun d' kc ks o H locs A cells slots hd' hM hf a1 a2 a3 hsz => ⟨#[], ?_⟩
    have r1 := X.2.2.2.2.2.2.2.2.2.2.1
    have r2 := X.2.2.2.2.2.2.2.2.2.2.2.1
    refine vx_runS (Qc := ni_Q w o) (As := ((st.take n).reverse).map (ni_v w)) (n := n) (ni_Ts X) hM
      ⟨callB_of n X.2.2.2.2.1 (ni_good1 w5) (ni_mw0 h0) rfl rfl (X.2.2.2.2.1 _ w4) (X.2.2.2.2.1 _ w1) hd ⟨?_, ?_⟩, X.2.2.2.2.1 _ w2⟩
      ⟨ni_blind, fun U hU hW => ⟨rfl, ni_pre X.2.2.2.2.2.2.2.1 X.2.2.2.2.2.2.2.2.1 X.2.2.2.2.2.2.2.2.2.1 a1 a2 hsz hU hW⟩⟩ rfl (by simp; omega) a3 ?_ ?_ hdg hf
    · show d' + 8 + 1 ≤ R.frames
      omega
    · exact ni_rmL hL (by rw [← hd']; exact r2)
    · exact ni_revM (n := n)
    · rw [ni_csM]
      show 2 * 0 + ni_cs (st.drop n) ≤ 8
      omega
  next => cases hs
theorem ni_init {y n i : Nat} (hdg : decode cc pc = .ok (.invokespecial i, 3)) (hi : (ni_ms y).1.name = "<init>") (hr : (ni_ms y).2.2.2.1 = none) (w1 : Cond.methodLink Y.cls i (ni_ms y).1 ∈ ni_tb) (w2 : Cond.instanceMethod (ni_ms y).1 ∈ ni_tb) (w4 : Cond.initialized (ni_ms y).1.cls ∈ ni_tb) (w5 : ni_cw y ∈ ni_tb)
    (hd : (ni_ms y).1.cls ≠ "java/lang/invoke/MethodHandle" ∧ (ni_ms y).1.cls ≠ "java/lang/invoke/VarHandle" ∧ (parseMethodDescriptor (ni_ms y).1.desc).map (fun d => d.parameters.length) = some n) (hL : (ni_ms y).2.2.1 ≤ 45) (h0 : (ni_ms y).2.2.2.2 = []) : ni_Ok xs Y cc nL rt [] pc (ni_sI y n (pc + 3)) := by
  intro w p l e R s m args below meth c d out Q M0 X F call next hcl hn ls st M hs
  unfold ni_sI at hs
  split at hs
  next a r hst =>
    split at hs
    next hcs =>
      refine ni_okCall X F hcl hn hs fun d' kc ks o H locs A cells slots hd' hM hf a1 a2 a3 hsz => ⟨#[], ?_⟩
      have r1 := X.2.2.2.2.2.2.2.2.2.2.1
      have r2 := X.2.2.2.2.2.2.2.2.2.2.2.1
      have hlen : n < st.length := by
        have h1 := congrArg List.length hst
        simp only [List.length_drop, List.length_cons] at h1
        omega
      refine vx_runI (Qc := ni_Q w o) (b := ni_ad w a) (As := ((st.take n).reverse).map (ni_v w)) (n := n) (ni_Ts X) hM
        ⟨callB_of n X.2.2.2.2.1 (ni_good1 w5) (by rw [ni_mw0 h0, hr]) rfl rfl (X.2.2.2.2.1 _ w4) (X.2.2.2.2.1 _ w1) hd ⟨?_, ?_⟩, hi, X.2.2.2.2.1 _ w2⟩
        ⟨ni_blind, fun U hU hW => ⟨rfl, ni_pre X.2.2.2.2.2.2.2.1 X.2.2.2.2.2.2.2.2.1 X.2.2.2.2.2.2.2.2.2.1 a1 a2 hsz hU hW⟩⟩ rfl (by simp; omega) a3 ?_ ?_ hdg hf
      · show d' + 8 + 1 ≤ R.frames
        omega
      · exact ni_rmL hL (by rw [← hd']; exact r2)
      · show st.map (ni_v w) = _
        rw [ni_revM (n := n), hst]
        rfl
      · rw [ni_csM]
        show 2 * 0 + ni_cs r ≤ 8
        omega
    next => cases hs
  next => cases hs
theorem ni_initN {y n i : Nat} {host : String} (hdg : decode cc pc = .ok (.invokespecial i, 3)) (hi : (ni_ms y).1.name = "<init>") (hr : (ni_ms y).2.2.2.1 = none) (w1 : (Y.cls, i, (ni_ms y).1, host) ∈ ni_nn) (w2 : Cond.instanceMethod (ni_ms y).1 ∈ ni_tb) (w4 : Cond.initialized (ni_ms y).1.cls ∈ ni_tb) (w5 : ni_cw y ∈ ni_tb)
    (hd : (ni_ms y).1.cls ≠ "java/lang/invoke/MethodHandle" ∧ (ni_ms y).1.cls ≠ "java/lang/invoke/VarHandle" ∧ (parseMethodDescriptor (ni_ms y).1.desc).map (fun d => d.parameters.length) = some n) (hL : (ni_ms y).2.2.1 ≤ 45) (h0 : (ni_ms y).2.2.2.2 = []) : ni_Ok xs Y cc nL rt [] pc (ni_sI y n (pc + 3)) := by
  intro w p l e R s m args below meth c d out Q M0 X F call next hcl hn ls st M hs
  unfold ni_sI at hs
  split at hs
  next a r hst =>
    split at hs
    next hcs =>
      refine ni_okCall X F hcl hn hs fun d' kc ks o H locs A cells slots hd' hM hf a1 a2 a3 hsz => ⟨#[], ?_⟩
      have r1 := X.2.2.2.2.2.2.2.2.2.2.1
      have r2 := X.2.2.2.2.2.2.2.2.2.2.2.1
      have hlen : n < st.length := by
        have h1 := congrArg List.length hst
        simp only [List.length_drop, List.length_cons] at h1
        omega
      refine vx_runIN (Qc := ni_Q w o) (b := ni_ad w a) (As := ((st.take n).reverse).map (ni_v w)) (n := n) (ni_Ts X) hM
        ⟨va_cnB n X.2.2.2.2.1 (ni_good1 w5) (by rw [ni_mw0 h0, hr]) rfl rfl (X.2.2.2.2.2.2.2.1.2.1 _ w1) (X.2.2.2.2.1 _ w4) hd ⟨?_, ?_⟩, hi, X.2.2.2.2.1 _ w2⟩
        ⟨ni_blind, fun U hU hW => ⟨rfl, ni_pre X.2.2.2.2.2.2.2.1 X.2.2.2.2.2.2.2.2.1 X.2.2.2.2.2.2.2.2.2.1 a1 a2 hsz hU hW⟩⟩ rfl (by simp; omega) a3 ?_ ?_ hdg hf
      · show d' + 8 + 1 ≤ R.frames
        omega
      · exact ni_rmL hL (by rw [← hd']; exact r2)
      · show st.map (ni_v w) = _
        rw [ni_revM (n := n), hst]
        rfl
      · rw [ni_csM]
        show 2 * 0 + ni_cs r ≤ 8
        omega
    next => cases hs
  next => cases hs
/-! the end -/
def ni_sR (rt : Option FieldType) : ni_S := fun _ _ _ st M => match st with
  | [] => if ni_rok rt none = true then some (.inl none, M) else none
  | [v] => if ni_rok rt (some v) = true then some (.inl (some v), M) else none
  | _ => none
theorem ni_ret (hdg : decode cc pc = .ok (ni_rop rt, 1)) : ni_Ok xs Y cc nL rt hh pc (ni_sR rt) := by
  intro w p l e R s m args below meth c d out Q M0 X F call next hcl hn ls st M hs
  have key : ∀ v : Option Value, out = (.inl v, M) → ni_rok rt v = true → st = v.toList → ni_le M out.2 ∧ ni_Wt w Q M0 p l e R s m args below meth c nL pc ls st M := by
    intro v hv hk hst
    refine ⟨by rw [hv]; exact ⟨Nat.le_refl _, Nat.le_refl _, Nat.le_refl _⟩, fun H locs A cells slots a1 a2 a3 a4 a5 a6 => ?_⟩
    rw [hst]
    exact F.2.2.2.1 v M pc H locs A cells slots hv hk hdg a1 a2 a4 a5
  unfold ni_sR at hs
  split at hs
  · split at hs
    next hk => exact key none (Option.some.inj hs).symm hk rfl
    next => cases hs
  next v =>
    split at hs
    next hk => exact key (some v) (Option.some.inj hs).symm hk rfl
    next => cases hs
  · cases hs
end NC
