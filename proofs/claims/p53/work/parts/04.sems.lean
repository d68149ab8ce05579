section NS
def ni_le (M M' : ni_H) : Prop := ni_zc M ≤ ni_zc M' ∧ ni_zs M ≤ ni_zs M' ∧ M.2 ≤ M'.2
def ni_Pi (w : ni_W) (xs : List Int32) (M : ni_H) (U : State) : Prop := ni_At w M U.heap ∧ ni_Kn w U ∧ ni_Ev w xs U U.heap ∧ ni_B w ≤ U.heap.size ∧ (M.2 = 0 → U.heap.size = ni_B w + M.1.length)
def ni_Q (w : ni_W) (o : ni_O) : Array Value → State → Outcome → State → Prop := fun _ st oc t => ∃ v, o.1 = .inl v ∧ oc = .returned (v.map (ni_v w)) ∧ ni_At w o.2 t.heap ∧ va_F (ni_A w) st t
def ni_X (w : ni_W) (o : ni_O) : String → State → State → Prop := fun E st t => o.1 = .inr E ∧ ni_At w o.2 t.heap ∧ va_F (ni_A w) st t
def ni_rm (d kc ks : Nat) : Room := { frames := d + 8, cells := kc, slots := ks, locals := 64 * d + 300 }
def ni_mw (y : Nat) : List Cond := ni_cw y :: ni_tb
/-- what a call's answer says of the machine -/
def ni_Ca (w : ni_W) (xs : List Int32) (l : Launch) (d y : Nat) (as : List Value) (M : ni_H) (o : ni_O) : Prop := ni_le M o.2 ∧ ∀ kc ks : Nat, ni_zc o.2 = ni_zc M + kc → ni_zs o.2 = ni_zs M + ks →
  vx_Met l (ni_ms y).1 (ni_mw y) (ni_rm d kc ks) (va_Pc (as.map (ni_v w)) (ni_Pi w xs M)) (ni_Q w o) (ni_X w o) kc ks (ni_A w)
def ni_Wt (w : ni_W) (Q : State → Prop) (M0 : ni_H) (p : Program) (l : Launch) (e : Env) (R : Room) (s : State) (m : MethodId) (args : Array Value) (below : List Frame) (meth : Method) (c : Code) (nL pc : Nat) (ls st : List Value) (M : ni_H) : Prop :=
  ∀ (H : Heap) (locs : List Loc) (A : Array Slot) (cells slots : Nat), ni_At w M H → va_S (ni_A w) s.heap H locs → ni_L w nL A ls → ni_zc M = ni_zc M0 + cells → ni_zs M = ni_zs M0 + slots → M0.2 ≤ M.2 →
    W p l e R s m args below meth c H locs cells slots Q (F0 m pc A (st.map (ni_v w)))
def ni_rop (rt : Option FieldType) : Instr := match rt with
  | none => .return_
  | some .int => .ireturn
  | some .boolean => .ireturn
  | some .long => .lreturn
  | some .double => .dreturn
  | _ => .areturn
def ni_rok (rt : Option FieldType) (v : Option Value) : Bool := match rt, v with
  | none, none => true
  | some .int, some (.int _) => true
  | some .boolean, some (.int x) => decide (x = 0 ∨ x = 1)
  | some .long, some (.long _) => true
  | some .double, some (.double _) => true
  | some (.object _), some .null => true
  | some (.object _), some (.ref _) => true
  | some (.array _), some .null => true
  | some (.array _), some (.ref _) => true
  | _, _ => false
/-- what a throw of a new E with a text rests on -/
def ni_Th (own : String) (cc : ByteArray) (pc : Nat) (E : String) : Prop := ∃ (ik is ic : Nat) (text : String) (names : List String), Bundle.fit E = true ∧ (∀ n ∈ names, Bundle.fit n = true) ∧ names.length ≤ 3 ∧ Cond.classLink own ik E ∈ ni_tb ∧ Cond.initialized E ∈ ni_tb ∧ (own, is, text) ∈ ni_tx ∧
  (∀ z ∈ (vx_atS own ic E names).filter goodWord, z ∈ ni_tb) ∧ (∀ z ∈ (vx_atS own ic E names).filter (fun z => !goodWord z), z ∈ ni_ca.map (fun q => Cond.castable q.1 q.2) ++ ni_dc.map Cond.declares) ∧ (∀ z ∈ Cond.classLink own ik E :: Cond.initialized E :: vx_atS own ic E names, vx_ot z = true) ∧
  decode cc pc = .ok (.new ik, 3) ∧ decode cc (pc + 3) = .ok (.dup, 1) ∧ decode cc (pc + 4) = .ok (.ldc_w is, 3) ∧ decode cc (pc + 7) = .ok (.invokespecial ic, 3) ∧ decode cc (pc + 10) = .ok (.athrow, 1)
def ni_Fin (w : ni_W) (out : ni_O) (Q : State → Prop) (M0 : ni_H) (p : Program) (l : Launch) (e : Env) (R : Room) (s : State) (m : MethodId) (args : Array Value) (below : List Frame) (meth : Method) (c : Code) (cc : ByteArray) (rt : Option FieldType) : Prop :=
  ni_zc out.2 ≤ ni_zc M0 + R.cells ∧ ni_zs out.2 ≤ ni_zs M0 + R.slots ∧ (M0.2 = 0 → s.heap.size = ni_B w + M0.1.length) ∧
  (∀ (v : Option Value) (M : ni_H) (pc : Nat) (H : Heap) (locs : List Loc) (A : Array Slot) (cells slots : Nat), out = (.inl v, M) → ni_rok rt v = true → decode cc pc = .ok (ni_rop rt, 1) → ni_At w M H → va_S (ni_A w) s.heap H locs → ni_zc M = ni_zc M0 + cells → ni_zs M = ni_zs M0 + slots →
    W p l e R s m args below meth c H locs cells slots Q (F0 m pc A (v.toList.map (ni_v w)))) ∧
  (∀ (E : String) (M : ni_H) (pc q : Nat) (ce : Cell) (H : Heap) (locs : List Loc) (A : Array Slot) (cells slots : Nat) (rest : List Value), out = (.inr E, M) → ni_At w M H → va_S (ni_A w) s.heap H locs → ni_zc M = ni_zc M0 + cells → ni_zs M = ni_zs M0 + slots → c.exceptionTable.toList = [] → H[q]? = some ce → ce.vm = .none → s.vm.findClass E = some ce.cls →
    vx_W p l e R s m args below meth c H locs cells slots Q (F0 m pc A rest) q) ∧
  (∀ (own E : String) (M : ni_H) (pc : Nat) (H : Heap) (locs : List Loc) (A : Array Slot) (cells slots : Nat) (rest : List Value), out = (.inr E, (M.1, M.2 + 1)) → s.vm.findClass own = some m.cls → ni_Th own cc pc E → ni_cs rest ≤ 8 → ni_At w M H → va_S (ni_A w) s.heap H locs → ni_zc M = ni_zc M0 + cells → ni_zs M = ni_zs M0 + slots → c.exceptionTable.toList = [] → A.size = c.maxLocals →
    W p l e R s m args below meth c H locs cells slots Q (F0 m pc A (rest.map (ni_v w)))) ∧ l.stackTraces = false
/-- what the reader does at this counter, the machine does -/
def ni_Ok (xs : List Int32) (Y : MethodName) (cc : ByteArray) (nL : Nat) (rt : Option FieldType) (hh : List (Nat × Nat × Nat × Nat)) (pc : Nat) (sem : ni_S) : Prop :=
  ∀ {w : ni_W} {p : Program} {l : Launch} {e : Env} {R : Room} {s : State} {m : MethodId} {args : Array Value} {below : List Frame} {meth : Method} {c : Code} {d : Nat} {out : ni_O} {Q : State → Prop} {M0 : ni_H},
    ni_Cx w xs p R s m args meth c Y cc nL hh d → ni_Fin w out Q M0 p l e R s m args below meth c cc rt → ∀ (call : ni_F) (next : ni_K),
    (∀ (y : Nat) (as : List Value) (M : ni_H) (o : ni_O), call y as M = some o → ∃ d', d = d' + 1 ∧ ni_Ca w xs l d' y as M o) →
    (∀ (q : Nat) (ls st : List Value) (M : ni_H), next q ls st M = some out → ni_le M out.2 ∧ ni_Wt w Q M0 p l e R s m args below meth c nL q ls st M) →
    ∀ (ls st : List Value) (M : ni_H), sem call next ls st M = some out → ni_le M out.2 ∧ ni_Wt w Q M0 p l e R s m args below meth c nL pc ls st M
section S
variable {xs : List Int32} {Y : MethodName} {cc : ByteArray} {nL pc : Nat} {rt : Option FieldType} {hh : List (Nat × Nat × Nat × Nat)}
theorem ni_okP {g : List Value → Option (Nat × List Value)} (h : ni_Row Y cc pc g) : ni_Ok xs Y cc nL rt hh pc (ni_sP g) := by
  intro w p l e R s m args below meth c d out Q M0 X F call next hc hn ls st M hs
  unfold ni_sP at hs
  cases hg : g st with
  | none => rw [hg] at hs; cases hs
  | some r =>
    rw [hg] at hs
    obtain ⟨h1, h2⟩ := hn _ _ _ _ hs
    refine ⟨h1, fun H locs A cells slots a1 a2 a3 a4 a5 a6 => ?_⟩
    have b1 := F.1
    have b2 := F.2.1
    have b3 := h1.1
    have b4 := h1.2.1
    exact h X a3.1 (by omega) (by omega) st r.1 r.2 hg (h2 H locs A cells slots a1 a2 a3 a4 a5 a6)
/-! locals -/
def ni_sLd (t i q : Nat) : ni_S := fun _ k ls st M => match ls[i]? with
  | some v => if ni_ty v = t then k q ls (v :: st) M else none
  | none => none
theorem ni_okLd {t i q : Nat} (ht : t < 4) (row : ∀ {p : Program} {l : Launch} {e : Env} {R : Room} {s : State} {m : MethodId} {args : Array Value} {below : List Frame} {meth : Method} {c : Code} {H : Heap} {locs : List Loc} {cells slots : Nat} {Q : State → Prop} {A : Array Slot} (v : Value) (rest : List Value), p.tables.exec = Jvm.exec → c.code = cc → ni_ty v = t → A[i]? = some (.val v) →
      W p l e R s m args below meth c H locs cells slots Q (F0 m q A (v :: rest)) → W p l e R s m args below meth c H locs cells slots Q (F0 m pc A rest)) : ni_Ok xs Y cc nL rt hh pc (ni_sLd t i q) := by
  intro w p l e R s m args below meth c d out Q M0 X F call next hc hn ls st M hs
  unfold ni_sLd at hs
  cases hg : ls[i]? with
  | none => rw [hg] at hs; cases hs
  | some v =>
    rw [hg] at hs
    dsimp only at hs
    split at hs
    next hv =>
      obtain ⟨h1, h2⟩ := hn _ _ _ _ hs
      refine ⟨h1, fun H locs A cells slots a1 a2 a3 a4 a5 a6 => ?_⟩
      exact row (ni_v w v) _ X.1 X.2.1 (by rw [ni_tyv]; exact hv) (a3.2.2.2 i v hg (by rw [hv]; exact ht)) (h2 H locs A cells slots a1 a2 a3 a4 a5 a6)
    next => cases hs
theorem ni_iload {i : Nat} (hdg : decode cc pc = .ok (.iload i, 2)) : ni_Ok xs Y cc nL rt hh pc (ni_sLd 0 i (pc + 2)) := ni_okLd (by decide) fun v rest h1 h2 h3 h4 k => by
  cases v <;> first | (cases h3; done) | exact lv_iload h1 h2 hdg h4 k
theorem ni_iloadn {i : Nat} {j : Fin 4} (hdg : decode cc pc = .ok (.iload_n j, 1)) (hi : (j : Nat) = i) : ni_Ok xs Y cc nL rt hh pc (ni_sLd 0 i (pc + 1)) := ni_okLd (by decide) fun v rest h1 h2 h3 h4 k => by
  cases v <;> first | (cases h3; done) | exact lv_iload_n h1 h2 hdg hi h4 k
theorem ni_lload {i : Nat} (hdg : decode cc pc = .ok (.lload i, 2)) : ni_Ok xs Y cc nL rt hh pc (ni_sLd 1 i (pc + 2)) := ni_okLd (by decide) fun v rest h1 h2 h3 h4 k => by
  cases v <;> first | (cases h3; done) | exact lv_lload h1 h2 hdg h4 k
theorem ni_lloadn {i : Nat} {j : Fin 4} (hdg : decode cc pc = .ok (.lload_n j, 1)) (hi : (j : Nat) = i) : ni_Ok xs Y cc nL rt hh pc (ni_sLd 1 i (pc + 1)) := ni_okLd (by decide) fun v rest h1 h2 h3 h4 k => by
  cases v <;> first | (cases h3; done) | exact lv_lload_n h1 h2 hdg hi h4 k
theorem ni_dload {i : Nat} (hdg : decode cc pc = .ok (.dload i, 2)) : ni_Ok xs Y cc nL rt hh pc (ni_sLd 2 i (pc + 2)) := ni_okLd (by decide) fun v rest h1 h2 h3 h4 k => by
  cases v <;> first | (cases h3; done) | exact lv_dload h1 h2 hdg h4 k
theorem ni_dloadn {i : Nat} {j : Fin 4} (hdg : decode cc pc = .ok (.dload_n j, 1)) (hi : (j : Nat) = i) : ni_Ok xs Y cc nL rt hh pc (ni_sLd 2 i (pc + 1)) := ni_okLd (by decide) fun v rest h1 h2 h3 h4 k => by
  cases v <;> first | (cases h3; done) | exact lv_dload_n h1 h2 hdg hi h4 k
theorem ni_aload {i : Nat} (hdg : decode cc pc = .ok (.aload i, 2)) : ni_Ok xs Y cc nL rt hh pc (ni_sLd 3 i (pc + 2)) := ni_okLd (by decide) fun v rest h1 h2 h3 h4 k => by
  cases v <;> first | (cases h3; done) | exact lv_aload h1 h2 hdg h4 k | exact lv_aloadN h1 h2 hdg h4 k
theorem ni_aloadn {i : Nat} {j : Fin 4} (hdg : decode cc pc = .ok (.aload_n j, 1)) (hi : (j : Nat) = i) : ni_Ok xs Y cc nL rt hh pc (ni_sLd 3 i (pc + 1)) := ni_okLd (by decide) fun v rest h1 h2 h3 h4 k => by
  cases v <;> first | (cases h3; done) | exact lv_aload_n h1 h2 hdg hi h4 k | exact lv_aload_nN h1 h2 hdg hi h4 k
def ni_sSt (t i q : Nat) : ni_S := fun _ k ls st M => match st with
  | v :: r => if ni_ty v = t then k q (ni_st ls i v) r M else none
  | [] => none
theorem ni_cat1 {v : Value} (h : ni_ty v = 0 ∨ ni_ty v = 3) : v.category = 1 := by cases v <;> simp [ni_ty] at h <;> rfl
theorem ni_cat2 {v : Value} (h : ni_ty v = 1 ∨ ni_ty v = 2) : v.category = 2 := by cases v <;> simp [ni_ty] at h <;> rfl
theorem ni_okSt1 {t i q : Nat} (ht : t = 0 ∨ t = 3) (row : ∀ {p : Program} {l : Launch} {e : Env} {R : Room} {s : State} {m : MethodId} {args : Array Value} {below : List Frame} {meth : Method} {c : Code} {H : Heap} {locs : List Loc} {cells slots : Nat} {Q : State → Prop} {A : Array Slot} {lv : List (Nat × Value)} (v : Value) (rest : List Value), p.tables.exec = Jvm.exec → c.code = cc → ni_ty v = t → lv_has A nL lv →
      (∀ A' : Array Slot, lv_has A' nL ((i, v) :: lv.filter (fun q => !(q.1 == i) && !(q.1 + 1 == i && q.2.category == 2))) → W p l e R s m args below meth c H locs cells slots Q (F0 m q A' rest)) → W p l e R s m args below meth c H locs cells slots Q (F0 m pc A (v :: rest))) : ni_Ok xs Y cc nL rt hh pc (ni_sSt t i q) := by
  intro w p l e R s m args below meth c d out Q M0 X F call next hc hn ls st M hs
  unfold ni_sSt at hs
  split at hs
  next v r =>
    split at hs
    next hv =>
      obtain ⟨h1, h2⟩ := hn _ _ _ _ hs
      refine ⟨h1, fun H locs A cells slots a1 a2 a3 a4 a5 a6 => ?_⟩
      exact row (ni_v w v) _ X.1 X.2.1 (by rw [ni_tyv]; exact hv) (ni_Lh a3) (fun A' h' => h2 H locs A' cells slots a1 a2 (ni_st1 a3 (ni_cat1 (by rw [hv]; exact ht)) h') a4 a5 a6)
    next => cases hs
  next => cases hs
theorem ni_okSt2 {t i q : Nat} (ht : t = 1 ∨ t = 2) (row : ∀ {p : Program} {l : Launch} {e : Env} {R : Room} {s : State} {m : MethodId} {args : Array Value} {below : List Frame} {meth : Method} {c : Code} {H : Heap} {locs : List Loc} {cells slots : Nat} {Q : State → Prop} {A : Array Slot} {lv : List (Nat × Value)} (v : Value) (rest : List Value), p.tables.exec = Jvm.exec → c.code = cc → ni_ty v = t → lv_has A nL lv →
      (∀ A' : Array Slot, lv_has A' nL ((i, v) :: lv.filter (fun q => !(q.1 == i) && (!(q.1 == i + 1) && !(q.1 + 1 == i && q.2.category == 2)))) → W p l e R s m args below meth c H locs cells slots Q (F0 m q A' rest)) → W p l e R s m args below meth c H locs cells slots Q (F0 m pc A (v :: rest))) : ni_Ok xs Y cc nL rt hh pc (ni_sSt t i q) := by
  intro w p l e R s m args below meth c d out Q M0 X F call next hc hn ls st M hs
  unfold ni_sSt at hs
  split at hs
  next v r =>
    split at hs
    next hv =>
      obtain ⟨h1, h2⟩ := hn _ _ _ _ hs
      refine ⟨h1, fun H locs A cells slots a1 a2 a3 a4 a5 a6 => ?_⟩
      exact row (ni_v w v) _ X.1 X.2.1 (by rw [ni_tyv]; exact hv) (ni_Lh a3) (fun A' h' => h2 H locs A' cells slots a1 a2 (ni_st2 a3 (ni_cat2 (by rw [hv]; exact ht)) h') a4 a5 a6)
    next => cases hs
  next => cases hs
theorem ni_istore {i : Nat} (hdg : decode cc pc = .ok (.istore i, 2)) (hi : i < nL) : ni_Ok xs Y cc nL rt hh pc (ni_sSt 0 i (pc + 2)) := ni_okSt1 (by decide) fun v rest h1 h2 h3 h4 k => by
  cases v <;> first | (cases h3; done) | exact lv_istore h1 h2 hdg h4 hi rfl k
theorem ni_istoren {i : Nat} {j : Fin 4} (hdg : decode cc pc = .ok (.istore_n j, 1)) (he : (j : Nat) = i) (hi : i < nL) : ni_Ok xs Y cc nL rt hh pc (ni_sSt 0 i (pc + 1)) := ni_okSt1 (by decide) fun v rest h1 h2 h3 h4 k => by
  cases v <;> first | (cases h3; done) | exact lv_istore_n h1 h2 hdg he h4 hi rfl k
theorem ni_astore {i : Nat} (hdg : decode cc pc = .ok (.astore i, 2)) (hi : i < nL) : ni_Ok xs Y cc nL rt hh pc (ni_sSt 3 i (pc + 2)) := ni_okSt1 (by decide) fun v rest h1 h2 h3 h4 k => by
  cases v <;> first | (cases h3; done) | exact lv_astore h1 h2 hdg h4 hi rfl k | exact lv_astoreN h1 h2 hdg h4 hi rfl k
theorem ni_astoren {i : Nat} {j : Fin 4} (hdg : decode cc pc = .ok (.astore_n j, 1)) (he : (j : Nat) = i) (hi : i < nL) : ni_Ok xs Y cc nL rt hh pc (ni_sSt 3 i (pc + 1)) := ni_okSt1 (by decide) fun v rest h1 h2 h3 h4 k => by
  cases v <;> first | (cases h3; done) | exact lv_astore_n h1 h2 hdg he h4 hi rfl k | exact lv_astore_nN h1 h2 hdg he h4 hi rfl k
theorem ni_lstore {i : Nat} (hdg : decode cc pc = .ok (.lstore i, 2)) (hi : i + 1 < nL) : ni_Ok xs Y cc nL rt hh pc (ni_sSt 1 i (pc + 2)) := ni_okSt2 (by decide) fun v rest h1 h2 h3 h4 k => by
  cases v <;> first | (cases h3; done) | exact lv_lstore h1 h2 hdg h4 hi rfl k
theorem ni_lstoren {i : Nat} {j : Fin 4} (hdg : decode cc pc = .ok (.lstore_n j, 1)) (he : (j : Nat) = i) (hi : i + 1 < nL) : ni_Ok xs Y cc nL rt hh pc (ni_sSt 1 i (pc + 1)) := ni_okSt2 (by decide) fun v rest h1 h2 h3 h4 k => by
  cases v <;> first | (cases h3; done) | exact lv_lstore_n h1 h2 hdg he h4 hi rfl k
theorem ni_dstore {i : Nat} (hdg : decode cc pc = .ok (.dstore i, 2)) (hi : i + 1 < nL) : ni_Ok xs Y cc nL rt hh pc (ni_sSt 2 i (pc + 2)) := ni_okSt2 (by decide) fun v rest h1 h2 h3 h4 k => by
  cases v <;> first | (cases h3; done) | exact lv_dstore h1 h2 hdg h4 hi rfl k
theorem ni_dstoren {i : Nat} {j : Fin 4} (hdg : decode cc pc = .ok (.dstore_n j, 1)) (he : (j : Nat) = i) (hi : i + 1 < nL) : ni_Ok xs Y cc nL rt hh pc (ni_sSt 2 i (pc + 1)) := ni_okSt2 (by decide) fun v rest h1 h2 h3 h4 k => by
  cases v <;> first | (cases h3; done) | exact lv_dstore_n h1 h2 hdg he h4 hi rfl k
def ni_sInc (i : Nat) (n : Int32) (q : Nat) : ni_S := fun _ k ls st M => match ls[i]? with
  | some (.int x) => k q (ni_st ls i (.int (x + n))) st M
  | _ => none
theorem ni_iinc {i : Nat} {n : Int} (hdg : decode cc pc = .ok (.iinc i n, 3)) (hi : i < nL) : ni_Ok xs Y cc nL rt hh pc (ni_sInc i (Int32.ofInt n) (pc + 3)) := by
  intro w p l e R s m args below meth c d out Q M0 X F call next hc hn ls st M hs
  unfold ni_sInc at hs
  split at hs
  next x hg =>
    obtain ⟨h1, h2⟩ := hn _ _ _ _ hs
    refine ⟨h1, fun H locs A cells slots a1 a2 a3 a4 a5 a6 => ?_⟩
    obtain ⟨k, hk⟩ := List.getElem?_of_mem (ni_lvM (w := w) (q := (i, .int x)).mpr ⟨.int x, hg, (show (0 : Nat) < 4 by decide), rfl⟩)
    exact lv_iinc X.1 X.2.1 hdg (ni_Lh a3) hk rfl hi rfl (fun A' h' => h2 H locs A' cells slots a1 a2 (ni_st1 a3 rfl h') a4 a5 a6)
  next => cases hs
end S
end NS
