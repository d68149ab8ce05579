section NOF
variable {l : Launch} {y : MethodName} {ws ws' : List Cond} {rm : Room} {Pc : Array Value → State → Prop} {Qc : Array Value → State → Outcome → State → Prop} {XC : String → State → State → Prop} {mc ms : Nat} {free : Addr → Prop} {cc : ByteArray} {maxL : Nat} {ret : Option FieldType}
/-- a body's walk, of a method that no entry runs -/
theorem ni_ofW (hy : plainFor y = true) (hw : ws = Cond.code y cc maxL ret :: ws') (body : ∀ p e s m args below meth c s₁, BodyLoose p l y (headSpec ws rm) cc maxL ret e s m args below meth c s₁ → c.maxLocals = maxL → (∀ x ∈ c.exceptionTable.toList, False) → Pc args s → W p l e (headSpec ws rm).room s m args below meth c s.heap [] 0 0 (vx_MQ below Qc XC args s mc ms free) (entryFrame m args maxL)) : vx_Met l y ws rm Pc Qc XC mc ms free := by
  have hin : Cond.code y cc maxL ret ∈ ws := by
    rw [hw]
    exact List.mem_cons_self
  refine MetFree.of_bodySF (code := cc) (maxLocals := maxL) (ret := ret) hy (fun args s m h hn => ?_) (fun p e s m args below meth c s₁ B hml hP _ => ?_)
  · obtain ⟨me, co, k1, k2, k3, k4, k5, k6, -, -⟩ := Cond.code_spec hn (atoms_spec (ws := ws) h _ hin)
    exact ⟨me, co, k1, k2, k3, k4, k5, k6⟩
  · have noTable : ∀ x ∈ c.exceptionTable.toList, False := fun x hx => by
      obtain ⟨me, co, k1, k2, -, -, -, -, k7, -⟩ := Cond.code_spec B.named (atoms_spec (ws := ws) B.pre _ hin)
      cases Option.some.inj (k1.symm.trans B.method)
      cases Option.some.inj (k2.symm.trans (Stand.of_body B).code)
      rw [Array.isEmpty_iff.mp k7] at hx
      cases hx
    obtain ⟨t, a1, o, b1, b2, b3⟩ := body p e s m args below meth c s₁ B hml noTable hP s₁ (by rw [B.state]; rfl) (Stand.of_body B)
    exact ⟨t, o, a1, b1, b2, b3⟩
/-- the same, where there are handlers -/
theorem ni_ofWH {hh : List (Nat × Nat × Nat × Nat)} (hy : plainFor y = true) (hw : ws = Cond.codeWith y cc maxL ret hh :: ws') (body : ∀ p e s m args below meth c s₁, BodyLoose p l y (headSpec ws rm) cc maxL ret e s m args below meth c s₁ → c.maxLocals = maxL → Pc args s → W p l e (headSpec ws rm).room s m args below meth c s.heap [] 0 0 (vx_MQ below Qc XC args s mc ms free) (entryFrame m args maxL)) : vx_Met l y ws rm Pc Qc XC mc ms free := by
  refine MetFree.of_bodySF (code := cc) (maxLocals := maxL) (ret := ret) hy (fun args s m h hn => ?_) (fun p e s m args below meth c s₁ B hml hP _ => ?_)
  · obtain ⟨mi, me, co, kn, k1, k2, k3, k4, -, k5, k6, -⟩ := Cond.codeWith_spec (atoms_spec (ws := ws) h _ (by rw [hw]; exact List.mem_cons_self))
    cases hn.symm.trans kn
    exact ⟨me, co, k1, k2, k3, k4, k5, k6⟩
  · obtain ⟨t, a1, o, b1, b2, b3⟩ := body p e s m args below meth c s₁ B hml hP s₁ (by rw [B.state]; rfl) (Stand.of_body B)
    exact ⟨t, o, a1, b1, b2, b3⟩
end NOF
section NX
def ni_Mo (sem : ni_S) : Prop := ∀ (call : ni_F) (next : ni_K) (out : ni_O), (∀ (y : Nat) (as : List Value) (M : ni_H) (o : ni_O), call y as M = some o → ni_le M o.2) → (∀ (q : Nat) (ls st : List Value) (M : ni_H), next q ls st M = some out → ni_le M out.2) → ∀ (ls st : List Value) (M : ni_H), sem call next ls st M = some out → ni_le M out.2
theorem ni_leR (M : ni_H) : ni_le M M := ⟨Nat.le_refl _, Nat.le_refl _, Nat.le_refl _⟩
theorem ni_leT {A B C : ni_H} (h : ni_le A B) (k : ni_le B C) : ni_le A C := ⟨Nat.le_trans h.1 k.1, Nat.le_trans h.2.1 k.2.1, Nat.le_trans h.2.2 k.2.2⟩
theorem ni_moP {g : List Value → Option (Nat × List Value)} : ni_Mo (ni_sP g) := by
  intro call next out hc hn ls st M hs
  unfold ni_sP at hs
  split at hs
  · exact hn _ _ _ _ hs
  · cases hs
theorem ni_moLd {t i q : Nat} : ni_Mo (ni_sLd t i q) := by
  intro call next out hc hn ls st M hs
  unfold ni_sLd at hs
  split at hs
  · split at hs
    · exact hn _ _ _ _ hs
    · cases hs
  · cases hs
theorem ni_moSt {t i q : Nat} : ni_Mo (ni_sSt t i q) := by
  intro call next out hc hn ls st M hs
  unfold ni_sSt at hs
  split at hs
  · split at hs
    · exact hn _ _ _ _ hs
    · cases hs
  · cases hs
theorem ni_moInc {i q : Nat} {n : Int32} : ni_Mo (ni_sInc i n q) := by
  intro call next out hc hn ls st M hs
  unfold ni_sInc at hs
  split at hs
  · exact hn _ _ _ _ hs
  · cases hs
theorem ni_moGet {ci k q : Nat} : ni_Mo (ni_sGet ci k q) := by
  intro call next out hc hn ls st M hs
  unfold ni_sGet at hs
  split at hs
  · split at hs
    · split at hs
      · split at hs
        · exact hn _ _ _ _ hs
        · cases hs
      · cases hs
    · cases hs
  · cases hs
theorem ni_moPut {ci k q : Nat} {ty : FieldType} : ni_Mo (ni_sPut ci k ty q) := by
  intro call next out hc hn ls st M hs
  unfold ni_sPut at hs
  split at hs
  · split at hs
    next c0 ha =>
      obtain ⟨t, vs⟩ := c0
      split at hs
      · exact ni_leS ha (by simp) (hn _ _ _ _ hs)
      · cases hs
    next => cases hs
  · cases hs
theorem ni_moLen {q : Nat} : ni_Mo (ni_sLen q) := by
  intro call next out hc hn ls st M hs
  unfold ni_sLen at hs
  split at hs
  · split at hs
    · split at hs
      · exact hn _ _ _ _ hs
      · cases hs
    · cases hs
  · cases hs
theorem ni_moAld {ty : FieldType} {tv q : Nat} : ni_Mo (ni_sAld ty tv q) := by
  intro call next out hc hn ls st M hs
  unfold ni_sAld at hs
  split at hs
  · split at hs
    · split at hs
      · split at hs
        · split at hs
          · exact hn _ _ _ _ hs
          · cases hs
        · cases hs
      · cases hs
    · cases hs
  · cases hs
theorem ni_moQld {q : Nat} : ni_Mo (ni_sQld q) := by
  intro call next out hc hn ls st M hs
  unfold ni_sQld at hs
  split at hs
  · split at hs
    · split at hs
      · split at hs
        · split at hs
          · exact hn _ _ _ _ hs
          · cases hs
        · cases hs
      · cases hs
    · cases hs
  · cases hs
theorem ni_moAst {ty : FieldType} {tv q : Nat} : ni_Mo (ni_sAst ty tv q) := by
  intro call next out hc hn ls st M hs
  unfold ni_sAst at hs
  split at hs
  · split at hs
    next c0 ha =>
      obtain ⟨t, vs⟩ := c0
      split at hs
      · exact ni_leS ha (by simp) (hn _ _ _ _ hs)
      · cases hs
    next => cases hs
  · cases hs
theorem ni_moQst {q : Nat} : ni_Mo (ni_sQst q) := by
  intro call next out hc hn ls st M hs
  unfold ni_sQst at hs
  split at hs
  · split at hs
    next c0 ha =>
      obtain ⟨t, vs⟩ := c0
      split at hs
      · split at hs
        · exact ni_leS ha (by simp) (hn _ _ _ _ hs)
        · split at hs
          · split at hs
            · exact ni_leS ha (by simp) (hn _ _ _ _ hs)
            · cases hs
          · cases hs
        · cases hs
      · cases hs
    next => cases hs
  · cases hs
theorem ni_moNewa {k q : Nat} {ty : FieldType} : ni_Mo (ni_sNewa k ty q) := by
  intro call next out hc hn ls st M hs
  unfold ni_sNewa at hs
  split at hs
  · split at hs
    · exact ni_leA (hn _ _ _ _ hs)
    · cases hs
  · cases hs
theorem ni_moAft {call : ni_F} {next : ni_K} {out : ni_O} {q y : Nat} {ls r as : List Value} {M : ni_H} (hc : ∀ (y : Nat) (as : List Value) (M : ni_H) (o : ni_O), call y as M = some o → ni_le M o.2) (hn : ∀ (q : Nat) (ls st : List Value) (M : ni_H), next q ls st M = some out → ni_le M out.2) (hs : ni_aft next q ls r (call y as M) = some out) : ni_le M out.2 := by
  cases ho : call y as M with
  | none => rw [ho] at hs; cases hs
  | some o =>
    rw [ho] at hs
    obtain ⟨o1, M1⟩ := o
    have h1 := hc y as M _ ho
    cases o1 with
    | inl v => exact ni_leT h1 (hn _ _ _ _ hs)
    | inr E =>
      have hs : out = (.inr E, M1) := (Option.some.inj hs).symm
      subst hs
      exact h1
theorem ni_moV {y n ci q : Nat} : ni_Mo (ni_sV y n ci q) := by
  intro call next out hc hn ls st M hs
  unfold ni_sV at hs
  split at hs
  · split at hs
    · split at hs
      · exact ni_moAft hc hn hs
      · cases hs
    · cases hs
  · cases hs
theorem ni_moC {y n q : Nat} : ni_Mo (ni_sC y n q) := by
  intro call next out hc hn ls st M hs
  unfold ni_sC at hs
  split at hs
  · exact ni_moAft hc hn hs
  · cases hs
theorem ni_moI {y n q : Nat} : ni_Mo (ni_sI y n q) := by
  intro call next out hc hn ls st M hs
  unfold ni_sI at hs
  split at hs
  · split at hs
    · exact ni_moAft hc hn hs
    · cases hs
  · cases hs
theorem ni_moR {rt : Option FieldType} : ni_Mo (ni_sR rt) := by
  intro call next out hc hn ls st M hs
  unfold ni_sR at hs
  split at hs
  · split at hs
    · cases hs
      exact ni_leR _
    · cases hs
  · split at hs
    · cases hs
      exact ni_leR _
    · cases hs
  · cases hs
theorem ni_moTh {E : String} : ni_Mo (ni_sTh E) := by
  intro call next out hc hn ls st M hs
  unfold ni_sTh at hs
  split at hs
  · cases hs
    exact ni_leG M
  · cases hs
theorem ni_moVX {y n ci q1 k q : Nat} {E0 : String} : ni_Mo (ni_sVX y n ci E0 q1 k q) := by
  intro call next out hc hn ls st M hs
  unfold ni_sVX at hs
  split at hs
  · split at hs
    · split at hs
      · cases ho : call y _ M with
        | none => rw [ho] at hs; cases hs
        | some o =>
          rw [ho] at hs
          obtain ⟨o1, M1⟩ := o
          have h1 := hc y _ M _ ho
          cases o1 with
          | inl v => exact ni_leT h1 (hn _ _ _ _ hs)
          | inr E =>
            simp only [ni_aftX] at hs
            split at hs
            · exact ni_leT h1 (hn _ _ _ _ hs)
            · cases hs
      · cases hs
    · cases hs
  · cases hs
def ni_s0 : ni_S := fun _ _ _ _ _ => none
theorem ni_mo0 : ni_Mo ni_s0 := fun _ _ _ _ _ _ _ _ hs => by cases hs
theorem ni_ok0 {xs : List Int32} {Y : MethodName} {cc : ByteArray} {nL pc : Nat} {rt : Option FieldType} {hh : List (Nat × Nat × Nat × Nat)} : ni_Ok xs Y cc nL rt hh pc ni_s0 := fun _ _ _ _ _ _ _ _ _ hs => by cases hs
/-! THE READER -/
def ni_ent (y : Nat) (as : List Value) : List Value := ni_en as ++ List.replicate ((ni_ms y).2.2.1 - (ni_en as).length) ni_J
/-- a method called, its frames at most d deep, with what its rows answer (ex) -/
def ni_cl (ex : Nat → Nat → ni_K) (d y : Nat) (as : List Value) (M : ni_H) : Option ni_O := match d with
  | 0 => none
  | d' + 1 => if (ni_en as).length ≤ (ni_ms y).2.2.1 then ex d' y 0 (ni_ent y as) [] M else none
def ni_ex (prog : Nat → Nat → ni_S) (n : Nat) : Nat → Nat → ni_K := Nat.rec (fun _ _ _ _ _ _ => none) (fun _ ih d y pc ls st M => prog y pc (ni_cl ih d) (ih d y) ls st M) n
theorem ni_exS {prog : Nat → Nat → ni_S} {n d y pc : Nat} {ls st : List Value} {M : ni_H} : ni_ex prog (n + 1) d y pc ls st M = prog y pc (ni_cl (ni_ex prog n) d) (ni_ex prog n d y) ls st M := rfl
theorem ni_mono {prog : Nat → Nat → ni_S} (hm : ∀ y pc, ni_Mo (prog y pc)) : ∀ (n d y pc : Nat) (ls st : List Value) (M : ni_H) (out : ni_O), ni_ex prog n d y pc ls st M = some out → ni_le M out.2 := by
  intro n
  induction n with
  | zero => intro d y pc ls st M out h; cases h
  | succ n ih =>
    intro d y pc ls st M out h
    rw [ni_exS] at h
    refine hm y pc _ _ out (fun y' as M' o ho => ?_) (fun q ls st M hh => ih d y q ls st M out hh) ls st M h
    unfold ni_cl at ho
    split at ho
    · cases ho
    · split at ho
      · exact ih _ _ _ _ _ _ _ ho
      · cases ho
def ni_Bd (xs : List Int32) (prog : Nat → Nat → ni_S) (n : Nat) : Prop := ∀ (d y pc : Nat) (ls st : List Value) (M : ni_H) (out : ni_O), ni_ex prog n d y pc ls st M = some out →
  ∀ {w : ni_W} {p : Program} {l : Launch} {e : Env} {R : Room} {s : State} {m : MethodId} {args : Array Value} {below : List Frame} {meth : Method} {c : Code} {Q : State → Prop} {M0 : ni_H},
    ni_Cx w xs p R s m args meth c (ni_ms y).1 (ni_ms y).2.1 (ni_ms y).2.2.1 (ni_ms y).2.2.2.2 d → ni_Fin w out Q M0 p l e R s m args below meth c (ni_ms y).2.1 (ni_ms y).2.2.2.1 →
    ni_le M out.2 ∧ ni_Wt w Q M0 p l e R s m args below meth c (ni_ms y).2.2.1 pc ls st M
theorem ni_caOf {prog : Nat → Nat → ni_S} (hm : ∀ y pc, ni_Mo (prog y pc)) (hp : ∀ y, plainFor (ni_ms y).1 = true ∨ ∀ pc, prog y pc = ni_s0) {n : Nat} {xs : List Int32} (hB : ni_Bd xs prog n) {w : ni_W} {l : Launch} (hfl : l.stackTraces = false) {d y : Nat} {as : List Value} {M : ni_H} {o : ni_O} (hen : (ni_en as).length ≤ (ni_ms y).2.2.1) (ho : ni_ex prog n d y 0 (ni_ent y as) [] M = some o) : ni_Ca w xs l d y as M o := by
  refine ⟨ni_mono hm n d y 0 _ _ M o ho, fun kc ks hkc hks => ?_⟩
  have body : ∀ (p : Program) (e : Env) (s : State) (m : MethodId) (args : Array Value) (below : List Frame) (meth : Method) (c : Code) (s₁ : State), BodyLoose p l (ni_ms y).1 (headSpec (ni_mw y) (ni_rm d kc ks)) (ni_ms y).2.1 (ni_ms y).2.2.1 (ni_ms y).2.2.2.1 e s m args below meth c s₁ → c.maxLocals = (ni_ms y).2.2.1 →
      c.exceptionTable.toList.map (fun h => (h.startPc, h.endPc, h.handlerPc, h.catchType)) = (ni_ms y).2.2.2.2 → va_Pc (as.map (ni_v w)) (ni_Pi w xs M) args s →
      W p l e (headSpec (ni_mw y) (ni_rm d kc ks)).room s m args below meth c s.heap [] 0 0 (vx_MQ below (ni_Q w o) (ni_X w o) args s kc ks (ni_A w)) (entryFrame m args (ni_ms y).2.2.1) := by
    intro p e s m args below meth c s₁ B hml htab hv
    obtain ⟨rfl, hA, hK, hE, hBs, hsz⟩ := hv
    have hts := atoms_spec (ws := ni_mw y) B.pre
    have X : ni_Cx w xs p (headSpec (ni_mw y) (ni_rm d kc ks)).room s m ((as.map (ni_v w)).toArray) meth c (ni_ms y).1 (ni_ms y).2.1 (ni_ms y).2.2.1 (ni_ms y).2.2.2.2 d :=
      ⟨B.exec, B.bytes, hml, findClass_of_methodNamed B.named, fun z hz => hts z (List.mem_cons_of_mem _ hz), B.notSynchronized, (name_of_methodNamed B.named B.method).1, hK, hE, hBs, Nat.le_refl _, Nat.le_refl _, htab⟩
    have hS0 : va_S (ni_A w) s.heap s.heap [] := va_S.rf
    have F : ni_Fin w o (vx_MQ below (ni_Q w o) (ni_X w o) ((as.map (ni_v w)).toArray) s kc ks (ni_A w)) M p l e (headSpec (ni_mw y) (ni_rm d kc ks)).room s m ((as.map (ni_v w)).toArray) below meth c (ni_ms y).2.1 (ni_ms y).2.2.2.1 := by
      refine ⟨Nat.le_of_eq hkc, Nat.le_of_eq hks, hsz, ?_, ?_, ?_, hfl⟩
      · intro v M' pc H locs A cells slots hv hk hdg g1 g2 g3 g4
        subst hv
        have e1 : cells = kc := by dsimp only at hkc; omega
        have e2 : slots = ks := by dsimp only at hks; omega
        subst e1
        subst e2
        have hq : ∀ t : State, t.heap = H → s.WarmedH t.vm → ni_Q w (.inl v, M') ((as.map (ni_v w)).toArray) s (.returned (v.map (ni_v w))) t := fun t ht _ => ⟨v, rfl, rfl, by rw [ht]; exact g1, g2.F ht⟩
        have hr := B.returns
        refine vx_ret ?_
        generalize (ni_ms y).2.2.2.1 = rt at hk hdg hr
        cases v with
        | none =>
          cases rt with
          | none => exact W.vret X.1 X.2.1 hr hq g2.2.2 hdg X.2.2.2.2.2.1
          | some ty => cases ty <;> cases hk
        | some v =>
          cases rt with
          | none => cases hk
          | some ty =>
            cases ty with
            | int =>
              cases v <;> first | (cases hk; done) | exact W.iret X.1 X.2.1 hr hq g2.2.2 hdg X.2.2.2.2.2.1
            | long =>
              cases v <;> first | (cases hk; done) | exact W.lret X.1 X.2.1 hr hq g2.2.2 hdg X.2.2.2.2.2.1
            | double =>
              cases v <;> first | (cases hk; done) | exact W.dret X.1 X.2.1 hr hq g2.2.2 hdg X.2.2.2.2.2.1
            | boolean =>
              cases v with
              | int x =>
                refine W.zret X.1 X.2.1 hr ?_ hq g2.2.2 hdg X.2.2.2.2.2.1
                rcases of_decide_eq_true hk with rfl | rfl <;> rfl
              | _ => cases hk
            | object C =>
              cases v with
              | null => exact W.aret X.1 X.2.1 hr (Or.inl ⟨C, rfl⟩) (Or.inl rfl) hq g2.2.2 hdg X.2.2.2.2.2.1
              | ref b => exact W.aret X.1 X.2.1 hr (Or.inl ⟨C, rfl⟩) (Or.inr ⟨_, rfl⟩) hq g2.2.2 hdg X.2.2.2.2.2.1
              | _ => cases hk
            | array t =>
              cases v with
              | null => exact W.aret X.1 X.2.1 hr (Or.inr ⟨t, rfl⟩) (Or.inl rfl) hq g2.2.2 hdg X.2.2.2.2.2.1
              | ref b => exact W.aret X.1 X.2.1 hr (Or.inr ⟨t, rfl⟩) (Or.inr ⟨_, rfl⟩) hq g2.2.2 hdg X.2.2.2.2.2.1
              | _ => cases hk
            | _ => cases hk
      · intro E M' pc q ce H locs A cells slots rest hv g1 g2 g3 g4 gT g5 g6 g7
        subst hv
        have e1 : cells = kc := by dsimp only at hkc; omega
        have e2 : slots = ks := by dsimp only at hks; omega
        subst e1
        subst e2
        exact vx_out (fun x hx => by rw [gT] at hx; cases hx) X.2.2.2.2.2.1 g5 g6 g7 (fun t ht _ => ⟨rfl, by rw [ht]; exact g1, g2.F ht⟩) g2.2.2 (Nat.le_refl _) (Nat.le_refl _)
      · intro own E M' pc H locs A cells slots rest hv hown hT hcs g1 g2 g3 g4 gT hsz2
        subst hv
        obtain ⟨ik, is, ic, text, names, t1, t2, t3, t4, t5, t6, t7, t8, t9, d0, d3, d4, d7, d10⟩ := hT
        have e1 : cells + 1 = kc := by simp only [ni_zc] at hkc g3; omega
        have e2 : slots + 6 = ks := by simp only [ni_zs] at hks g4; omega
        subst e1
        subst e2
        obtain ⟨sa, hstr⟩ := hE.2.2.2.2.1 _ t6
        refine vx_throwSW X.1 X.2.1 hfl hown t1 t2 (X.2.2.2.2.1 _ t4) (X.2.2.2.2.1 _ t5) hstr (vx_hat (fun z hz => X.2.2.2.2.1 _ (t7 z hz)) t8 (fun z hz => ?_)) t9 hE.2.2.1 hE.2.2.2.1 g2 hsz2 d0 d3 d4 d7 d10 (fun x hx => by rw [gT] at hx; cases hx) ?_ ?_ (Nat.le_refl _) (Nat.le_refl _) X.2.2.2.2.2.1 (fun t hA1 hz1 hq1 => ⟨rfl, ⟨g1.1.kept (fun k q hq => hq1 q.1 ((g1.1 k q hq).lt)), Nat.le_trans g1.2.1 hz1, g1.2.2⟩, ⟨Nat.le_trans g2.1 hz1, fun q h1 h2 => (hq1 q (Nat.lt_of_lt_of_le h1 g2.1)).trans (g2.2.1 q h1 h2)⟩⟩) g2.2.2 (Nat.le_refl _) (Nat.le_refl _)
        · rcases List.mem_append.mp hz with h | h
          · obtain ⟨q, hq, rfl⟩ := List.mem_map.mp h
            exact va_Nw.use rfl (hK.2.2.2.1 q hq)
          · obtain ⟨q, hq, rfl⟩ := List.mem_map.mp h
            exact va_Nw.use rfl (hK.2.2.2.2.1 q hq)
        · show names.length + 3 < d + 8
          omega
        · rw [ni_csM]
          show ni_cs rest + (13 * (names.length + 1) + 43) ≤ 64 * d + 300
          omega
    rw [lg_entry_eq]
    exact (hB d y 0 _ _ M o ho X F).2 s.heap [] _ 0 0 hA hS0 (ni_enE hen) rfl rfl (Nat.le_refl _)
  have hpy : plainFor (ni_ms y).1 = true := by
    rcases hp y with h | h
    · exact h
    · cases n with
      | zero => cases ho
      | succ n =>
        rw [ni_exS, h 0] at ho
        cases ho
  by_cases h0 : (ni_ms y).2.2.2.2 = []
  · refine ni_ofW (cc := (ni_ms y).2.1) (maxL := (ni_ms y).2.2.1) (ret := (ni_ms y).2.2.2.1) hpy (ni_mw0 h0) ?_
    intro p e s m args below meth c s₁ B hml hnx hv
    refine body p e s m args below meth c s₁ B hml ?_ hv
    rw [h0, List.map_eq_nil_iff]
    cases hT : c.exceptionTable.toList with
    | nil => rfl
    | cons x suf => exact (hnx x (by rw [hT]; exact List.mem_cons_self)).elim
  · have hw : ni_mw y = Cond.codeWith (ni_ms y).1 (ni_ms y).2.1 (ni_ms y).2.2.1 (ni_ms y).2.2.2.1 (ni_ms y).2.2.2.2 :: ni_tb := by
      unfold ni_mw
      rw [ni_cw1 h0]
    refine ni_ofWH (cc := (ni_ms y).2.1) (maxL := (ni_ms y).2.2.1) (ret := (ni_ms y).2.2.2.1) hpy hw ?_
    intro p e s m args below meth c s₁ B hml hv
    refine body p e s m args below meth c s₁ B hml ?_ hv
    have hcw := atoms_spec (ws := ni_mw y) B.pre _ (by rw [hw]; exact List.mem_cons_self)
    obtain ⟨m9, meth9, c9, k1, k2, k3, -, -, k4, -⟩ := Cond.codeWith_spec hcw
    cases Option.some.inj (k1.symm.trans B.named)
    cases Option.some.inj (k2.symm.trans B.method)
    have hc9 := (Stand.of_body B).code
    cases Option.some.inj (k3.symm.trans hc9)
    exact k4
theorem ni_body {xs : List Int32} {prog : Nat → Nat → ni_S} (hm : ∀ y pc, ni_Mo (prog y pc)) (hp : ∀ y, plainFor (ni_ms y).1 = true ∨ ∀ pc, prog y pc = ni_s0) (hok : ∀ y pc, ni_Ok xs (ni_ms y).1 (ni_ms y).2.1 (ni_ms y).2.2.1 (ni_ms y).2.2.2.1 (ni_ms y).2.2.2.2 pc (prog y pc)) : ∀ n, ni_Bd xs prog n := by
  intro n
  induction n with
  | zero => intro d y pc ls st M out h; cases h
  | succ n ih =>
    intro d y pc ls st M out h w p l e R s m args below meth c Q M0 X F
    rw [ni_exS] at h
    refine hok y pc X F (ni_cl (ni_ex prog n) d) (ni_ex prog n d y) (fun y' as M' o ho => ?_) (fun q ls st M hh => ih d y q ls st M out hh X F) ls st M h
    unfold ni_cl at ho
    split at ho
    · cases ho
    next d' =>
      split at ho
      next hen => exact ⟨d', rfl, ni_caOf hm hp ih F.2.2.2.2.2.2 hen ho⟩
      next => cases ho
/-- THE READER IS RIGHT: a call that it answers is met by the machine -/
theorem ni_sound {xs : List Int32} {prog : Nat → Nat → ni_S} (hm : ∀ y pc, ni_Mo (prog y pc)) (hp : ∀ y, plainFor (ni_ms y).1 = true ∨ ∀ pc, prog y pc = ni_s0) (hok : ∀ y pc, ni_Ok xs (ni_ms y).1 (ni_ms y).2.1 (ni_ms y).2.2.1 (ni_ms y).2.2.2.1 (ni_ms y).2.2.2.2 pc (prog y pc)) {n d y : Nat} {as : List Value} {M : ni_H} {o : ni_O} (ho : ni_cl (ni_ex prog n) (d + 1) y as M = some o) (w : ni_W) (l : Launch) (hfl : l.stackTraces = false) : ni_Ca w xs l d y as M o := by
  unfold ni_cl at ho
  dsimp only at ho
  split at ho
  next hen => exact ni_caOf hm hp (ni_body hm hp hok n) hfl hen ho
  next => cases ho
end NX
