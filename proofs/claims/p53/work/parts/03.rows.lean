section NR
theorem ni_good : GoodIn ni_tb ni_tb := fun w h => ⟨h, good_of_word (List.mem_filter.mp h).2⟩
def ni_zc (M : ni_H) : Nat := M.1.length + M.2
def ni_zs (M : ni_H) : Nat := (M.1.map (fun c => c.2.length)).sum + 6 * M.2
/-- what the tables say of the classes -/
def ni_Kn (w : ni_W) (s : State) : Prop := va_K (w.1, w.2.1) vwCl (ni_tys w) s ∧ (∀ z ∈ ni_nn, va_Nw (.methodLinkNest z.1 z.2.1 z.2.2.1 z.2.2.2) s) ∧ (∀ z ∈ ni_ao, va_AO z s) ∧ (∀ z ∈ ni_ca, va_Nw (.castable z.1 z.2) s) ∧ (∀ z ∈ ni_dc, va_Nw (.declares z) s) ∧ (∀ z ∈ ni_aa, ∃ (k : Class) (ty : FieldType), ni_aks[z.1]? = some ty ∧ s.vm.classes[w.2.2.1 z.1]? = some k ∧ k.kind = .array (w.2.2.1 z.2) ty ∧ ∃ k2, s.vm.classes[w.2.2.1 z.2]? = some k2) ∧ (∀ t ∈ ni_at, ni_AOA t s)
/-- what was there before: the script -/
def ni_Ev (w : ni_W) (xs : List Int32) (U : State) (H : Heap) : Prop := va_X (w.2.2.2.2 0) xs.length (fun j => xs.getD j 0) U H ∧ w.2.2.2.2 0 < ni_B w ∧ ni_Ex (fun q => ni_B w ≤ q) w.2.2.2.2 U H
def ni_Cx (w : ni_W) (xs : List Int32) (p : Program) (R : Room) (s : State) (m : MethodId) (args : Array Value) (meth : Method) (c : Code) (Y : MethodName) (cc : ByteArray) (nL : Nat) (hh : List (Nat × Nat × Nat × Nat)) (d : Nat) : Prop :=
  p.tables.exec = Jvm.exec ∧ c.code = cc ∧ c.maxLocals = nL ∧ s.vm.findClass Y.cls = some m.cls ∧ (∀ z ∈ ni_tb, z.before args s = true) ∧ meth.locks = false ∧ meth.name = Y.name ∧ ni_Kn w s ∧ ni_Ev w xs s s.heap ∧ ni_B w ≤ s.heap.size ∧ d + 8 ≤ R.frames ∧ 64 * d + 300 ≤ R.locals ∧ c.exceptionTable.toList.map (fun h => (h.startPc, h.endPc, h.handlerPc, h.catchType)) = hh
abbrev ni_A (w : ni_W) : Nat → Prop := fun q => ni_B w ≤ q
/-- a row that moves the stack and the counter alone -/
def ni_sP (g : List Value → Option (Nat × List Value)) : ni_S := fun _ k ls st M => match g st with
  | some r => k r.1 ls r.2 M
  | none => none
def ni_Row (Y : MethodName) (cc : ByteArray) (pc : Nat) (g : List Value → Option (Nat × List Value)) : Prop :=
  ∀ {w : ni_W} {xs : List Int32} {p : Program} {l : Launch} {e : Env} {R : Room} {s : State} {m : MethodId} {args : Array Value} {below : List Frame} {meth : Method} {c : Code} {H : Heap} {locs : List Loc} {cells slots : Nat} {Q : State → Prop} {A : Array Slot} {nL : Nat} {hh : List (Nat × Nat × Nat × Nat)} {d : Nat},
    ni_Cx w xs p R s m args meth c Y cc nL hh d → A.size = nL → cells ≤ R.cells → slots ≤ R.slots → ∀ (st : List Value) (q : Nat) (st' : List Value), g st = some (q, st') →
    W p l e R s m args below meth c H locs cells slots Q (F0 m q A (st'.map (ni_v w))) → W p l e R s m args below meth c H locs cells slots Q (F0 m pc A (st.map (ni_v w)))
section G
def ni_cs (st : List Value) : Nat := (st.map (fun v => v.category)).sum
theorem ni_csM (w : ni_W) (st : List Value) : ((st.map (ni_v w)).map (fun v => v.category)).sum = ni_cs st := by
  simp only [ni_cs, List.map_map]
  congr 1
  apply List.map_congr_left
  intro v _
  exact ni_cat w v
def ni_gPush (v : Value) (q : Nat) (st : List Value) : Option (Nat × List Value) := some (q, v :: st)
def ni_gI (f : Int32 → Int32 → Int32) (q : Nat) (st : List Value) : Option (Nat × List Value) := match st with
  | .int y :: .int x :: r => some (q, .int (f x y) :: r)
  | _ => none
def ni_gI0 (f : Int32 → Int32 → Int32) (q : Nat) (st : List Value) : Option (Nat × List Value) := match st with
  | .int y :: .int x :: r => if y = 0 then none else some (q, .int (f x y) :: r)
  | _ => none
/-- a call of Math.max, min: the room of the rest is looked at -/
def ni_gIM (f : Int32 → Int32 → Int32) (q : Nat) (st : List Value) : Option (Nat × List Value) := match st with
  | .int y :: .int x :: r => if ni_cs r ≤ 8 then some (q, .int (f x y) :: r) else none
  | _ => none
def ni_gJ (f : Int64 → Int64 → Value) (q : Nat) (st : List Value) : Option (Nat × List Value) := match st with
  | .long y :: .long x :: r => some (q, f x y :: r)
  | _ => none
def ni_gU (f : Int32 → Value) (q : Nat) (st : List Value) : Option (Nat × List Value) := match st with
  | .int x :: r => some (q, f x :: r)
  | _ => none
def ni_gUL (f : Int64 → Value) (q : Nat) (st : List Value) : Option (Nat × List Value) := match st with
  | .long x :: r => some (q, f x :: r)
  | _ => none
def ni_gD (f : UInt64 → UInt64 → Value) (q : Nat) (st : List Value) : Option (Nat × List Value) := match st with
  | .double y :: .double x :: r => some (q, f x y :: r)
  | _ => none
def ni_gDv (q : Nat) (st : List Value) : Option (Nat × List Value) := match st with
  | .double y :: .double x :: r => if FP.ddiv x y &&& 0x7fffffffffffffff ≤ 0x7ff0000000000000 then some (q, .double (FP.ddiv x y) :: r) else none
  | _ => none
def ni_gIf (f : Int32 → Bool) (t q : Nat) (st : List Value) : Option (Nat × List Value) := match st with
  | .int x :: r => some (if f x = true then t else q, r)
  | _ => none
def ni_gIc (f : Int32 → Int32 → Bool) (t q : Nat) (st : List Value) : Option (Nat × List Value) := match st with
  | .int y :: .int x :: r => some (if f x y = true then t else q, r)
  | _ => none
/-- null to t, a cell to q -/
def ni_gN (t q : Nat) (st : List Value) : Option (Nat × List Value) := match st with
  | .null :: r => some (t, r)
  | .ref _ :: r => some (q, r)
  | _ => none
def ni_gSw (f : Int32 → Nat) (st : List Value) : Option (Nat × List Value) := match st with
  | .int x :: r => some (f x, r)
  | _ => none
def ni_gGo (q : Nat) (st : List Value) : Option (Nat × List Value) := some (q, st)
def ni_gDup (q : Nat) (st : List Value) : Option (Nat × List Value) := match st with
  | v :: r => if v.category = 1 then some (q, v :: v :: r) else none
  | _ => none
def ni_gDup2 (q : Nat) (st : List Value) : Option (Nat × List Value) := match st with
  | v :: u :: r => if v.category = 1 ∧ u.category = 1 then some (q, v :: u :: v :: u :: r) else none
  | _ => none
def ni_gDupx (q : Nat) (st : List Value) : Option (Nat × List Value) := match st with
  | v :: u :: r => if v.category = 1 ∧ u.category = 1 then some (q, v :: u :: v :: r) else none
  | _ => none
def ni_gPop (q : Nat) (st : List Value) : Option (Nat × List Value) := match st with
  | v :: r => if v.category = 1 then some (q, r) else none
  | _ => none
/-- Object.<init> -/
def ni_gObj (q : Nat) (st : List Value) : Option (Nat × List Value) := match st with
  | .ref _ :: r => if ni_cs r ≤ 8 then some (q, r) else none
  | _ => none
end G
section R
variable {Y : MethodName} {cc : ByteArray} {pc : Nat}
theorem ni_iconst {n : Int} {v : Int32} (hdg : decode cc pc = .ok (.iconst n, 1)) (hv : Int32.ofInt n = v) : ni_Row Y cc pc (ni_gPush (.int v) (pc + 1)) := by
  intro w xs p l e R s m args below meth c H locs cells slots Q A nL hh d X _ _ _ st q st' h k
  cases h
  exact lv_iconst X.1 X.2.1 hdg hv k
theorem ni_bipush {n : Int} {v : Int32} (hdg : decode cc pc = .ok (.bipush n, 2)) (hv : (Int8.ofInt n).toInt32 = v) : ni_Row Y cc pc (ni_gPush (.int v) (pc + 2)) := by
  intro w xs p l e R s m args below meth c H locs cells slots Q A nL hh d X _ _ _ st q st' h k
  cases h
  exact lv_bipush X.1 X.2.1 hdg hv k
theorem ni_sipush {n : Int} {v : Int32} (hdg : decode cc pc = .ok (.sipush n, 3)) (hv : (Int16.ofInt n).toInt32 = v) : ni_Row Y cc pc (ni_gPush (.int v) (pc + 3)) := by
  intro w xs p l e R s m args below meth c H locs cells slots Q A nL hh d X _ _ _ st q st' h k
  cases h
  exact lv_sipush X.1 X.2.1 hdg hv k
theorem ni_ldc {v : Int32} {i : Nat} (hdg : decode cc pc = .ok (.ldc i, 2)) (hc : Cond.constant Y.cls i v ∈ ni_tb) : ni_Row Y cc pc (ni_gPush (.int v) (pc + 2)) := by
  intro w xs p l e R s m args below meth c H locs cells slots Q A nL hh d X _ _ _ st q st' h k
  cases h
  exact lv_ldc X.1 X.2.1 X.2.2.2.1 (X.2.2.2.2.1 _ hc) hdg k
theorem ni_ldcw {v : Int32} {i : Nat} (hdg : decode cc pc = .ok (.ldc_w i, 3)) (hc : Cond.constant Y.cls i v ∈ ni_tb) : ni_Row Y cc pc (ni_gPush (.int v) (pc + 3)) := by
  intro w xs p l e R s m args below meth c H locs cells slots Q A nL hh d X _ _ _ st q st' h k
  cases h
  exact lv_ldcw X.1 X.2.1 X.2.2.2.1 (X.2.2.2.2.1 _ hc) hdg k
theorem ni_ldc2 {v : Int64} {i : Nat} (hdg : decode cc pc = .ok (.ldc2_w i, 3)) (hc : Cond.constantLong Y.cls i v ∈ ni_tb) : ni_Row Y cc pc (ni_gPush (.long v) (pc + 3)) := by
  intro w xs p l e R s m args below meth c H locs cells slots Q A nL hh d X _ _ _ st q st' h k
  cases h
  exact lv_ldc2 X.1 X.2.1 X.2.2.2.1 (X.2.2.2.2.1 _ hc) hdg k
theorem ni_lconst {n : Fin 2} {v : Int64} (hdg : decode cc pc = .ok (.lconst n, 1)) (hv : Int64.ofNat (n : Nat) = v) : ni_Row Y cc pc (ni_gPush (.long v) (pc + 1)) := by
  intro w xs p l e R s m args below meth c H locs cells slots Q A nL hh d X _ _ _ st q st' h k
  cases h
  exact lv_lconst X.1 X.2.1 hdg hv k
theorem ni_dconst0 (hdg : decode cc pc = .ok (.dconst 0, 1)) : ni_Row Y cc pc (ni_gPush (.double FP.dconst0) (pc + 1)) := by
  intro w xs p l e R s m args below meth c H locs cells slots Q A nL hh d X _ _ _ st q st' h k
  cases h
  exact lv_dconst0 X.1 X.2.1 hdg k
theorem ni_null (hdg : decode cc pc = .ok (.aconst_null, 1)) : ni_Row Y cc pc (ni_gPush .null (pc + 1)) := by
  intro w xs p l e R s m args below meth c H locs cells slots Q A nL hh d X _ _ _ st q st' h k
  cases h
  exact lv_null X.1 X.2.1 hdg k
theorem ni_iadd (hdg : decode cc pc = .ok (.iadd, 1)) : ni_Row Y cc pc (ni_gI (fun x y => x + y) (pc + 1)) := by
  intro w xs p l e R s m args below meth c H locs cells slots Q A nL hh d X _ _ _ st q st' h k
  unfold ni_gI at h
  split at h
  · cases h
    exact lv_iadd X.1 X.2.1 hdg k
  · cases h
theorem ni_isub (hdg : decode cc pc = .ok (.isub, 1)) : ni_Row Y cc pc (ni_gI (fun x y => x - y) (pc + 1)) := by
  intro w xs p l e R s m args below meth c H locs cells slots Q A nL hh d X _ _ _ st q st' h k
  unfold ni_gI at h
  split at h
  · cases h
    exact lv_isub X.1 X.2.1 hdg k
  · cases h
theorem ni_imul (hdg : decode cc pc = .ok (.imul, 1)) : ni_Row Y cc pc (ni_gI (fun x y => x * y) (pc + 1)) := by
  intro w xs p l e R s m args below meth c H locs cells slots Q A nL hh d X _ _ _ st q st' h k
  unfold ni_gI at h
  split at h
  · cases h
    exact lv_imul X.1 X.2.1 hdg k
  · cases h
theorem ni_iand (hdg : decode cc pc = .ok (.iand, 1)) : ni_Row Y cc pc (ni_gI (fun x y => x &&& y) (pc + 1)) := by
  intro w xs p l e R s m args below meth c H locs cells slots Q A nL hh d X _ _ _ st q st' h k
  unfold ni_gI at h
  split at h
  · cases h
    exact lv_iand X.1 X.2.1 hdg k
  · cases h
theorem ni_ior (hdg : decode cc pc = .ok (.ior, 1)) : ni_Row Y cc pc (ni_gI (fun x y => x ||| y) (pc + 1)) := by
  intro w xs p l e R s m args below meth c H locs cells slots Q A nL hh d X _ _ _ st q st' h k
  unfold ni_gI at h
  split at h
  · cases h
    exact lv_ior X.1 X.2.1 hdg k
  · cases h
theorem ni_ixor (hdg : decode cc pc = .ok (.ixor, 1)) : ni_Row Y cc pc (ni_gI (fun x y => x ^^^ y) (pc + 1)) := by
  intro w xs p l e R s m args below meth c H locs cells slots Q A nL hh d X _ _ _ st q st' h k
  unfold ni_gI at h
  split at h
  · cases h
    exact lv_ixor X.1 X.2.1 hdg k
  · cases h
theorem ni_ishl (hdg : decode cc pc = .ok (.ishl, 1)) : ni_Row Y cc pc (ni_gI (fun x y => x <<< (y &&& 31)) (pc + 1)) := by
  intro w xs p l e R s m args below meth c H locs cells slots Q A nL hh d X _ _ _ st q st' h k
  unfold ni_gI at h
  split at h
  · cases h
    exact lv_ishl X.1 X.2.1 hdg k
  · cases h
theorem ni_ishr (hdg : decode cc pc = .ok (.ishr, 1)) : ni_Row Y cc pc (ni_gI (fun x y => x >>> (y &&& 31)) (pc + 1)) := by
  intro w xs p l e R s m args below meth c H locs cells slots Q A nL hh d X _ _ _ st q st' h k
  unfold ni_gI at h
  split at h
  · cases h
    exact lv_ishr X.1 X.2.1 hdg k
  · cases h
theorem ni_iushr (hdg : decode cc pc = .ok (.iushr, 1)) : ni_Row Y cc pc (ni_gI (fun x y => (x.toUInt32 >>> (y.toUInt32 &&& Int32.toUInt32 31)).toInt32) (pc + 1)) := by
  intro w xs p l e R s m args below meth c H locs cells slots Q A nL hh d X _ _ _ st q st' h k
  unfold ni_gI at h
  split at h
  · cases h
    exact lv_iushr X.1 X.2.1 hdg rfl k
  · cases h
theorem ni_idiv (hdg : decode cc pc = .ok (.idiv, 1)) : ni_Row Y cc pc (ni_gI0 (fun x y => x / y) (pc + 1)) := by
  intro w xs p l e R s m args below meth c H locs cells slots Q A nL hh d X _ _ _ st q st' h k
  unfold ni_gI0 at h
  split at h
  · split at h
    next => cases h
    next hn =>
      cases h
      exact lv_idiv X.1 X.2.1 hdg hn k
  · cases h
theorem ni_irem (hdg : decode cc pc = .ok (.irem, 1)) : ni_Row Y cc pc (ni_gI0 (fun x y => x - x / y * y) (pc + 1)) := by
  intro w xs p l e R s m args below meth c H locs cells slots Q A nL hh d X _ _ _ st q st' h k
  unfold ni_gI0 at h
  split at h
  · split at h
    next => cases h
    next hn =>
      cases h
      exact lv_irem X.1 X.2.1 hdg hn k
  · cases h
theorem ni_ladd (hdg : decode cc pc = .ok (.ladd, 1)) : ni_Row Y cc pc (ni_gJ (fun x y => .long (x + y)) (pc + 1)) := by
  intro w xs p l e R s m args below meth c H locs cells slots Q A nL hh d X _ _ _ st q st' h k
  unfold ni_gJ at h
  split at h
  · cases h
    exact lv_ladd X.1 X.2.1 hdg k
  · cases h
theorem ni_lmul (hdg : decode cc pc = .ok (.lmul, 1)) : ni_Row Y cc pc (ni_gJ (fun x y => .long (x * y)) (pc + 1)) := by
  intro w xs p l e R s m args below meth c H locs cells slots Q A nL hh d X _ _ _ st q st' h k
  unfold ni_gJ at h
  split at h
  · cases h
    exact lv_lmul X.1 X.2.1 hdg k
  · cases h
theorem ni_lsub (hdg : decode cc pc = .ok (.lsub, 1)) : ni_Row Y cc pc (ni_gJ (fun x y => .long (x - y)) (pc + 1)) := by
  intro w xs p l e R s m args below meth c H locs cells slots Q A nL hh d X _ _ _ st q st' h k
  unfold ni_gJ at h
  split at h
  · cases h
    exact lv_lsub X.1 X.2.1 hdg k
  · cases h
theorem ni_lcmp (hdg : decode cc pc = .ok (.lcmp, 1)) : ni_Row Y cc pc (ni_gJ (fun x y => .int (lg_cmp x y)) (pc + 1)) := by
  intro w xs p l e R s m args below meth c H locs cells slots Q A nL hh d X _ _ _ st q st' h k
  unfold ni_gJ at h
  split at h
  · cases h
    exact W.lcmp X.1 X.2.1 hdg k
  · cases h
theorem ni_i2l (hdg : decode cc pc = .ok (.i2l, 1)) : ni_Row Y cc pc (ni_gU (fun x => .long x.toInt64) (pc + 1)) := by
  intro w xs p l e R s m args below meth c H locs cells slots Q A nL hh d X _ _ _ st q st' h k
  unfold ni_gU at h
  split at h
  · cases h
    exact lv_i2l X.1 X.2.1 hdg rfl k
  · cases h
theorem ni_i2d (hdg : decode cc pc = .ok (.i2d, 1)) : ni_Row Y cc pc (ni_gU (fun x => .double (FP.i2d x)) (pc + 1)) := by
  intro w xs p l e R s m args below meth c H locs cells slots Q A nL hh d X _ _ _ st q st' h k
  unfold ni_gU at h
  split at h
  · cases h
    exact lv_i2d X.1 X.2.1 hdg k
  · cases h
theorem ni_l2d (hdg : decode cc pc = .ok (.l2d, 1)) : ni_Row Y cc pc (ni_gUL (fun x => .double (FP.l2d x)) (pc + 1)) := by
  intro w xs p l e R s m args below meth c H locs cells slots Q A nL hh d X _ _ _ st q st' h k
  unfold ni_gUL at h
  split at h
  · cases h
    exact lv_l2d X.1 X.2.1 hdg k
  · cases h
theorem ni_dcmp {op : CmpOp} (hdg : decode cc pc = .ok (.dcmp op, 1)) : ni_Row Y cc pc (ni_gD (fun x y => .int (Op.cmpValue (FP.dcmp x y) op)) (pc + 1)) := by
  intro w xs p l e R s m args below meth c H locs cells slots Q A nL hh d X _ _ _ st q st' h k
  unfold ni_gD at h
  split at h
  · cases h
    exact lv_dcmp X.1 X.2.1 hdg k
  · cases h
theorem ni_ddiv (hdg : decode cc pc = .ok (.ddiv, 1)) : ni_Row Y cc pc (ni_gDv (pc + 1)) := by
  intro w xs p l e R s m args below meth c H locs cells slots Q A nL hh d X _ _ _ st q st' h k
  unfold ni_gDv at h
  split at h
  · split at h
    next hn =>
      cases h
      exact lv_ddiv X.1 X.2.1 hdg hn k
    next => cases h
  · cases h
theorem ni_if_eq {off : Int} {t : Nat} (hdg : decode cc pc = .ok (.ifCond .eq off, 3)) (ht : (pc : Int) + off = (t : Int)) : ni_Row Y cc pc (ni_gIf (fun x => decide (x = 0)) t (pc + 3)) := by
  intro w xs p l e R s m args below meth c H locs cells slots Q A nL hh d X _ _ _ st q st' h k
  unfold ni_gIf at h
  split at h
  · cases h
    refine lv_if_eq X.1 X.2.1 hdg ht (fun z => ?_) (fun z => ?_)
    · rw [if_pos (decide_eq_true z)] at k
      exact k
    · rw [if_neg (fun y => z (of_decide_eq_true y))] at k
      exact k
  · cases h
theorem ni_if_ne {off : Int} {t : Nat} (hdg : decode cc pc = .ok (.ifCond .ne off, 3)) (ht : (pc : Int) + off = (t : Int)) : ni_Row Y cc pc (ni_gIf (fun x => decide (¬ x = 0)) t (pc + 3)) := by
  intro w xs p l e R s m args below meth c H locs cells slots Q A nL hh d X _ _ _ st q st' h k
  unfold ni_gIf at h
  split at h
  · cases h
    refine lv_if_ne X.1 X.2.1 hdg ht (fun z => ?_) (fun z => ?_)
    · rw [if_pos (decide_eq_true z)] at k
      exact k
    · rw [if_neg (fun y => (of_decide_eq_true y) z)] at k
      exact k
  · cases h
theorem ni_if_lt {off : Int} {t : Nat} (hdg : decode cc pc = .ok (.ifCond .lt off, 3)) (ht : (pc : Int) + off = (t : Int)) : ni_Row Y cc pc (ni_gIf (fun x => decide (x < 0)) t (pc + 3)) := by
  intro w xs p l e R s m args below meth c H locs cells slots Q A nL hh d X _ _ _ st q st' h k
  unfold ni_gIf at h
  split at h
  · cases h
    refine lv_if_lt X.1 X.2.1 hdg ht (fun z => ?_) (fun z => ?_)
    · rw [if_pos (decide_eq_true z)] at k
      exact k
    · rw [if_neg (fun y => z (of_decide_eq_true y))] at k
      exact k
  · cases h
theorem ni_if_ge {off : Int} {t : Nat} (hdg : decode cc pc = .ok (.ifCond .ge off, 3)) (ht : (pc : Int) + off = (t : Int)) : ni_Row Y cc pc (ni_gIf (fun x => decide (0 ≤ x)) t (pc + 3)) := by
  intro w xs p l e R s m args below meth c H locs cells slots Q A nL hh d X _ _ _ st q st' h k
  unfold ni_gIf at h
  split at h
  · cases h
    refine lv_if_ge X.1 X.2.1 hdg ht (fun z => ?_) (fun z => ?_)
    · rw [if_pos (decide_eq_true z)] at k
      exact k
    · rw [if_neg (fun y => z (of_decide_eq_true y))] at k
      exact k
  · cases h
theorem ni_if_gt {off : Int} {t : Nat} (hdg : decode cc pc = .ok (.ifCond .gt off, 3)) (ht : (pc : Int) + off = (t : Int)) : ni_Row Y cc pc (ni_gIf (fun x => decide (0 < x)) t (pc + 3)) := by
  intro w xs p l e R s m args below meth c H locs cells slots Q A nL hh d X _ _ _ st q st' h k
  unfold ni_gIf at h
  split at h
  · cases h
    refine lv_if_gt X.1 X.2.1 hdg ht (fun z => ?_) (fun z => ?_)
    · rw [if_pos (decide_eq_true z)] at k
      exact k
    · rw [if_neg (fun y => z (of_decide_eq_true y))] at k
      exact k
  · cases h
theorem ni_if_le {off : Int} {t : Nat} (hdg : decode cc pc = .ok (.ifCond .le off, 3)) (ht : (pc : Int) + off = (t : Int)) : ni_Row Y cc pc (ni_gIf (fun x => decide (x ≤ 0)) t (pc + 3)) := by
  intro w xs p l e R s m args below meth c H locs cells slots Q A nL hh d X _ _ _ st q st' h k
  unfold ni_gIf at h
  split at h
  · cases h
    refine lv_if_le X.1 X.2.1 hdg ht (fun z => ?_) (fun z => ?_)
    · rw [if_pos (decide_eq_true z)] at k
      exact k
    · rw [if_neg (fun y => z (of_decide_eq_true y))] at k
      exact k
  · cases h
theorem ni_ic_eq {off : Int} {t : Nat} (hdg : decode cc pc = .ok (.if_icmp .eq off, 3)) (ht : (pc : Int) + off = (t : Int)) : ni_Row Y cc pc (ni_gIc (fun x y => decide (x = y)) t (pc + 3)) := by
  intro w xs p l e R s m args below meth c H locs cells slots Q A nL hh d X _ _ _ st q st' h k
  unfold ni_gIc at h
  split at h
  · cases h
    refine lv_icmp_eq X.1 X.2.1 hdg ht (fun z => ?_) (fun z => ?_)
    · rw [if_pos (decide_eq_true z)] at k
      exact k
    · rw [if_neg (fun y => z (of_decide_eq_true y))] at k
      exact k
  · cases h
theorem ni_ic_ne {off : Int} {t : Nat} (hdg : decode cc pc = .ok (.if_icmp .ne off, 3)) (ht : (pc : Int) + off = (t : Int)) : ni_Row Y cc pc (ni_gIc (fun x y => decide (¬ x = y)) t (pc + 3)) := by
  intro w xs p l e R s m args below meth c H locs cells slots Q A nL hh d X _ _ _ st q st' h k
  unfold ni_gIc at h
  split at h
  · cases h
    refine lv_icmp_ne X.1 X.2.1 hdg ht (fun z => ?_) (fun z => ?_)
    · rw [if_pos (decide_eq_true z)] at k
      exact k
    · rw [if_neg (fun y => (of_decide_eq_true y) z)] at k
      exact k
  · cases h
theorem ni_ic_lt {off : Int} {t : Nat} (hdg : decode cc pc = .ok (.if_icmp .lt off, 3)) (ht : (pc : Int) + off = (t : Int)) : ni_Row Y cc pc (ni_gIc (fun x y => decide (x < y)) t (pc + 3)) := by
  intro w xs p l e R s m args below meth c H locs cells slots Q A nL hh d X _ _ _ st q st' h k
  unfold ni_gIc at h
  split at h
  · cases h
    refine lv_icmp_lt X.1 X.2.1 hdg ht (fun z => ?_) (fun z => ?_)
    · rw [if_pos (decide_eq_true z)] at k
      exact k
    · rw [if_neg (fun y => z (of_decide_eq_true y))] at k
      exact k
  · cases h
theorem ni_ic_ge {off : Int} {t : Nat} (hdg : decode cc pc = .ok (.if_icmp .ge off, 3)) (ht : (pc : Int) + off = (t : Int)) : ni_Row Y cc pc (ni_gIc (fun x y => decide (y ≤ x)) t (pc + 3)) := by
  intro w xs p l e R s m args below meth c H locs cells slots Q A nL hh d X _ _ _ st q st' h k
  unfold ni_gIc at h
  split at h
  · cases h
    refine lv_icmp_ge X.1 X.2.1 hdg ht (fun z => ?_) (fun z => ?_)
    · rw [if_pos (decide_eq_true z)] at k
      exact k
    · rw [if_neg (fun y => z (of_decide_eq_true y))] at k
      exact k
  · cases h
theorem ni_ic_gt {off : Int} {t : Nat} (hdg : decode cc pc = .ok (.if_icmp .gt off, 3)) (ht : (pc : Int) + off = (t : Int)) : ni_Row Y cc pc (ni_gIc (fun x y => decide (y < x)) t (pc + 3)) := by
  intro w xs p l e R s m args below meth c H locs cells slots Q A nL hh d X _ _ _ st q st' h k
  unfold ni_gIc at h
  split at h
  · cases h
    refine lv_icmp_gt X.1 X.2.1 hdg ht (fun z => ?_) (fun z => ?_)
    · rw [if_pos (decide_eq_true z)] at k
      exact k
    · rw [if_neg (fun y => z (of_decide_eq_true y))] at k
      exact k
  · cases h
theorem ni_ic_le {off : Int} {t : Nat} (hdg : decode cc pc = .ok (.if_icmp .le off, 3)) (ht : (pc : Int) + off = (t : Int)) : ni_Row Y cc pc (ni_gIc (fun x y => decide (x ≤ y)) t (pc + 3)) := by
  intro w xs p l e R s m args below meth c H locs cells slots Q A nL hh d X _ _ _ st q st' h k
  unfold ni_gIc at h
  split at h
  · cases h
    refine lv_icmp_le X.1 X.2.1 hdg ht (fun z => ?_) (fun z => ?_)
    · rw [if_pos (decide_eq_true z)] at k
      exact k
    · rw [if_neg (fun y => z (of_decide_eq_true y))] at k
      exact k
  · cases h
theorem ni_ifnull {off : Int} {t : Nat} (hdg : decode cc pc = .ok (.ifnull off, 3)) (ht : (pc : Int) + off = (t : Int)) : ni_Row Y cc pc (ni_gN t (pc + 3)) := by
  intro w xs p l e R s m args below meth c H locs cells slots Q A nL hh d X _ _ _ st q st' h k
  unfold ni_gN at h
  split at h
  · cases h
    exact lv_ifnullN X.1 X.2.1 hdg ht k
  · cases h
    exact lv_ifnull X.1 X.2.1 hdg k
  · cases h
theorem ni_ifnonnull {off : Int} {t : Nat} (hdg : decode cc pc = .ok (.ifnonnull off, 3)) (ht : (pc : Int) + off = (t : Int)) : ni_Row Y cc pc (ni_gN (pc + 3) t) := by
  intro w xs p l e R s m args below meth c H locs cells slots Q A nL hh d X _ _ _ st q st' h k
  unfold ni_gN at h
  split at h
  · cases h
    exact lv_ifnonnullN X.1 X.2.1 hdg k
  · cases h
    exact lv_ifnonnull X.1 X.2.1 hdg ht k
  · cases h
theorem ni_goto {off : Int} {t : Nat} (hdg : decode cc pc = .ok (.goto off, 3)) (ht : (pc : Int) + off = (t : Int)) : ni_Row Y cc pc (ni_gGo t) := by
  intro w xs p l e R s m args below meth c H locs cells slots Q A nL hh d X _ _ _ st q st' h k
  cases h
  exact lv_goto X.1 X.2.1 hdg ht k
theorem ni_dup (hdg : decode cc pc = .ok (.dup, 1)) : ni_Row Y cc pc (ni_gDup (pc + 1)) := by
  intro w xs p l e R s m args below meth c H locs cells slots Q A nL hh d X _ _ _ st q st' h k
  unfold ni_gDup at h
  split at h
  · split at h
    next hn =>
      cases h
      exact lv_dup X.1 X.2.1 hdg (by rw [ni_cat]; exact hn) k
    next => cases h
  · cases h
theorem ni_dup2 (hdg : decode cc pc = .ok (.dup2, 1)) : ni_Row Y cc pc (ni_gDup2 (pc + 1)) := by
  intro w xs p l e R s m args below meth c H locs cells slots Q A nL hh d X _ _ _ st q st' h k
  unfold ni_gDup2 at h
  split at h
  · split at h
    next hn =>
      cases h
      exact lv_dup2_11 X.1 X.2.1 hdg (by rw [ni_cat]; exact hn.1) (by rw [ni_cat]; exact hn.2) k
    next => cases h
  · cases h
theorem ni_dupx (hdg : decode cc pc = .ok (.dup_x1, 1)) : ni_Row Y cc pc (ni_gDupx (pc + 1)) := by
  intro w xs p l e R s m args below meth c H locs cells slots Q A nL hh d X _ _ _ st q st' h k
  unfold ni_gDupx at h
  split at h
  · split at h
    next hn =>
      cases h
      exact lv_dup_x1 X.1 X.2.1 hdg (by rw [ni_cat]; exact hn.1) (by rw [ni_cat]; exact hn.2) k
    next => cases h
  · cases h
theorem ni_pop (hdg : decode cc pc = .ok (.pop, 1)) : ni_Row Y cc pc (ni_gPop (pc + 1)) := by
  intro w xs p l e R s m args below meth c H locs cells slots Q A nL hh d X _ _ _ st q st' h k
  unfold ni_gPop at h
  split at h
  · split at h
    next hn =>
      cases h
      exact lv_pop X.1 X.2.1 hdg (by rw [ni_cat]; exact hn) k
    next => cases h
  · cases h
theorem ni_objInit {i : Nat} (hdg : decode cc pc = .ok (.invokespecial i, 3)) (w1 : Cond.methodLink Y.cls i objectInit ∈ ni_tb) (w2 : Cond.instanceMethod objectInit ∈ ni_tb) (w3 : Cond.code objectInit ⟨#[0xb1]⟩ 1 none ∈ ni_tb) : ni_Row Y cc pc (ni_gObj (pc + 3)) := by
  intro w xs p l e R s m args below meth c H locs cells slots Q A nL hh d X hA _ _ st q st' h k
  unfold ni_gObj at h
  split at h
  next a r =>
    split at h
    next hn =>
      cases h
      refine W.objInit (a := ni_ad w a) X.1 X.2.1 X.2.2.2.1 (X.2.2.2.2.1 _ w1) (X.2.2.2.2.1 _ w2) (X.2.2.2.2.1 _ w3) rfl (by rw [X.2.2.1]; exact hA) rfl hdg (by have := X.2.2.2.2.2.2.2.2.2.2.1; omega) ?_ k
      have h1 := X.2.2.2.2.2.2.2.2.2.2.2.1
      rw [ni_csM]
      show 2 * 0 + ni_cs st' + 12 ≤ R.locals
      omega
    next => cases h
  next => cases h
theorem ni_max {i : Nat} (hdg : decode cc pc = .ok (.invokestatic i, 3)) (w1 : Cond.methodLink Y.cls i Lib.Math.max.name ∈ ni_tb) (w2 : Cond.static Lib.Math.max.name ∈ ni_tb) (w3 : Cond.initialized "java/lang/Math" ∈ ni_tb) (w4 : Cond.code Lib.Math.max.name Lib.Math.max.code 2 (some .int) ∈ ni_tb) : ni_Row Y cc pc (ni_gIM (fun x y => if x < y then y else x) (pc + 3)) := by
  intro w xs p l e R s m args below meth c H locs cells slots Q A nL hh d X hA hc hs st q st' h k
  unfold ni_gIM at h
  split at h
  · split at h
    next hn =>
      cases h
      refine va_mmax X.1 X.2.1 (by rw [X.2.2.1]; exact hA.symm) X.2.2.2.1 (X.2.2.2.2.1 _ w1) (X.2.2.2.2.1 _ w2) (X.2.2.2.2.1 _ w3) (X.2.2.2.2.1 _ w4) (by have := X.2.2.2.2.2.2.2.2.2.2.1; omega) ?_ hc hs hdg k
      have h1 := X.2.2.2.2.2.2.2.2.2.2.2.1
      rw [ni_csM]
      omega
    next => cases h
  · cases h
theorem ni_min {i : Nat} (hdg : decode cc pc = .ok (.invokestatic i, 3)) (w1 : Cond.methodLink Y.cls i Lib.Math.min.name ∈ ni_tb) (w2 : Cond.static Lib.Math.min.name ∈ ni_tb) (w3 : Cond.initialized "java/lang/Math" ∈ ni_tb) (w4 : Cond.code Lib.Math.min.name Lib.Math.min.code 2 (some .int) ∈ ni_tb) : ni_Row Y cc pc (ni_gIM (fun x y => if y < x then y else x) (pc + 3)) := by
  intro w xs p l e R s m args below meth c H locs cells slots Q A nL hh d X hA hc hs st q st' h k
  unfold ni_gIM at h
  split at h
  · split at h
    next hn =>
      cases h
      refine va_mmin X.1 X.2.1 (by rw [X.2.2.1]; exact hA.symm) X.2.2.2.1 (X.2.2.2.2.1 _ w1) (X.2.2.2.2.1 _ w2) (X.2.2.2.2.1 _ w3) (X.2.2.2.2.1 _ w4) (by have := X.2.2.2.2.2.2.2.2.2.2.1; omega) ?_ hc hs hdg k
      have h1 := X.2.2.2.2.2.2.2.2.2.2.2.1
      rw [ni_csM]
      omega
    next => cases h
  · cases h
theorem ni_tsw {dflt lo hi : Int} {offs : Array Int} {len : Nat} (f : Int32 → Nat) (hdg : decode cc pc = .ok (.tableswitch dflt lo hi offs, len)) (hd : ∀ x : Int32, (x.toInt < lo ∨ hi < x.toInt) → (pc : Int) + dflt = (f x : Int)) (hi' : ∀ x : Int32, ¬ x.toInt < lo → ¬ hi < x.toInt → ∃ off, offs[(x.toInt - lo).toNat]? = some off ∧ (pc : Int) + off = (f x : Int)) : ni_Row Y cc pc (ni_gSw f) := by
  intro w xs p l e R s m args below meth c H locs cells slots Q A nL hh d X hA hc hs st q st' h k
  unfold ni_gSw at h
  split at h
  next x r =>
    cases h
    by_cases h1 : x.toInt < lo
    · exact lv_tableOut X.1 X.2.1 hdg (Or.inl h1) (hd x (Or.inl h1)) k
    · by_cases h2 : hi < x.toInt
      · exact lv_tableOut X.1 X.2.1 hdg (Or.inr h2) (hd x (Or.inr h2)) k
      · obtain ⟨off, h3, h4⟩ := hi' x h1 h2
        exact lv_tableIn X.1 X.2.1 hdg h1 h2 h3 h4 k
  next => cases h
theorem ni_lsw {dflt : Int} {ps : Array (Int × Int)} {len : Nat} (f : Int32 → Nat) (hdg : decode cc pc = .ok (.lookupswitch dflt ps, len)) (hp : (ps.toList.zip (ps.toList.drop 1)).all (fun (a, next) => a.1 < next.1) = true) (hf : ∀ x : Int32, (pc : Int) + Op.lookupswitch.offset ps.toList dflt x.toInt = (f x : Int)) : ni_Row Y cc pc (ni_gSw f) := by
  intro w xs p l e R s m args below meth c H locs cells slots Q A nL hh d X hA hc hs st q st' h k
  unfold ni_gSw at h
  split at h
  next x r =>
    cases h
    exact lv_lookup X.1 X.2.1 hdg hp rfl (hf x) k
  next => cases h
end R
end NR
