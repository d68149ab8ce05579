/-! WHAT THIS CLAIM HAS OF ITS OWN: the types of its arrays, words that don't stand in ni_tb, what was there before the start -/
/-- the types of the arrays' places: the array of type k has 100 + k as its mark -/
def ni_aks : List FieldType := [.int, .long, .double, .boolean, .object "Switchyard$Router", .object "Switchyard$Link", .object "Switchyard$Flow", .object "Switchyard$Letter", .object "SwitchyardModel$Port", .object "SwitchyardModel$Letter", .object "java/lang/Object", .array .int]
def ni_nn : List (String × Nat × MethodName × String) := [("Switchyard$Net", 41, ⟨"Switchyard$Flow", "<init>", "()V"⟩, "Switchyard"), ("Switchyard$Net", 42, ⟨"Switchyard$Link", "<init>", "()V"⟩, "Switchyard"), ("Switchyard$Router", 26, ⟨"Switchyard$Table", "<init>", "()V"⟩, "Switchyard")]
def ni_ao : List String := ["Switchyard$Router", "Switchyard$Link", "Switchyard$Flow", "Switchyard$Letter", "SwitchyardModel$Port", "SwitchyardModel$Letter", "java/lang/Object"]
def ni_ca : List (String × String) := [("java/lang/IndexOutOfBoundsException", "java/lang/IndexOutOfBoundsException"), ("java/lang/IllegalArgumentException", "java/lang/IllegalArgumentException"), ("java/lang/IllegalStateException", "java/lang/IllegalStateException"), ("java/util/ArrayList", "java/util/ArrayList"), ("java/util/ArrayList", "java/lang/Object"), ("java/util/ArrayList", "java/util/Collection")]
def ni_dc : List MethodName := [⟨"java/lang/RuntimeException", "<init>", "(Ljava/lang/String;)V"⟩, ⟨"java/lang/Exception", "<init>", "(Ljava/lang/String;)V"⟩, ⟨"java/lang/Throwable", "<init>", "(Ljava/lang/String;)V"⟩]
/-- the texts of exceptions -/
def ni_tx : List (String × Nat × String) := [("Switchyard", 330, "no such number"), ("Switchyard", 333, "a value out of its range")]
/-- arrays of arrays: the outer one's type, the inner one's -/
def ni_aa : List (Nat × Nat) := [(11, 0)]
def ni_at : List FieldType := [.int]
section NO
/-! arrays of arrays -/
def ni_AOA (t : FieldType) (U : State) : Prop := (Cond.arrayOver (.array t)).before #[] U = true
theorem ni_AOA.moved {t : FieldType} {u U : State} (hvm : u.vm.Alike U.vm) (h : ni_AOA t u) : ni_AOA t U := by
  obtain ⟨comp, c, k, h1, h2, h3, h4, h5⟩ := arrayOverA_spec h
  obtain ⟨k', hk', he⟩ := hvm.2.2 _ _ h3
  have hi : (U.vm.classes.findIdx? fun (x : Class) => match x.kind with | .array component _ => component == comp | _ => false) = some c := by
    have a1 := va_idx_bare U.vm comp
    have a2 := va_idx_bare u.vm comp
    have e : u.vm.bare = U.vm.bare := by first | exact hvm.bare_eq | exact hvm.bare_eq.symm
    rw [e] at a2
    exact (a1.symm.trans a2).trans h2
  have hkind : k'.kind = .array comp (.array t) := by rw [he]; exact h4
  have f1 : U.vm.findClass (FieldType.array t).toString = some comp := by rw [hvm.findClass]; exact h1
  have f2 : U.vm.findClass ("[" ++ (FieldType.array t).toString) = some c := by rw [hvm.findClass]; exact h5
  unfold ni_AOA Cond.before Cond.holds
  simp only [Cond.value]
  rw [f1, Option.bind_some]
  refine (congrArg (fun o : Option Nat => (o.bind (fun c => (U.vm.classes[c]?).map fun (k : Class) => match k.kind with | .array _ ty => decide (ty = FieldType.array t) && decide (U.vm.findClass ("[" ++ (FieldType.array t).toString) = some c) | _ => false) == some true)) hi).trans ?_
  simp [hk', hkind, f2]
/-- the class Object[]: the cell z that was there is one, y its Class object; toArray by the interface's name -/
def ni_yT : MethodName := ⟨"java/util/Collection", "toArray", "()[Ljava/lang/Object;"⟩
def ni_yA : MethodName := ⟨"java/util/ArrayList", "toArray", "()[Ljava/lang/Object;"⟩
def ni_Mi (A : Nat → Prop) (z y : Nat) (U : State) (H : Heap) : Prop :=
  (∃ cell : Cell, H[z]? = some cell ∧ (∀ k, cell.vm ≠ .statics k) ∧ U.vm.findClass "[Ljava/lang/Object;" = some cell.cls ∧ ¬ A z) ∧
  (∃ (c : ClassId) (k : Class), U.vm.findClass "[Ljava/lang/Object;" = some c ∧ U.vm.classes[c]? = some k ∧ k.mirror = some y) ∧ va_Fw "java/util/ArrayList" ni_yT ni_yA U
theorem ni_Mi.moved {A : Nat → Prop} {z y : Nat} {u U : State} {H : Heap} (hA : u.vm.Alike U.vm) (h : ni_Mi A z y u H) : ni_Mi A z y U H := by
  obtain ⟨⟨cell, h1, h2, h3, h4⟩, ⟨c, k, g1, g2, g3⟩, h5⟩ := h
  obtain ⟨k', hk', he⟩ := hA.2.2 _ _ g2
  exact ⟨⟨cell, h1, h2, by rw [hA.findClass]; exact h3, h4⟩, ⟨c, k', by rw [hA.findClass]; exact g1, hk', by rw [he]; exact g3⟩, va_Fw.moved (by decide) hA h5⟩
theorem ni_Mi.kept {A : Nat → Prop} {z y : Nat} {U : State} {H H1 : Heap} (h : ni_Mi A z y U H) (hq : ∀ a : Nat, a < H.size → ¬ A a → H1[a]? = H[a]?) : ni_Mi A z y U H1 := by
  obtain ⟨⟨cell, h1, h2, h3, h4⟩, h5⟩ := h
  exact ⟨⟨cell, by rw [hq z (Array.getElem?_eq_some_iff.mp h1).1 h4]; exact h1, h2, h3, h4⟩, h5⟩
/-- statics, texts: A is where the cells that were made lie, z 1 the static's array, z 2 the Class object of Object[] -/
def ni_Ex (A : Nat → Prop) (z : Nat → Nat) (U : State) (H : Heap) : Prop := vx_Zq Bundle.tN "UNASSIGNED_STACK" Bundle.steD A U H ∧ vx_Zq Bundle.tN "SUPPRESSED_SENTINEL" Bundle.listD A U H ∧
  (∀ t ∈ ni_tx, ∃ sa, vk_R t.1 t.2.1 t.2.2 sa U) ∧
  va_Z "java/util/ArrayList" "DEFAULTCAPACITY_EMPTY_ELEMENTDATA" "[Ljava/lang/Object;" (.ref (z 1)) A U H ∧ va_T (.object "java/lang/Object") (z 1) 0 (fun _ => .null) A U H ∧ ni_Mi A (z 1) (z 2) U H
theorem ni_ExW {A : Nat → Prop} {z : Nat → Nat} {s U : State} {H H1 : Heap} (hW : s.WarmedH U.vm) (hq : ∀ a : Nat, a < H.size → ¬ A a → H1[a]? = H[a]?) (h : ni_Ex A z s H) : ni_Ex A z U H1 := by
  obtain ⟨h1, h2, h3, h5, h6, h7⟩ := h
  exact ⟨vx_Zq.moved hW.alike (h1.kept hq), vx_Zq.moved hW.alike (h2.kept hq), fun t ht => (h3 t ht).elim fun sa h => ⟨sa, vk_R.warm hW h⟩, va_Z.moved hW.alike (h5.kept hq), va_T.moved hW.alike (h6.kept hq), (h7.kept hq).moved hW.alike⟩
theorem ni_ExV {A : Nat → Prop} {z : Nat → Nat} {s U : State} {H : Heap} (hv : U.vm = s.vm) (h : ni_Ex A z s H) : ni_Ex A z U H := by
  obtain ⟨h1, h2, h3, h5, h6, h7⟩ := h
  have hA : s.vm.Alike U.vm := by rw [hv]; exact Vm.Alike.refl _
  exact ⟨vx_Zq.moved hA h1, vx_Zq.moved hA h2, fun t ht => (h3 t ht).elim fun sa h => ⟨sa, vk_R.same hv h⟩, va_Z.moved hA h5, va_T.moved hA h6, h7.moved hA⟩
end NO
