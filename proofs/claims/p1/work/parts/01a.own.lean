/-! WHAT THIS CLAIM HAS OF ITS OWN: the types of its arrays, words that don't stand in ni_tb, what was there before the start -/
/-- the types of the arrays' places: the array of type k has 100 + k as its mark -/
def ni_aks : List FieldType := [.int, .long, .double, .boolean, .object "Switchyard$Router", .object "Switchyard$Link", .object "Switchyard$Flow", .object "Switchyard$Letter", .object "SwitchyardModel$Port", .object "SwitchyardModel$Letter", .object "java/lang/Object", .array .int]
def ni_nn : List (String × Nat × MethodName × String) := [("Switchyard$Net", 41, ⟨"Switchyard$Flow", "<init>", "()V"⟩, "Switchyard"), ("Switchyard$Net", 42, ⟨"Switchyard$Link", "<init>", "()V"⟩, "Switchyard"), ("Switchyard$Router", 26, ⟨"Switchyard$Table", "<init>", "()V"⟩, "Switchyard")]
def ni_ao : List String := ["Switchyard$Router", "Switchyard$Link", "Switchyard$Flow", "Switchyard$Letter", "SwitchyardModel$Port", "SwitchyardModel$Letter", "java/lang/Object"]
def ni_ca : List (String × String) := [("java/lang/IndexOutOfBoundsException", "java/lang/IndexOutOfBoundsException"), ("java/lang/IllegalArgumentException", "java/lang/IllegalArgumentException"), ("java/util/ArrayList", "java/util/ArrayList"), ("java/util/ArrayList", "java/lang/Object")]
def ni_dc : List MethodName := [⟨"java/lang/RuntimeException", "<init>", "(Ljava/lang/String;)V"⟩, ⟨"java/lang/Exception", "<init>", "(Ljava/lang/String;)V"⟩, ⟨"java/lang/Throwable", "<init>", "(Ljava/lang/String;)V"⟩]
/-- the texts of exceptions -/
def ni_tx : List (String × Nat × String) := [("Switchyard", 330, "no such number"), ("Switchyard", 333, "a value out of its range")]
/-- arrays of arrays: the outer one's type, the inner one's -/
def ni_aa : List (Nat × Nat) := [(11, 0)]
section NO
/-- statics, texts: A is where the cells that were made lie, z the static's array -/
def ni_Ex (A : Nat → Prop) (z : Nat) (U : State) (H : Heap) : Prop := vx_Zq Bundle.tN "UNASSIGNED_STACK" Bundle.steD A U H ∧ vx_Zq Bundle.tN "SUPPRESSED_SENTINEL" Bundle.listD A U H ∧
  (∀ t ∈ ni_tx, ∃ sa, vk_R t.1 t.2.1 t.2.2 sa U) ∧
  va_Z "java/util/ArrayList" "DEFAULTCAPACITY_EMPTY_ELEMENTDATA" "[Ljava/lang/Object;" (.ref z) A U H ∧ va_T (.object "java/lang/Object") z 0 (fun _ => .null) A U H
theorem ni_ExW {A : Nat → Prop} {z : Nat} {s U : State} {H H1 : Heap} (hW : s.WarmedH U.vm) (hq : ∀ a : Nat, a < H.size → ¬ A a → H1[a]? = H[a]?) (h : ni_Ex A z s H) : ni_Ex A z U H1 := by
  obtain ⟨h1, h2, h3, h5, h6⟩ := h
  exact ⟨vx_Zq.moved hW.alike (h1.kept hq), vx_Zq.moved hW.alike (h2.kept hq), fun t ht => (h3 t ht).elim fun sa h => ⟨sa, vk_R.warm hW h⟩, va_Z.moved hW.alike (h5.kept hq), va_T.moved hW.alike (h6.kept hq)⟩
theorem ni_ExV {A : Nat → Prop} {z : Nat} {s U : State} {H : Heap} (hv : U.vm = s.vm) (h : ni_Ex A z s H) : ni_Ex A z U H := by
  obtain ⟨h1, h2, h3, h5, h6⟩ := h
  have hA : s.vm.Alike U.vm := by rw [hv]; exact Vm.Alike.refl _
  exact ⟨vx_Zq.moved hA h1, vx_Zq.moved hA h2, fun t ht => (h3 t ht).elim fun sa h => ⟨sa, vk_R.same hv h⟩, va_Z.moved hA h5, va_T.moved hA h6⟩
end NO
