/-! WHAT THIS CLAIM HAS OF ITS OWN: the types of its arrays, words that don't stand in ni_tb, what was there before the start -/
/-- the types of the arrays' places: the array of type k has 100 + k as its mark -/
def ni_aks : List FieldType := [.int, .object "Switchyard$Router", .object "Switchyard$Link", .object "Switchyard$Flow", .object "Switchyard$Letter", .array .int]
def ni_nn : List (String × Nat × MethodName × String) := [("Switchyard$Net", 41, ⟨"Switchyard$Flow", "<init>", "()V"⟩, "Switchyard"), ("Switchyard$Net", 42, ⟨"Switchyard$Link", "<init>", "()V"⟩, "Switchyard"), ("Switchyard$Router", 26, ⟨"Switchyard$Table", "<init>", "()V"⟩, "Switchyard")]
def ni_ao : List String := ["Switchyard$Router", "Switchyard$Link", "Switchyard$Flow", "Switchyard$Letter"]
def ni_ca : List (String × String) := []
def ni_dc : List MethodName := []
/-- the texts of exceptions -/
def ni_tx : List (String × Nat × String) := []
/-- arrays of arrays: the outer one's type, the inner one's -/
def ni_aa : List (Nat × Nat) := [(5, 0)]
def ni_at : List FieldType := [.int]
section NO
/-! arrays of arrays -/
def ni_AOA (t : FieldType) (U : State) : Prop := (Cond.arrayOver (.array t)).before #[] U = true
theorem ni_AOA.moved {t : FieldType} {u U : State} (hvm : u.vm.Alike U.vm) (h : ni_AOA t u) : ni_AOA t U := by
  obtain ⟨comp, c, k, h1, h2, h3, h4, h5⟩ := arrayOverA_spec h
  obtain ⟨k', hk', he⟩ := hvm.2.2 _ _ h3
  have hi : (U.vm.classes.findIdx? fun (x : Class) => match x.kind with | .array component _ => component == comp | _ => false) = some c := by
    have a1 := va_idx_bare U.vm comp
    have a2 := va_idx_bare u.vm comp
    have e : u.vm.bare = U.vm.bare := by first | exact hvm.bare_eq | exact hvm.bare_eq.symm
    rw [e] at a2
    exact (a1.symm.trans a2).trans h2
  have hkind : k'.kind = .array comp (.array t) := by rw [he]; exact h4
  have f1 : U.vm.findClass (FieldType.array t).toString = some comp := by rw [hvm.findClass]; exact h1
  have f2 : U.vm.findClass ("[" ++ (FieldType.array t).toString) = some c := by rw [hvm.findClass]; exact h5
  unfold ni_AOA Cond.before Cond.holds
  simp only [Cond.value]
  rw [f1, Option.bind_some]
  refine (congrArg (fun o : Option Nat => (o.bind (fun c => (U.vm.classes[c]?).map fun (k : Class) => match k.kind with | .array _ ty => decide (ty = FieldType.array t) && decide (U.vm.findClass ("[" ++ (FieldType.array t).toString) = some c) | _ => false) == some true)) hi).trans ?_
  simp [hk', hkind, f2]
/-- statics, texts: A is where the cells that were made lie -/
def ni_Ex (A : Nat → Prop) (_ : Nat → Nat) (U : State) (H : Heap) : Prop := vx_Zq Bundle.tN "UNASSIGNED_STACK" Bundle.steD A U H ∧ vx_Zq Bundle.tN "SUPPRESSED_SENTINEL" Bundle.listD A U H ∧
  (∀ t ∈ ni_tx, ∃ sa, vk_R t.1 t.2.1 t.2.2 sa U) ∧ True
theorem ni_ExW {A : Nat → Prop} {z : Nat → Nat} {s U : State} {H H1 : Heap} (hW : s.WarmedH U.vm) (hq : ∀ a : Nat, a < H.size → ¬ A a → H1[a]? = H[a]?) (h : ni_Ex A z s H) : ni_Ex A z U H1 := by
  obtain ⟨h1, h2, h3, -⟩ := h
  exact ⟨vx_Zq.moved hW.alike (h1.kept hq), vx_Zq.moved hW.alike (h2.kept hq), fun t ht => (h3 t ht).elim fun sa h => ⟨sa, vk_R.warm hW h⟩, trivial⟩
theorem ni_ExV {A : Nat → Prop} {z : Nat → Nat} {s U : State} {H : Heap} (hv : U.vm = s.vm) (h : ni_Ex A z s H) : ni_Ex A z U H := by
  obtain ⟨h1, h2, h3, -⟩ := h
  have hA : s.vm.Alike U.vm := by rw [hv]; exact Vm.Alike.refl _
  exact ⟨vx_Zq.moved hA h1, vx_Zq.moved hA h2, fun t ht => (h3 t ht).elim fun sa h => ⟨sa, vk_R.same hv h⟩, trivial⟩
end NO
