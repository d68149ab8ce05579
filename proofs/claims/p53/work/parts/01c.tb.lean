section NB
/-- the words that stay true: the tables' and more -/
def ni_tb : List Cond := lw_tbl.filter goodWord
theorem ni_in {w : Cond} (i : Nat) (h : lw_tbl[i]? = some w) (hg : goodWord w = true) : w ∈ ni_tb := List.mem_filter.mpr ⟨List.mem_of_getElem? h, hg⟩
def ni_ms (y : Nat) : MethodName × ByteArray × Nat × Option FieldType × List (Nat × Nat × Nat × Nat) := ni_msL.getD y (objectInit, ⟨#[]⟩, 0, none, [])
/-- a method's code, with its table where it has one -/
def ni_cw (y : Nat) : Cond := match (ni_ms y).2.2.2.2 with
  | [] => .code (ni_ms y).1 (ni_ms y).2.1 (ni_ms y).2.2.1 (ni_ms y).2.2.2.1
  | hh => .codeWith (ni_ms y).1 (ni_ms y).2.1 (ni_ms y).2.2.1 (ni_ms y).2.2.2.1 hh
theorem ni_cw0 {y : Nat} (h : (ni_ms y).2.2.2.2 = []) : ni_cw y = .code (ni_ms y).1 (ni_ms y).2.1 (ni_ms y).2.2.1 (ni_ms y).2.2.2.1 := by
  unfold ni_cw
  rw [h]
theorem ni_cw1 {y : Nat} (h : (ni_ms y).2.2.2.2 ≠ []) : ni_cw y = .codeWith (ni_ms y).1 (ni_ms y).2.1 (ni_ms y).2.2.1 (ni_ms y).2.2.2.1 (ni_ms y).2.2.2.2 := by
  unfold ni_cw
  split
  next hz => exact absurd hz h
  next => rfl
end NB
