/-! CLOSED WALKS: the program without the law, computed by the kernel; carried into any heap -/
section NCL
def ni_prL0 : List (List (Nat × ni_S)) := (ni_prL []).set 154 []
def ni_prog0 (y pc : Nat) : ni_S := ni_look (ni_prL0.getD y []) pc
set_option maxRecDepth 20000 in
theorem ni_prLs (xs : List Int32) : ni_prL xs = (ni_prL []).set 154 (ni_pr154 xs) := rfl
theorem ni_p0 (xs : List Int32) (y pc : Nat) : ni_prog0 y pc = ni_s0 ∨ ni_prog0 y pc = ni_prog xs y pc := by
  by_cases h : y = 154
  · subst h
    exact Or.inl rfl
  · refine Or.inr ?_
    unfold ni_prog0 ni_prog ni_prL0
    rw [ni_prLs xs, List.getD_eq_getElem?_getD, List.getD_eq_getElem?_getD, List.getElem?_set_ne (fun z => h z.symm), List.getElem?_set_ne (fun z => h z.symm)]
theorem ni_ex0 (xs : List Int32) : ∀ (n d y pc : Nat) (ls st : List Value) (M : ni_H) (o : ni_O), ni_ex ni_prog0 n d y pc ls st M = some o → ni_ex (ni_prog xs) n d y pc ls st M = some o := by
  intro n
  induction n with
  | zero => intro d y pc ls st M o h; cases h
  | succ n ih =>
    intro d y pc ls st M o h
    rw [ni_exS] at h ⊢
    rcases ni_p0 xs y pc with h0 | h0
    · rw [h0] at h
      cases h
    · rw [h0] at h
      refine ni_up y pc _ _ _ _ (fun y' as M' o1 h1 => ?_) (fun q ls' st' M' o1 h1 => ih d y q ls' st' M' o1 h1) ls st M o h
      unfold ni_cl at h1 ⊢
      split at h1
      · cases h1
      next d1 =>
        split at h1
        next he =>
          rw [if_pos he]
          exact ih d1 y' 0 _ [] M' o1 h1
        next => cases h1
theorem ni_cl0 (xs : List Int32) {n d y : Nat} {as : List Value} {M : ni_H} {o : ni_O} (h : ni_cl (ni_ex ni_prog0 n) d y as M = some o) : ni_cl (ni_ex (ni_prog xs) n) d y as M = some o := by
  unfold ni_cl at h ⊢
  split at h
  · cases h
  next d1 =>
    split at h
    next he =>
      rw [if_pos he]
      exact ni_ex0 xs n d1 y 0 _ [] M o h
    next => cases h
/-- a call over a small heap, carried -/
theorem ni_clK {xs : List Int32} {E : Nat → Nat} {z : Nat → Bool} {n0 n d y : Nat} {as : List Value} {M H : ni_H} {u : Option Value ⊕ String} {R : List ni_C} {g : Nat} (h : ni_cl (ni_ex (ni_prog xs) n) d y as M = some (u, (R, g))) (hE : ni_E0 E (fun a => z a = true) n0 H.1.length) (hM : ni_Em E (fun a => z a = true) n0 H.1.length M H) (hb : H.1.length + (R.length + g) ≤ ni_big) :
    ni_cl (ni_ex (ni_prog xs) n) d y (as.map (ni_sh E)) H = some (ni_so E u, ni_cry E z n0 R H g) := by
  obtain ⟨o', h1, h2⟩ := ni_clFr (o := (u, (R, g))) ni_mo ni_fr hE hb hM h
  rw [h1, ni_cryOk hE h2 (by have := h2.2.1.2.2.1; have := h2.2.1.2.2.2.1; dsimp only at *; omega)]
/-- one place of the small heap: the new object -/
def ni_E1 (a h0 k : Nat) : Nat := match k with
  | 0 => a
  | k + 1 => h0 + k
theorem ni_E10 {a h0 : Nat} (ha : a < h0) : ni_E0 (ni_E1 a h0) (fun k => (fun _ => false) k = true) 1 h0 := by
  refine ⟨fun x y hx hy _ _ _ => by omega, fun x hx => ?_, fun x hx => ?_, fun x hx => by cases hx⟩
  · have : x = 0 := by omega
    subst this
    exact ha
  · obtain ⟨k, rfl⟩ : ∃ k, x = k + 1 := ⟨x - 1, by omega⟩
    show h0 + k = h0 + (k + 1 - 1)
    omega
/-- a constructor: the object alone in the small heap -/
theorem ni_clO {xs : List Int32} {n d y a : Nat} {as : List Value} {H : ni_H} {c : ni_C} {u : Option Value ⊕ String} {R : List ni_C} (h : ni_cl (ni_ex (ni_prog xs) n) d y as ([c], 0) = some (u, (R, 0))) (ha : H.1[a]? = some c) (hc : ∀ E, ni_sc E c = c) (hg : H.2 = 0) (hb : H.1.length + R.length ≤ ni_big) (hb2 : 1 ≤ ni_big) :
    ni_cl (ni_ex (ni_prog xs) n) d y (as.map (ni_sh (ni_E1 a H.1.length))) H = some (ni_so (ni_E1 a H.1.length) u, ni_cry (ni_E1 a H.1.length) (fun _ => false) 1 R H 0) := by
  have hal := (List.getElem?_eq_some_iff.mp ha).1
  refine ni_clK h (ni_E10 hal) ⟨fun x c' hx _ => ?_, hg.symm, Nat.le_refl 1, rfl, hb2, fun x hx => by cases hx⟩ hb
  cases x with
  | zero =>
    cases hx
    show H.1[a]? = _
    rw [hc]
    exact ha
  | succ x => cases hx
end NCL
