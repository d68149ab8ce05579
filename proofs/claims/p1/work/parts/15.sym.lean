/-! UNKNOWN ARGUMENTS: an oracle that every call asks first -/
section NSY
def ni_clO (O : ni_F) (ex : Nat → Nat → ni_K) (d y : Nat) (as : List Value) (M : ni_H) : Option ni_O := match O y as M with
  | some o => some o
  | none => ni_cl ex d y as M
def ni_exO (O : ni_F) (prog : Nat → Nat → ni_S) : Nat → Nat → Nat → Nat → List Value → List Value → ni_H → Option ni_O
  | 0, _, _, _, _, _, _ => none
  | n + 1, d, y, pc, ls, st, M => prog y pc (ni_clO O (ni_exO O prog n) d) (ni_exO O prog n d y) ls st M
theorem ni_exOOk {prog : Nat → Nat → ni_S} (hu : ∀ y pc, ni_Up (prog y pc)) {O : ni_F} {n0 : Nat} (hO : ∀ (y : Nat) (as : List Value) (M : ni_H) (o : ni_O), O y as M = some o → ni_cl (ni_ex prog n0) 1 y as M = some o) : ∀ (n d y pc : Nat) (ls st : List Value) (M : ni_H) (o : ni_O), ni_exO O prog n d y pc ls st M = some o → ni_ex prog (n0 + n) (d + 1) y pc ls st M = some o := by
  intro n
  induction n with
  | zero => intro d y pc ls st M o h; cases h
  | succ n ih =>
    intro d y pc ls st M o h
    rw [show n0 + (n + 1) = (n0 + n) + 1 by omega, ni_exS]
    refine hu y pc (ni_clO O (ni_exO O prog n) d) _ _ _ (fun y' as M' o1 h1 => ?_) (fun q ls' st' M' o1 h1 => ih d y q ls' st' M' o1 h1) ls st M o h
    unfold ni_clO at h1
    split at h1
    next o2 h2 =>
      cases h1
      exact ni_clUp hu (by omega) (by omega) (hO y' as M' o1 h2)
    next =>
      unfold ni_cl at h1 ⊢
      split at h1
      · cases h1
      next d1 =>
        split at h1
        next he =>
          rw [if_pos he]
          exact ih d1 y' 0 _ [] M' o1 h1
        next => cases h1
/-- an index among none, a number between none -/
def ni_o7 (y : Nat) (as : List Value) (H : ni_H) : Option ni_O := match y, as with
  | 7, [.int _, .int c] => if c ≤ 0 then some (.inr "java/lang/IndexOutOfBoundsException", (H.1, H.2 + 1)) else none
  | 130, [.int _, .int lo, .int hi] => if hi < lo then some (.inl (some (.int 0)), H) else none
  | _, _ => none
end NSY
section NSY2
variable {xs : List Int32} {d y pc q : Nat} {ls st : List Value} {M : ni_H} {o : ni_O}
theorem ni_xIf {f : Int32 → Bool} {t e : Nat} {x : Int32} (b : Bool) (hp : ni_prog xs y pc = ni_sP (ni_gIf f t e)) (hf : f x = b) (k : ni_G xs d y (cond b t e) ls st M o) : ni_G xs d y pc ls (.int x :: st) M o := by
  refine ni_xP hp (q := cond b t e) ?_ k
  show some (if f x = true then t else e, st) = _
  rw [hf]
  cases b <;> rfl
theorem ni_xIc {f : Int32 → Int32 → Bool} {t e : Nat} {x z : Int32} (b : Bool) (hp : ni_prog xs y pc = ni_sP (ni_gIc f t e)) (hf : f x z = b) (k : ni_G xs d y (cond b t e) ls st M o) : ni_G xs d y pc ls (.int z :: .int x :: st) M o := by
  refine ni_xP hp (q := cond b t e) ?_ k
  show some (if f x z = true then t else e, st) = _
  rw [hf]
  cases b <;> rfl
/-- the same with the fuel told -/
def ni_Gn (xs : List Int32) (n d y pc : Nat) (ls st : List Value) (M : ni_H) (o : ni_O) : Prop := ni_ex (ni_prog xs) n d y pc ls st M = some o
variable {n : Nat}
theorem ni_nP {g : List Value → Option (Nat × List Value)} {st' : List Value} (hp : ni_prog xs y pc = ni_sP g) (hg : g st = some (q, st')) (k : ni_Gn xs n d y q ls st' M o) : ni_Gn xs (n + 1) d y pc ls st M o := by
  unfold ni_Gn at k ⊢
  rw [ni_exS, hp]
  unfold ni_sP
  rw [hg]
  exact k
theorem ni_nLd {t i : Nat} {v : Value} (hp : ni_prog xs y pc = ni_sLd t i q) (hl : ls[i]? = some v) (ht : ni_ty v = t) (k : ni_Gn xs n d y q ls (v :: st) M o) : ni_Gn xs (n + 1) d y pc ls st M o := by
  unfold ni_Gn at k ⊢
  rw [ni_exS, hp]
  unfold ni_sLd
  rw [hl]
  dsimp only
  rw [if_pos ht]
  exact k
theorem ni_nIf {f : Int32 → Bool} {t e : Nat} {x : Int32} (b : Bool) (hp : ni_prog xs y pc = ni_sP (ni_gIf f t e)) (hf : f x = b) (k : ni_Gn xs n d y (cond b t e) ls st M o) : ni_Gn xs (n + 1) d y pc ls (.int x :: st) M o := by
  refine ni_nP hp (q := cond b t e) ?_ k
  show some (if f x = true then t else e, st) = _
  rw [hf]
  cases b <;> rfl
theorem ni_nIc {f : Int32 → Int32 → Bool} {t e : Nat} {x z : Int32} (b : Bool) (hp : ni_prog xs y pc = ni_sP (ni_gIc f t e)) (hf : f x z = b) (k : ni_Gn xs n d y (cond b t e) ls st M o) : ni_Gn xs (n + 1) d y pc ls (.int z :: .int x :: st) M o := by
  refine ni_nP hp (q := cond b t e) ?_ k
  show some (if f x z = true then t else e, st) = _
  rw [hf]
  cases b <;> rfl
theorem ni_nTh {E : String} (hp : ni_prog xs y pc = ni_sTh E) (hk : ni_cs st ≤ 8) : ni_Gn xs (n + 1) d y pc ls st M (.inr E, (M.1, M.2 + 1)) := by
  unfold ni_Gn
  rw [ni_exS, hp]
  unfold ni_sTh
  rw [if_pos hk]
theorem ni_nR {rt : Option FieldType} {v : Value} (hp : ni_prog xs y pc = ni_sR rt) (hk : ni_rok rt (some v) = true) : ni_Gn xs (n + 1) d y pc ls [v] M (.inl (some v), M) := by
  unfold ni_Gn
  rw [ni_exS, hp]
  unfold ni_sR
  dsimp only
  rw [if_pos hk]
theorem ni_nE {as : List Value} (hen : (ni_en as).length ≤ (ni_ms y).2.2.1) {ls : List Value} (hls : ni_ent y as = ls) (h : ni_Gn xs n d y 0 ls [] M o) : ni_cl (ni_ex (ni_prog xs) n) (d + 1) y as M = some o := by
  unfold ni_cl
  dsimp only
  rw [if_pos hen, hls]
  exact h
theorem ni_c7 (xs : List Int32) (i c : Int32) (M : ni_H) (hc : c ≤ 0) : ni_cl (ni_ex (ni_prog xs) 20) 1 7 [.int i, .int c] M = some (.inr "java/lang/IndexOutOfBoundsException", (M.1, M.2 + 1)) := by
  refine ni_nE (by show 2 ≤ (ni_ms 7).2.2.1; decide +kernel) rfl ?_
  refine ni_nLd rfl rfl rfl ?_
  by_cases h : i < 0
  · refine ni_nIf true rfl (decide_eq_true h) ?_
    exact ni_nTh rfl (by decide)
  · refine ni_nIf false rfl (decide_eq_false h) ?_
    refine ni_nLd rfl rfl rfl ?_
    refine ni_nLd rfl rfl rfl ?_
    refine ni_nIc false rfl (decide_eq_false fun z => h ?_) ?_
    · exact Int32.lt_of_lt_of_le z hc
    · exact ni_nTh rfl (by decide)
theorem ni_c130 (xs : List Int32) (i lo hi : Int32) (M : ni_H) (hc : hi < lo) : ni_cl (ni_ex (ni_prog xs) 20) 1 130 [.int i, .int lo, .int hi] M = some (.inl (some (.int 0)), M) := by
  refine ni_nE (by show 3 ≤ (ni_ms 130).2.2.1; decide +kernel) rfl ?_
  refine ni_nLd rfl rfl rfl ?_
  refine ni_nLd rfl rfl rfl ?_
  by_cases h : i < lo
  · refine ni_nIc true rfl (decide_eq_true h) ?_
    refine ni_nP (g := ni_gPush (.int 0) 15) rfl rfl ?_
    exact ni_nR rfl rfl
  · refine ni_nIc false rfl (decide_eq_false h) ?_
    refine ni_nLd rfl rfl rfl ?_
    refine ni_nLd rfl rfl rfl ?_
    refine ni_nIc true rfl (decide_eq_true ?_) ?_
    · exact Int32.lt_of_lt_of_le hc (Int32.not_lt.mp h)
    · refine ni_nP (g := ni_gPush (.int 0) 15) rfl rfl ?_
      exact ni_nR rfl rfl
theorem ni_o7Ok (xs : List Int32) (y : Nat) (as : List Value) (M : ni_H) (o : ni_O) (h : ni_o7 y as M = some o) : ni_cl (ni_ex (ni_prog xs) 20) 1 y as M = some o := by
  unfold ni_o7 at h
  split at h
  · split at h
    next hc => cases h; exact ni_c7 xs _ _ M hc
    next => cases h
  · split at h
    next hc => cases h; exact ni_c130 xs _ _ _ M hc
    next => cases h
  · cases h
end NSY2
