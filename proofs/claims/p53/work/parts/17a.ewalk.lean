/-! WALKS THAT ANSWER ALIKE: what a method makes of the places, found on the way -/
section NWE
/-- a value on the way: itself, a place, a row that grows -/
abbrev ni_a : Type := Value ⊕ (Nat ⊕ Nat)
abbrev ni_aI (x : Int) : ni_a := .inl (ni_z x)
abbrev ni_aP (s : Nat) : ni_a := .inr (.inl s)
abbrev ni_aR (s : Nat) : ni_a := .inr (.inr s)
abbrev ni_aL (b : Nat) : ni_a := .inl (.ref b)
def ni_dn (ad rw : Nat → Nat) (a : ni_a) : Value := match a with
  | .inl v => v
  | .inr (.inl s) => .ref (ad s)
  | .inr (.inr s) => .ref (rw s)
variable {xs : List Int32} {St : Nat → Option ni_C} {Z : (Nat → Nat) → Prop}
/-- the rest of a method: wherever the Net lies, it ends with the same answer and the same places -/
def ni_E (xs : List Int32) (St : Nat → Option ni_C) (Z : (Nat → Nat) → Prop) (d y pc : Nat) (ls st : List ni_a) (A : Nat → Nat → Int) (L : Nat → Nat) (P : Option ni_a → (Nat → Nat → Int) → Prop) : Prop :=
  ∃ v A', P v A' ∧ ∀ M0 ad rw0 cp0 M rw cp, Z ad → ni_Sx St M0 ad rw0 cp0 M rw cp A L → ni_Cl A L → wp_G xs d y pc (ls.map (ni_dn ad rw)) (st.map (ni_dn ad rw)) M (fun u M' => u = v.map (ni_dn ad ad) ∧ ∃ rw' cp', ni_Rep St M' ad rw' cp' A' (ni_live A') ∧ ni_Kp M0 ad rw0 cp0 M' rw' cp')
/-- a method, by its contract -/
def ni_M (xs : List Int32) (St : Nat → Option ni_C) (d y : Nat) (as : List ni_a) (A : Nat → Nat → Int) (P : Option ni_a → (Nat → Nat → Int) → Prop) : Prop :=
  ∃ v A', P v A' ∧ ni_Dc xs St d y (fun ad => as.map (ni_dn ad ad)) A (fun ad => v.map (ni_dn ad ad)) A'
section X
variable {d y pc q : Nat} {ls st ls' : List ni_a} {A : Nat → Nat → Int} {L : Nat → Nat} {P : Option ni_a → (Nat → Nat → Int) → Prop}
theorem ni_Emono {P' : Option ni_a → (Nat → Nat → Int) → Prop} (h : ni_E xs St Z d y pc ls st A L P) (hp : ∀ v A', P v A' → P' v A') : ni_E xs St Z d y pc ls st A L P' := by
  obtain ⟨v, A', h1, h2⟩ := h
  exact ⟨v, A', hp v A' h1, h2⟩
theorem ni_Mmono {P' : Option ni_a → (Nat → Nat → Int) → Prop} {as : List ni_a} (h : ni_M xs St d y as A P) (hp : ∀ v A', P v A' → P' v A') : ni_M xs St d y as A P' := by
  obtain ⟨v, A', h1, h2⟩ := h
  exact ⟨v, A', hp v A' h1, h2⟩
theorem ni_Mup {d' : Nat} {as : List ni_a} (h : ni_M xs St d y as A P) (hd : d ≤ d') : ni_M xs St d' y as A P := by
  obtain ⟨v, A', h1, h2⟩ := h
  exact ⟨v, A', h1, ni_Dup h2 hd⟩
theorem ni_Min {as : List ni_a} (hen : ∀ ad, (ni_en (as.map (ni_dn ad ad))).length ≤ (ni_ms y).2.2.1) (hls : ∀ ad rw, ni_ent y (as.map (ni_dn ad ad)) = ls.map (ni_dn ad rw)) (h : ni_E xs St (fun _ => True) d y 0 ls [] A (ni_live A) P) : ni_M xs St (d + 1) y as A P := by
  obtain ⟨v, A', h1, h2⟩ := h
  refine ⟨v, A', h1, fun M ad rw cp hR => wp_enter (hen ad) (hls ad rw) (h2 M ad rw cp M rw cp trivial ⟨hR, ni_KpR⟩ (ni_clR A))⟩
/-- a loop's head: what is told shrinks to what speaks -/
theorem ni_Ehead (hl : ni_Cl A L) (h : ni_E xs St Z d y pc ls st A (ni_live A) P) : ni_E xs St Z d y pc ls st A L P := by
  obtain ⟨v, A', h1, h2⟩ := h
  exact ⟨v, A', h1, fun M0 ad rw0 cp0 M rw cp z hx c => h2 M0 ad rw0 cp0 M rw cp z ⟨ni_RepC hx.1 c, hx.2⟩ (ni_clR A)⟩
/-- the same, where the rows need no look -/
theorem ni_Eh (h : ni_E xs St Z d y pc ls st A (ni_live A) P) : ni_E xs St Z d y pc ls st A L P := by
  obtain ⟨v, A', h1, h2⟩ := h
  exact ⟨v, A', h1, fun M0 ad rw0 cp0 M rw cp z hx c => h2 M0 ad rw0 cp0 M rw cp z ⟨ni_RepC hx.1 c, hx.2⟩ (ni_clR A)⟩
theorem E_pre {ls0 st0 : List ni_a} {pc0 : Nat} {A0 : Nat → Nat → Int} {L0 : Nat → Nat} (hw : ∀ M0 ad rw0 cp0 M rw cp Q, Z ad → ni_Sx St M0 ad rw0 cp0 M rw cp A0 L0 → ni_Cl A0 L0 → (∀ M' rw' cp', ni_Sx St M0 ad rw0 cp0 M' rw' cp' A L → ni_Cl A L → wp_G xs d y pc (ls.map (ni_dn ad rw')) (st.map (ni_dn ad rw')) M' Q) → wp_G xs d y pc0 (ls0.map (ni_dn ad rw)) (st0.map (ni_dn ad rw)) M Q) (k : ni_E xs St Z d y pc ls st A L P) : ni_E xs St Z d y pc0 ls0 st0 A0 L0 P := by
  obtain ⟨v, A', h1, h2⟩ := k
  exact ⟨v, A', h1, fun M0 ad rw0 cp0 M rw cp z hx c => hw M0 ad rw0 cp0 M rw cp _ z hx c fun M' rw' cp' hx' c' => h2 M0 ad rw0 cp0 M' rw' cp' z hx' c'⟩
theorem E_P {g : List Value → Option (Nat × List Value)} {st' : List ni_a} (hp : ni_prog xs y pc = ni_sP g) (hg : ∀ ad rw, g (st.map (ni_dn ad rw)) = some (q, st'.map (ni_dn ad rw))) (k : ni_E xs St Z d y q ls st' A L P) : ni_E xs St Z d y pc ls st A L P :=
  E_pre (fun _ ad _ _ M rw cp _ _ h c k => wp_P hp (hg ad rw) (k M rw cp h c)) k
theorem E_push {c : Int32} {z : Int} (hp : ni_prog xs y pc = ni_sP (ni_gPush (.int c) q)) (hc : c = Int32.ofInt z) (k : ni_E xs St Z d y q ls (ni_aI z :: st) A L P) : ni_E xs St Z d y pc ls st A L P :=
  E_P hp (fun _ _ => wp_push hc) k
theorem E_add {a b : Int} (hp : ni_prog xs y pc = ni_sP (ni_gI (fun x y => x + y) q)) (k : ni_E xs St Z d y q ls (ni_aI (a + b) :: st) A L P) : ni_E xs St Z d y pc ls (ni_aI b :: ni_aI a :: st) A L P :=
  E_P hp (fun _ _ => wp_add) k
theorem E_sub {a b : Int} (hp : ni_prog xs y pc = ni_sP (ni_gI (fun x y => x - y) q)) (k : ni_E xs St Z d y q ls (ni_aI (a - b) :: st) A L P) : ni_E xs St Z d y pc ls (ni_aI b :: ni_aI a :: st) A L P :=
  E_P hp (fun _ _ => wp_sub) k
theorem E_mul {a b : Int} (hp : ni_prog xs y pc = ni_sP (ni_gI (fun x y => x * y) q)) (k : ni_E xs St Z d y q ls (ni_aI (a * b) :: st) A L P) : ni_E xs St Z d y pc ls (ni_aI b :: ni_aI a :: st) A L P :=
  E_P hp (fun _ _ => wp_mul) k
theorem E_I {f : Int32 → Int32 → Int32} {a b c : Int} (hp : ni_prog xs y pc = ni_sP (ni_gI f q)) (h : f (Int32.ofInt a) (Int32.ofInt b) = Int32.ofInt c) (k : ni_E xs St Z d y q ls (ni_aI c :: st) A L P) : ni_E xs St Z d y pc ls (ni_aI b :: ni_aI a :: st) A L P :=
  E_P hp (fun _ _ => wp_I h) k
theorem E_I0 {f : Int32 → Int32 → Int32} {a b c : Int} (hp : ni_prog xs y pc = ni_sP (ni_gI0 f q)) (h : ¬ Int32.ofInt b = 0 ∧ f (Int32.ofInt a) (Int32.ofInt b) = Int32.ofInt c) (k : ni_E xs St Z d y q ls (ni_aI c :: st) A L P) : ni_E xs St Z d y pc ls (ni_aI b :: ni_aI a :: st) A L P :=
  E_P hp (fun _ _ => wp_I0 h) k
theorem ni_csZ (ad rw : Nat → Nat) : ∀ st : List ni_a, st.length ≤ 4 → ni_cs (st.map (ni_dn ad rw)) ≤ 8 := by
  intro st h
  have : ∀ l : List Value, ni_cs l ≤ 2 * l.length := by
    intro l
    induction l with
    | nil => exact Nat.le_refl _
    | cons v l ih =>
      have hv : v.category ≤ 2 := by cases v <;> exact Nat.le_of_ble_eq_true rfl
      have e : ni_cs (v :: l) = v.category + ni_cs l := by
        unfold ni_cs
        rfl
      rw [e, List.length_cons]
      omega
  have h2 := this (st.map (ni_dn ad rw))
  rw [List.length_map] at h2
  omega
theorem E_IM {f : Int32 → Int32 → Int32} {a b c : Int} (hp : ni_prog xs y pc = ni_sP (ni_gIM f q)) (hs : st.length ≤ 4) (h : f (Int32.ofInt a) (Int32.ofInt b) = Int32.ofInt c) (k : ni_E xs St Z d y q ls (ni_aI c :: st) A L P) : ni_E xs St Z d y pc ls (ni_aI b :: ni_aI a :: st) A L P :=
  E_P hp (fun ad rw => wp_IM ⟨ni_csZ ad rw st hs, h⟩) k
theorem E_Go (hp : ni_prog xs y pc = ni_sP (ni_gGo q)) (k : ni_E xs St Z d y q ls st A L P) : ni_E xs St Z d y pc ls st A L P :=
  E_P hp (fun _ _ => rfl) k
theorem E_Dup {v : ni_a} (hp : ni_prog xs y pc = ni_sP (ni_gDup q)) (hv : ∀ ad rw, (ni_dn ad rw v).category = 1) (k : ni_E xs St Z d y q ls (v :: v :: st) A L P) : ni_E xs St Z d y pc ls (v :: st) A L P :=
  E_P hp (fun ad rw => by show (if (ni_dn ad rw v).category = 1 then _ else _) = _; rw [if_pos (hv ad rw)]; rfl) k
theorem E_Dup2 {v u : ni_a} (hp : ni_prog xs y pc = ni_sP (ni_gDup2 q)) (hv : ∀ ad rw, (ni_dn ad rw v).category = 1 ∧ (ni_dn ad rw u).category = 1) (k : ni_E xs St Z d y q ls (v :: u :: v :: u :: st) A L P) : ni_E xs St Z d y pc ls (v :: u :: st) A L P :=
  E_P hp (fun ad rw => by show (if (ni_dn ad rw v).category = 1 ∧ (ni_dn ad rw u).category = 1 then _ else _) = _; rw [if_pos (hv ad rw)]; rfl) k
theorem E_Pop {v : ni_a} (hp : ni_prog xs y pc = ni_sP (ni_gPop q)) (hg : ∀ ad rw, ni_gPop q ((v :: st).map (ni_dn ad rw)) = some (q, st.map (ni_dn ad rw))) (k : ni_E xs St Z d y q ls st A L P) : ni_E xs St Z d y pc ls (v :: st) A L P :=
  E_P hp hg k
theorem E_If {f : Int32 → Bool} {t e : Nat} {x : Int} (b : Bool) (hp : ni_prog xs y pc = ni_sP (ni_gIf f t e)) (hf : f (Int32.ofInt x) = b) (k : ni_E xs St Z d y (cond b t e) ls st A L P) : ni_E xs St Z d y pc ls (ni_aI x :: st) A L P :=
  E_pre (fun _ _ _ _ M rw cp _ _ h c k => wp_If b hp hf (k M rw cp h c)) k
theorem E_Ic {f : Int32 → Int32 → Bool} {t e : Nat} {x z : Int} (b : Bool) (hp : ni_prog xs y pc = ni_sP (ni_gIc f t e)) (hf : f (Int32.ofInt x) (Int32.ofInt z) = b) (k : ni_E xs St Z d y (cond b t e) ls st A L P) : ni_E xs St Z d y pc ls (ni_aI z :: ni_aI x :: st) A L P :=
  E_pre (fun _ _ _ _ M rw cp _ _ h c k => wp_Ic b hp hf (k M rw cp h c)) k
theorem E_Sw {f : Int32 → Nat} {x : Int} (hp : ni_prog xs y pc = ni_sP (ni_gSw f)) (hf : f (Int32.ofInt x) = q) (k : ni_E xs St Z d y q ls st A L P) : ni_E xs St Z d y pc ls (ni_aI x :: st) A L P :=
  E_pre (fun _ _ _ _ M rw cp _ _ h c k => wp_Sw hp hf (k M rw cp h c)) k
theorem E_Ld {t i : Nat} {v : ni_a} (hp : ni_prog xs y pc = ni_sLd t i q) (hl : ls[i]? = some v) (ht : ∀ ad rw, ni_ty (ni_dn ad rw v) = t) (k : ni_E xs St Z d y q ls (v :: st) A L P) : ni_E xs St Z d y pc ls st A L P :=
  E_pre (fun _ ad _ _ M rw cp _ _ h c k => wp_Ld hp (by rw [List.getElem?_map, hl]; rfl) (ht ad rw) (k M rw cp h c)) k
theorem E_St {t i : Nat} {v : ni_a} (hp : ni_prog xs y pc = ni_sSt t i q) (ht : ∀ ad rw, ni_ty (ni_dn ad rw v) = t) (hs : ∀ ad rw, ni_st (ls.map (ni_dn ad rw)) i (ni_dn ad rw v) = ls'.map (ni_dn ad rw)) (k : ni_E xs St Z d y q ls' st A L P) : ni_E xs St Z d y pc ls (v :: st) A L P :=
  E_pre (fun _ ad _ _ M rw cp _ _ h c k => wp_St hp (ht ad rw) (hs ad rw) (k M rw cp h c)) k
theorem E_Inc {i : Nat} {c : Int32} {e z : Int} (hp : ni_prog xs y pc = ni_sInc i c q) (hl : ls[i]? = some (ni_aI e)) (hx : c = Int32.ofInt z) (hs : ∀ ad rw, ni_st (ls.map (ni_dn ad rw)) i (ni_z (e + z)) = ls'.map (ni_dn ad rw)) (k : ni_E xs St Z d y q ls' st A L P) : ni_E xs St Z d y pc ls st A L P :=
  E_pre (fun _ ad _ _ M rw cp _ _ h c k => wp_Inc (x' := e + z) hp (by rw [List.getElem?_map, hl]; rfl) (zi_inc hx) (hs ad rw) (k M rw cp h c)) k
theorem E_GetI {ci j s : Nat} {e : Int} (hp : ni_prog xs y pc = ni_sGet ci j q) (hs : ni_us s = true) (hk : ni_kd s = ci) (ho : ni_ob ci = true) (hj : Nat.blt j (ni_lk ci) = true) (hv : ∀ ad rw, ni_vk ci ad rw A s j = ni_z e) (k : ni_E xs St Z d y q ls (ni_aI e :: st) A L P) : ni_E xs St Z d y pc ls (ni_aP s :: st) A L P :=
  E_pre (fun _ ad _ _ M rw cp _ _ h c k => ws_Get hp h hs hk ho hj (hv ad rw) (k M rw cp h c)) k
theorem E_Get {ci j s : Nat} {v : ni_a} (hp : ni_prog xs y pc = ni_sGet ci j q) (hs : ni_us s = true) (hk : ni_kd s = ci) (ho : ni_ob ci = true) (hj : Nat.blt j (ni_lk ci) = true) (hv : ∀ ad rw, ni_vk ci ad rw A s j = ni_dn ad rw v) (k : ni_E xs St Z d y q ls (v :: st) A L P) : ni_E xs St Z d y pc ls (ni_aP s :: st) A L P :=
  E_pre (fun _ ad _ _ M rw cp _ _ h c k => ws_Get hp h hs hk ho hj (hv ad rw) (k M rw cp h c)) k
theorem E_Put {ci j s : Nat} {ty : FieldType} {x : Int} (hp : ni_prog xs y pc = ni_sPut ci j ty q) (hs : ni_us s = true) (hk : ni_kd s = ci) (ho : ni_ob ci = true) (hj : Nat.blt j (ni_lk ci) = true) (hv : ∀ (ad rw : Nat → Nat) (A : Nat → Nat → Int), ni_vk ci ad rw A s j = ni_z (A s j)) (hf : ni_fit ty (ni_z x) = true) (hc : ni_cf ci j = false) (k : ni_E xs St Z d y q ls st (ni_u2 A s j x) L P) : ni_E xs St Z d y pc ls (ni_aI x :: ni_aP s :: st) A L P :=
  E_pre (fun _ ad _ _ M rw cp _ _ h c k => ws_Put hp h hs hk ho hj (hv ad rw) hf (fun z1 z2 => absurd hc (by rw [z1, z2]; decide)) fun M' h' => k M' rw cp h' (ni_clU c hs hk hc)) k
/-- a count that falls (or stays) below what is told -/
theorem E_PutC {ci j s : Nat} {x : Int} (hp : ni_prog xs y pc = ni_sPut ci j .int q) (hs : ni_us s = true) (hk : ni_kd s = ci) (ho : ni_ob ci = true) (hj : Nat.blt j (ni_lk ci) = true) (hv : ∀ (ad rw : Nat → Nat) (A : Nat → Nat → Int), ni_vk ci ad rw A s j = ni_z (A s j)) (h0 : ¬ (s = 0 ∧ j = 1)) (h2 : ci ≠ 2) (hx : ∀ A' : Nat → Nat → Int, ni_Cl A L → ∀ s', ni_us s' = true → ni_ct s' = (s, j) → x.toNat ≤ L s') (k : ni_E xs St Z d y q ls st (ni_u2 A s j x) L P) : ni_E xs St Z d y pc ls (ni_aI x :: ni_aP s :: st) A L P :=
  E_pre (fun _ ad _ _ M rw cp _ _ h c k => ws_Put hp h hs hk ho hj (hv ad rw) rfl (fun z1 _ => absurd z1 h2) fun M' h' => k M' rw cp h' (ni_clC c hs h0 (hx A c))) k
theorem E_Len {s n t : Nat} (hp : ni_prog xs y pc = ni_sLen q) (hs : ni_us s = true) (hk : ni_kd s = t) (hl : ni_ln s = n) (hn : 0 < n) (ht : 100 ≤ t ∧ t - 100 < ni_aks.length) (k : ni_E xs St Z d y q ls (ni_aI n :: st) A L P) : ni_E xs St Z d y pc ls (ni_aP s :: st) A L P :=
  E_pre (fun _ ad _ _ M rw cp _ _ h c k => ws_Len hp h hs hk hl hn ht (k M rw cp h c)) k
/-- a row that is told whole -/
theorem E_Ald {s n j : Nat} {i e : Int} (hp : ni_prog xs y pc = ni_sAld .int 0 q) (hs : ni_us s = true) (hk : ni_kd s = 100) (hl : ni_ln s = n) (hi : i = j) (hj : j < n) (hn : n ≤ 1000) (hL : ni_Cl A L → j < L s) (hv : ∀ ad rw, ni_vk 100 ad rw A s j = ni_z e) (k : ni_E xs St Z d y q ls (ni_aI e :: st) A L P) : ni_E xs St Z d y pc ls (ni_aI i :: ni_aP s :: st) A L P :=
  E_pre (fun _ ad _ _ M rw cp _ _ h c k => ws_Ald hp h hs hk hl ⟨by decide, rfl⟩ hi hj hn (hL c) (hv ad rw) rfl (k M rw cp h c)) k
theorem ni_L9 {s j : Nat} (hs : ni_us s = true) (h9 : (ni_ct s).1 = 999) (hj : j < 1000) (c : ni_Cl A L) : j < L s := by
  have := c s hs
  rw [ni_live9 h9] at this
  omega
theorem ni_L8 {s u k j : Nat} (hs : ni_us s = true) (h : ni_ct s = (u, k)) (hu : u < 998) (hj : (j : Int) < A u k) (c : ni_Cl A L) : j < L s := by
  have := c s hs
  have := ni_LQ (A := A) h hu hj
  omega
theorem ni_L7 {s k j : Nat} (hs : ni_us s = true) (h : ni_ct s = (998, k)) (hk : (k : Int) < A 0 1) (hj : j < 8) (c : ni_Cl A L) : j < L s := by
  have := c s hs
  have e : ni_live A s = 8 := by
    unfold ni_live
    rw [h]
    simp only [show Nat.beq 998 999 = false from rfl, show Nat.beq 998 998 = true from rfl, cond_true, cond_false]
    rw [if_pos hk]
  omega
theorem E_Ast {s n j : Nat} {i x : Int} (hp : ni_prog xs y pc = ni_sAst .int 0 q) (hs : ni_us s = true) (hk : ni_kd s = 100) (hl : ni_ln s = n) (hi : i = j) (hj : j < n) (hn : n ≤ 1000) (k : ni_E xs St Z d y q ls st (ni_u2 A s j x) L P) : ni_E xs St Z d y pc ls (ni_aI x :: ni_aI i :: ni_aP s :: st) A L P :=
  E_pre (fun _ ad _ _ M rw cp _ _ h c k => ws_Ast (x := x) hp h hs hk hl ⟨by decide, rfl⟩ hi hj hn (Or.inl rfl) (show ni_z x = ni_z (ni_u2 A s j x s j) from congrArg ni_z ni_u2e.symm) ⟨rfl, rfl⟩ fun M' h' => k M' rw cp h' (ni_clU c hs hk rfl)) k
/-- a store that tells one more -/
theorem E_AstN {s n j : Nat} {i x : Int} {L' : Nat → Nat} (hp : ni_prog xs y pc = ni_sAst .int 0 q) (hs : ni_us s = true) (hk : ni_kd s = 100) (hl : ni_ln s = n) (hi : i = j) (hj : j < n) (hn : n ≤ 1000) (hL : L' = ni_u1 L s (j + 1) ∧ j = L s) (k : ni_E xs St Z d y q ls st (ni_u2 A s j x) L' P) : ni_E xs St Z d y pc ls (ni_aI x :: ni_aI i :: ni_aP s :: st) A L P :=
  E_pre (fun _ ad _ _ M rw cp _ _ h c k => ws_Ast (x := x) hp h hs hk hl ⟨by decide, rfl⟩ hi hj hn (Or.inr hL) (show ni_z x = ni_z (ni_u2 A s j x s j) from congrArg ni_z ni_u2e.symm) ⟨rfl, rfl⟩ fun M' h' => k M' rw cp h' (by rw [hL.1]; exact ni_cl1 (ni_clU c hs hk rfl) (Nat.le_succ_of_le (Nat.le_of_eq hL.2.symm)))) k
theorem E_Qld {s n t j : Nat} {i : Int} {C : String} {v : ni_a} (hp : ni_prog xs y pc = ni_sQld q) (hs : ni_us s = true) (hk : ni_kd s = t) (hl : ni_ln s = n) (ht : 100 ≤ t ∧ ni_aks[t - 100]? = some (.object C)) (hi : i = j) (hj : j < n) (hn : n ≤ 1000) (hL : ni_Cl A L → j < L s) (hv : ∀ ad rw, ni_vk t ad rw A s j = ni_dn ad rw v) (hy : ∀ ad rw, ni_ty (ni_dn ad rw v) = 3) (k : ni_E xs St Z d y q ls (v :: st) A L P) : ni_E xs St Z d y pc ls (ni_aI i :: ni_aP s :: st) A L P :=
  E_pre (fun _ ad _ _ M rw cp _ _ h c k => ws_Qld hp h hs hk hl ht hi hj hn (hL c) (hv ad rw) (hy ad rw) (k M rw cp h c)) k
theorem E_R {rt : Option FieldType} {w : ni_a} (hp : ni_prog xs y pc = ni_sR rt) (hk : ∀ ad rw, ni_rok rt (some (ni_dn ad rw w)) = true) (hw : ∀ ad rw, ni_dn ad rw w = ni_dn ad ad w) (h : P (some w) A) : ni_E xs St Z d y pc ls [w] A L P :=
  ⟨some w, A, h, fun _ ad _ _ M rw cp _ hx c => ws_R (v := fun ad => some (ni_dn ad ad w)) hp (hk ad rw) hx c (congrArg some (hw ad rw))⟩
theorem E_Rv {rt : Option FieldType} (hp : ni_prog xs y pc = ni_sR rt) (hk : ni_rok rt none = true) (h : P none A) : ni_E xs St Z d y pc ls [] A L P :=
  ⟨none, A, h, fun _ ad _ _ M rw cp _ hx c => ws_Rv (v := fun _ => none) hp hk hx c rfl⟩
/-- a letter's field -/
theorem E_GetS {ci j b : Nat} {vs : List Value} {v : ni_a} (hp : ni_prog xs y pc = ni_sGet ci j q) (hb : St b = some (ci, vs)) (hv : ∀ ad rw, vs[j]? = some (ni_dn ad rw v)) (k : ni_E xs St Z d y q ls (v :: st) A L P) : ni_E xs St Z d y pc ls (ni_aL b :: st) A L P :=
  E_pre (fun _ ad _ _ M rw cp _ _ h c k => wp_Get hp (h.1.2.2.2.2.1 b _ hb).1 (hv ad rw) (k M rw cp h c)) k
theorem E_LenS {b : Nat} {vs : List Value} {x : Int} (hp : ni_prog xs y pc = ni_sLen q) (hb : St b = some (100, vs)) (hx : (vs.length : Int) = x) (k : ni_E xs St Z d y q ls (ni_aI x :: st) A L P) : ni_E xs St Z d y pc ls (ni_aL b :: st) A L P :=
  E_pre (fun _ ad _ _ M rw cp _ _ h c k => wp_Len hp (h.1.2.2.2.2.1 b _ hb).1 (by decide) (by rw [← hx]; rfl) (k M rw cp h c)) k
theorem E_AldS {b j : Nat} {i e : Int} {vs : List Value} (hp : ni_prog xs y pc = ni_sAld .int 0 q) (hb : St b = some (100, vs)) (hi : i = j) (hn : j < 1000000) (hv : vs[j]? = some (ni_z e)) (k : ni_E xs St Z d y q ls (ni_aI e :: st) A L P) : ni_E xs St Z d y pc ls (ni_aI i :: ni_aL b :: st) A L P := by
  subst hi
  have hz := ni_clZ (x := (j : Int)) (by omega)
  exact E_pre (fun _ ad _ _ M rw cp _ _ h c k => wp_Ald hp (h.1.2.2.2.2.1 b _ hb).1 ⟨by decide, rfl, hz.1⟩ (by rw [hz.2, Int.toNat_natCast]; exact hv) rfl (k M rw cp h c)) k
/-- calls -/
theorem E_V {y' nn ci s : Nat} {r as : List ni_a} {v : (Nat → Nat) → Option Value} {w : Option ni_a} {asf : (Nat → Nat) → List Value} {A2 : Nat → Nat → Int} (hp : ni_prog xs y pc = ni_sV y' nn ci q) (hd : st.drop nn = ni_aP s :: r) (ht : (st.take nn).reverse = as) (hs : ni_us s = true) (hk : ni_kd s = ci) (ho : ni_ob ci = true) (hc : r.length ≤ 4) (hl : ∀ ad rw rw' : Nat → Nat, (ls ++ r).map (ni_dn ad rw) = (ls ++ r).map (ni_dn ad rw')) (hD : ni_Dc xs St d y' asf A v A2) (has : ∀ ad rw, asf ad = .ref (ad s) :: as.map (ni_dn ad rw)) (hw : ∀ ad rw, v ad = w.map (ni_dn ad rw)) (k : ni_E xs St Z d y q ls (w.toList ++ r) A2 (ni_live A2) P) : ni_E xs St Z d y pc ls st A L P := by
  refine E_pre (fun M0 ad _ _ M rw cp _ _ h c k => ?_) k
  refine ws_V (r := r.map (ni_dn ad rw)) (as := as.map (ni_dn ad rw)) hp ?_ ?_ h c hs hk ho (ni_csZ ad rw r hc) hD (has ad rw) fun M' rw' cp' h' => ?_
  · rw [← List.map_drop, hd]
    rfl
  · rw [← List.map_take, ← List.map_reverse, ht]
  · have g := k M' rw' cp' h' (ni_clR A2)
    have e := hl ad rw rw'
    rw [List.map_append, List.map_append] at e
    obtain ⟨e1, e2⟩ := List.append_inj e (by rw [List.length_map, List.length_map])
    rw [e1, e2, hw ad rw']
    rw [List.map_append] at g
    have e3 : (w.map (ni_dn ad rw')).toList = w.toList.map (ni_dn ad rw') := by cases w <;> rfl
    rw [e3]
    exact g
theorem E_S {y' nn : Nat} {r as : List ni_a} {v : (Nat → Nat) → Option Value} {w : Option ni_a} {asf : (Nat → Nat) → List Value} {A2 : Nat → Nat → Int} (hp : ni_prog xs y pc = ni_sC y' nn q) (hln : nn ≤ st.length) (hd : st.drop nn = r) (ht : (st.take nn).reverse = as) (hc : r.length ≤ 4) (hl : ∀ ad rw rw' : Nat → Nat, (ls ++ r).map (ni_dn ad rw) = (ls ++ r).map (ni_dn ad rw')) (hD : ni_Dc xs St d y' asf A v A2) (has : ∀ ad rw, asf ad = as.map (ni_dn ad rw)) (hw : ∀ ad rw, v ad = w.map (ni_dn ad rw)) (k : ni_E xs St Z d y q ls (w.toList ++ r) A2 (ni_live A2) P) : ni_E xs St Z d y pc ls st A L P := by
  refine E_pre (fun M0 ad _ _ M rw cp _ _ h c k => ?_) k
  refine ws_S (r := r.map (ni_dn ad rw)) (as := as.map (ni_dn ad rw)) hp (by rw [List.length_map]; exact hln) ?_ ?_ h c (ni_csZ ad rw r hc) hD (has ad rw) fun M' rw' cp' h' => ?_
  · rw [← List.map_drop, hd]
  · rw [← List.map_take, ← List.map_reverse, ht]
  · have g := k M' rw' cp' h' (ni_clR A2)
    have e := hl ad rw rw'
    rw [List.map_append, List.map_append] at e
    obtain ⟨e1, e2⟩ := List.append_inj e (by rw [List.length_map, List.length_map])
    rw [e1, e2, hw ad rw']
    rw [List.map_append] at g
    have e3 : (w.map (ni_dn ad rw')).toList = w.toList.map (ni_dn ad rw') := by cases w <;> rfl
    rw [e3]
    exact g
theorem E_C {y' nn : Nat} {r as : List ni_a} {v : Option Value} {w : Option ni_a} {asv : List Value} (hp : ni_prog xs y pc = ni_sC y' nn q) (hln : nn ≤ st.length) (hd : st.drop nn = r) (ht : (st.take nn).reverse = as) (hc : r.length ≤ 4) (hP : ni_Pu xs d y' asv v) (has : ∀ ad rw, asv = as.map (ni_dn ad rw)) (hw : ∀ ad rw, v = w.map (ni_dn ad rw)) (k : ni_E xs St Z d y q ls (w.toList ++ r) A L P) : ni_E xs St Z d y pc ls st A L P := by
  refine E_pre (fun M0 ad _ _ M rw cp _ _ h c k => ?_) k
  refine ws_P (r := r.map (ni_dn ad rw)) (as := asv) hp (by rw [List.length_map]; exact hln) ?_ ?_ (ni_csZ ad rw r hc) hP ?_
  · rw [← List.map_drop, hd]
  · rw [← List.map_take, ← List.map_reverse, ht, has ad rw]
  · have g := k M rw cp h c
    rw [List.map_append] at g
    have e3 : (w.map (ni_dn ad rw)).toList = w.toList.map (ni_dn ad rw) := by cases w <;> rfl
    rw [hw ad rw, e3]
    exact g
/-- a method of the face, where this is a cell of St and the Net lies as Z says -/
def nf_F (xs : List Int32) (St : Nat → Option ni_C) (Z : (Nat → Nat) → Prop) (d y : Nat) (as : List ni_a) (A : Nat → Nat → Int) (P : Option ni_a → (Nat → Nat → Int) → Prop) : Prop :=
  ∃ v A', P v A' ∧ ∀ M ad rw cp, Z ad → ni_Rep St M ad rw cp A (ni_live A) → wp_C xs d y (as.map (ni_dn ad ad)) M (fun u M' => u = v.map (ni_dn ad ad) ∧ ∃ rw' cp', ni_Rep St M' ad rw' cp' A' (ni_live A') ∧ ni_Kp M ad rw cp M' rw' cp')
theorem nf_Fin {as : List ni_a} (hen : ∀ ad, (ni_en (as.map (ni_dn ad ad))).length ≤ (ni_ms y).2.2.1) (hls : ∀ ad rw, ni_ent y (as.map (ni_dn ad ad)) = ls.map (ni_dn ad rw)) (h : ni_E xs St Z d y 0 ls [] A (ni_live A) P) : nf_F xs St Z (d + 1) y as A P := by
  obtain ⟨v, A', h1, h2⟩ := h
  exact ⟨v, A', h1, fun M ad rw cp z hR => wp_enter (hen ad) (hls ad rw) (h2 M ad rw cp M rw cp z ⟨hR, ni_KpR⟩ (ni_clR A))⟩
theorem nf_MF {as : List ni_a} (h : ni_M xs St d y as A P) : nf_F xs St Z d y as A P := by
  obtain ⟨v, A', h1, h2⟩ := h
  exact ⟨v, A', h1, fun M ad rw cp _ hR => h2 M ad rw cp hR⟩
theorem nf_Fmono {P' : Option ni_a → (Nat → Nat → Int) → Prop} {as : List ni_a} (h : nf_F xs St Z d y as A P) (hp : ∀ v A', P v A' → P' v A') : nf_F xs St Z d y as A P' := by
  obtain ⟨v, A', h1, h2⟩ := h
  exact ⟨v, A', hp v A' h1, h2⟩
theorem nf_Fup {d' : Nat} {as : List ni_a} (h : nf_F xs St Z d y as A P) (hd : d ≤ d') : nf_F xs St Z d' y as A P := by
  obtain ⟨v, A', h1, h2⟩ := h
  exact ⟨v, A', h1, fun M ad rw cp z hR => wp_up (h2 M ad rw cp z hR) hd⟩
/-- this.net -/
theorem E_GetT {m n0 n1 : Nat} (hp : ni_prog xs y pc = ni_sGet 9 0 q) (hm : St m = some (9, [.ref n0, .ref n1])) (hZ : ∀ ad, Z ad → ad 0 = n0) (k : ni_E xs St Z d y q ls (ni_aP 0 :: st) A L P) : ni_E xs St Z d y pc ls (ni_aL m :: st) A L P :=
  E_pre (fun _ ad _ _ M rw cp _ z h c k => wp_Get hp (h.1.2.2.2.2.1 m _ hm).1 (show _ = some (Value.ref (ad 0)) by rw [hZ ad z]; rfl) (k M rw cp h c)) k
/-- a call on this -/
theorem E_VT {y' nn ci b : Nat} {vs : List Value} {r as : List ni_a} {v : Option ni_a} {A2 : Nat → Nat → Int} (hp : ni_prog xs y pc = ni_sV y' nn ci q) (hd : st.drop nn = ni_aL b :: r) (ht : (st.take nn).reverse = as) (hb : St b = some (ci, vs)) (hc : r.length ≤ 4) (hl : ∀ ad rw rw' : Nat → Nat, (ls ++ r).map (ni_dn ad rw) = (ls ++ r).map (ni_dn ad rw')) (hD : ∀ M ad rw cp, Z ad → ni_Rep St M ad rw cp A (ni_live A) → wp_C xs d y' ((ni_aL b :: as).map (ni_dn ad ad)) M (fun u M' => u = v.map (ni_dn ad ad) ∧ ∃ rw' cp', ni_Rep St M' ad rw' cp' A2 (ni_live A2) ∧ ni_Kp M ad rw cp M' rw' cp')) (has : ∀ ad rw, as.map (ni_dn ad ad) = as.map (ni_dn ad rw)) (hw : ∀ ad rw, v.map (ni_dn ad ad) = v.map (ni_dn ad rw)) (k : ni_E xs St Z d y q ls (v.toList ++ r) A2 (ni_live A2) P) : ni_E xs St Z d y pc ls st A L P := by
  refine E_pre (fun M0 ad _ _ M rw cp _ z h c k => ?_) k
  have hr := hD M ad rw cp z (ni_RepC h.1 c)
  rw [List.map_cons, has ad rw] at hr
  refine wp_V (r := r.map (ni_dn ad rw)) (as := as.map (ni_dn ad rw)) hp ?_ ?_ (h.1.2.2.2.2.1 b _ hb).1 (ni_csZ ad rw r hc) hr ?_
  · rw [← List.map_drop, hd]
    rfl
  · rw [← List.map_take, ← List.map_reverse, ht]
  · rintro u M' ⟨hu, rw', cp', hR, hK⟩
    rw [hu]
    have g := k M' rw' cp' ⟨hR, ni_KpT h.2 hK⟩ (ni_clR A2)
    have e := hl ad rw rw'
    rw [List.map_append, List.map_append] at e
    obtain ⟨e1, e2⟩ := List.append_inj e (by rw [List.length_map, List.length_map])
    rw [e1, e2, hw ad rw']
    rw [List.map_append] at g
    have e3 : (v.map (ni_dn ad rw')).toList = v.toList.map (ni_dn ad rw') := by cases v <;> rfl
    rw [e3]
    exact g
/-- a line's rows -/
theorem E_QldR {l j : Nat} {i : Int} (hp : ni_prog xs y pc = ni_sQld q) (hs : ni_us l = true) (hk : ni_kd l = 2) (hi : i = j) (hj : (j : Int) < A l 2) (hn : j < 1000000) (k : ni_E xs St Z d y q ls (ni_aL (A (l + 1) j).toNat :: st) A L P) : ni_E xs St Z d y pc ls (ni_aI i :: ni_aR (l + 1) :: st) A L P := by
  have b := ni_o2_1 hs hk
  refine E_pre (fun _ ad _ _ M rw cp _ _ h c k => ws_QldR hp h b.1 b.2.1 (ni_lrO b.2.2.1) ⟨by decide, rfl⟩ hi (ni_cpJ h hs hk hj).1 hn ?_ rfl rfl (k M rw cp h c)) k
  have h374 := (ni_usT hs).1
  exact ni_L8 b.1 b.2.2.2 (by omega) hj c
theorem E_AldR {l j : Nat} {i : Int} (hp : ni_prog xs y pc = ni_sAld .int 0 q) (hs : ni_us l = true) (hk : ni_kd l = 2) (hi : i = j) (hj : (j : Int) < A l 2) (hn : j < 1000000) (k : ni_E xs St Z d y q ls (ni_aI (A (l + 2) j) :: st) A L P) : ni_E xs St Z d y pc ls (ni_aI i :: ni_aR (l + 2) :: st) A L P := by
  have b := ni_o2_2 hs hk
  refine E_pre (fun _ ad _ _ M rw cp _ _ h c k => ws_AldR hp h b.1 b.2.1 (ni_lrO b.2.2.1) ⟨by decide, rfl⟩ hi (ni_cpJ h hs hk hj).2.1 hn ?_ rfl rfl (k M rw cp h c)) k
  have h374 := (ni_usT hs).1
  exact ni_L8 b.1 b.2.2.2 (by omega) hj c
end X
end NWE
