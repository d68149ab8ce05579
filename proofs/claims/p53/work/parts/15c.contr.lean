/-! COMPARISONS, CONTRACTS, THE ROWS OF AN OBJECT -/
section NWT
theorem zc_ge_t {a b : Int} (ha : ni_R32 a) (hb : ni_R32 b) (h : b ≤ a) : (fun x y : Int32 => decide (y ≤ x)) (Int32.ofInt a) (Int32.ofInt b) = true := decide_eq_true ((ni_leZ hb ha).mpr h)
theorem zc_ge_f {a b : Int} (ha : ni_R32 a) (hb : ni_R32 b) (h : ¬ (b ≤ a)) : (fun x y : Int32 => decide (y ≤ x)) (Int32.ofInt a) (Int32.ofInt b) = false := decide_eq_false (fun z => h ((ni_leZ hb ha).mp z))
theorem zc_ne_t {a b : Int} (ha : ni_R32 a) (hb : ni_R32 b) (h : ¬ a = b) : (fun x y : Int32 => decide (¬ x = y)) (Int32.ofInt a) (Int32.ofInt b) = true := decide_eq_true ((not_congr (ni_eqZ ha hb)).mpr h)
theorem zc_ne_f {a b : Int} (ha : ni_R32 a) (hb : ni_R32 b) (h : ¬ (¬ a = b)) : (fun x y : Int32 => decide (¬ x = y)) (Int32.ofInt a) (Int32.ofInt b) = false := decide_eq_false (fun z => h ((not_congr (ni_eqZ ha hb)).mp z))
theorem zc_lt_t {a b : Int} (ha : ni_R32 a) (hb : ni_R32 b) (h : a < b) : (fun x y : Int32 => decide (x < y)) (Int32.ofInt a) (Int32.ofInt b) = true := decide_eq_true ((ni_ltZ ha hb).mpr h)
theorem zc_lt_f {a b : Int} (ha : ni_R32 a) (hb : ni_R32 b) (h : ¬ (a < b)) : (fun x y : Int32 => decide (x < y)) (Int32.ofInt a) (Int32.ofInt b) = false := decide_eq_false (fun z => h ((ni_ltZ ha hb).mp z))
theorem zc_eq_t {a b : Int} (ha : ni_R32 a) (hb : ni_R32 b) (h : a = b) : (fun x y : Int32 => decide (x = y)) (Int32.ofInt a) (Int32.ofInt b) = true := decide_eq_true ((ni_eqZ ha hb).mpr h)
theorem zc_eq_f {a b : Int} (ha : ni_R32 a) (hb : ni_R32 b) (h : ¬ (a = b)) : (fun x y : Int32 => decide (x = y)) (Int32.ofInt a) (Int32.ofInt b) = false := decide_eq_false (fun z => h ((ni_eqZ ha hb).mp z))
theorem zc_le_t {a b : Int} (ha : ni_R32 a) (hb : ni_R32 b) (h : a ≤ b) : (fun x y : Int32 => decide (x ≤ y)) (Int32.ofInt a) (Int32.ofInt b) = true := decide_eq_true ((ni_leZ ha hb).mpr h)
theorem zc_le_f {a b : Int} (ha : ni_R32 a) (hb : ni_R32 b) (h : ¬ (a ≤ b)) : (fun x y : Int32 => decide (x ≤ y)) (Int32.ofInt a) (Int32.ofInt b) = false := decide_eq_false (fun z => h ((ni_leZ ha hb).mp z))
theorem zc_gt_t {a b : Int} (ha : ni_R32 a) (hb : ni_R32 b) (h : b < a) : (fun x y : Int32 => decide (y < x)) (Int32.ofInt a) (Int32.ofInt b) = true := decide_eq_true ((ni_ltZ hb ha).mpr h)
theorem zc_gt_f {a b : Int} (ha : ni_R32 a) (hb : ni_R32 b) (h : ¬ (b < a)) : (fun x y : Int32 => decide (y < x)) (Int32.ofInt a) (Int32.ofInt b) = false := decide_eq_false (fun z => h ((ni_ltZ hb ha).mp z))
theorem zz_0 : ni_R32 0 := ⟨by omega, by omega⟩
theorem zf_ne_t {a : Int} (ha : ni_R32 a) (h : ¬ a = 0) : (fun x : Int32 => decide (¬ x = 0)) (Int32.ofInt a) = true := decide_eq_true ((not_congr (ni_eqZ ha zz_0)).mpr h)
theorem zf_ne_f {a : Int} (ha : ni_R32 a) (h : ¬ (¬ a = 0)) : (fun x : Int32 => decide (¬ x = 0)) (Int32.ofInt a) = false := decide_eq_false (fun z => h ((not_congr (ni_eqZ ha zz_0)).mp z))
theorem zf_eq_t {a : Int} (ha : ni_R32 a) (h : a = 0) : (fun x : Int32 => decide (x = 0)) (Int32.ofInt a) = true := decide_eq_true ((ni_eqZ ha zz_0).mpr h)
theorem zf_eq_f {a : Int} (ha : ni_R32 a) (h : ¬ (a = 0)) : (fun x : Int32 => decide (x = 0)) (Int32.ofInt a) = false := decide_eq_false (fun z => h ((ni_eqZ ha zz_0).mp z))
theorem zf_lt_t {a : Int} (ha : ni_R32 a) (h : a < 0) : (fun x : Int32 => decide (x < 0)) (Int32.ofInt a) = true := decide_eq_true ((ni_ltZ ha zz_0).mpr h)
theorem zf_lt_f {a : Int} (ha : ni_R32 a) (h : ¬ (a < 0)) : (fun x : Int32 => decide (x < 0)) (Int32.ofInt a) = false := decide_eq_false (fun z => h ((ni_ltZ ha zz_0).mp z))
theorem zf_le_t {a : Int} (ha : ni_R32 a) (h : a ≤ 0) : (fun x : Int32 => decide (x ≤ 0)) (Int32.ofInt a) = true := decide_eq_true ((ni_leZ ha zz_0).mpr h)
theorem zf_le_f {a : Int} (ha : ni_R32 a) (h : ¬ (a ≤ 0)) : (fun x : Int32 => decide (x ≤ 0)) (Int32.ofInt a) = false := decide_eq_false (fun z => h ((ni_leZ ha zz_0).mp z))
theorem zf_ge_t {a : Int} (ha : ni_R32 a) (h : 0 ≤ a) : (fun x : Int32 => decide (0 ≤ x)) (Int32.ofInt a) = true := decide_eq_true ((ni_leZ zz_0 ha).mpr h)
theorem zf_ge_f {a : Int} (ha : ni_R32 a) (h : ¬ (0 ≤ a)) : (fun x : Int32 => decide (0 ≤ x)) (Int32.ofInt a) = false := decide_eq_false (fun z => h ((ni_leZ zz_0 ha).mp z))
theorem zf_gt_t {a : Int} (ha : ni_R32 a) (h : 0 < a) : (fun x : Int32 => decide (0 < x)) (Int32.ofInt a) = true := decide_eq_true ((ni_ltZ zz_0 ha).mpr h)
theorem zf_gt_f {a : Int} (ha : ni_R32 a) (h : ¬ (0 < a)) : (fun x : Int32 => decide (0 < x)) (Int32.ofInt a) = false := decide_eq_false (fun z => h ((ni_ltZ zz_0 ha).mp z))
theorem ni_ctA : ((List.range 374).all fun s => Nat.ble 998 (ni_ct s).1 || (ni_us (ni_ct s).1 && ni_cf (ni_kd (ni_ct s).1) (ni_ct s).2 && (
    (Nat.beq (ni_kd (ni_ct s).1) 5 && Nat.beq s ((ni_ct s).1 + 7)) ||
    (Nat.beq (ni_kd (ni_ct s).1) 2 && (Nat.beq s ((ni_ct s).1 + 1) || Nat.beq s ((ni_ct s).1 + 2))) ||
    ((Nat.beq (ni_kd (ni_ct s).1) 8 || Nat.beq (ni_kd (ni_ct s).1) 6) && (Nat.beq s ((ni_ct s).1 + 1) || Nat.beq s ((ni_ct s).1 + 2) || Nat.beq s ((ni_ct s).1 + 3)))))) = true := by decide +kernel
theorem ni_ctS {s u k : Nat} (hs : ni_us s = true) (h : ni_ct s = (u, k)) (hu : u < 998) : ni_us u = true ∧ ni_cf (ni_kd u) k = true ∧ ((ni_kd u = 5 ∧ s = u + 7) ∨ (ni_kd u = 2 ∧ (s = u + 1 ∨ s = u + 2)) ∨ ((ni_kd u = 8 ∨ ni_kd u = 6) ∧ (s = u + 1 ∨ s = u + 2 ∨ s = u + 3))) := by
  have g := List.all_eq_true.mp ni_ctA s (List.mem_range.mpr (ni_usT hs).1)
  rw [h] at g
  have g1 : Nat.ble 998 u = false := by
    cases e : Nat.ble 998 u with
    | false => rfl
    | true =>
      have := Nat.le_of_ble_eq_true e
      omega
  dsimp only at g
  rw [g1, Bool.false_or] at g
  simp only [Bool.and_eq_true, Bool.or_eq_true, Nat.beq_eq, or_assoc] at g
  exact ⟨g.1.1, g.1.2, g.2⟩
theorem ni_csLl : ni_csL.length = 374 := by decide +kernel
theorem ni_ctB : ((List.range 374).all fun s => Nat.ble (ni_ct s).1 999) = true := by decide +kernel
/-- what speaks by the counts lies below L -/
def ni_Cl (A : Nat → Nat → Int) (L : Nat → Nat) : Prop := ∀ s, ni_us s = true → ni_live A s ≤ L s
theorem ni_clR (A : Nat → Nat → Int) : ni_Cl A (ni_live A) := fun _ _ => Nat.le_refl _
theorem ni_liveU {A : Nat → Nat → Int} {s j s' : Nat} {x : Int} (h0 : ¬ (s = 0 ∧ j = 1)) (h : ni_ct s' ≠ (s, j) ∨ 998 ≤ s) : ni_live (ni_u2 A s j x) s' = ni_live A s' := by
  unfold ni_live
  by_cases h1 : (ni_ct s').1 = 999
  · rw [h1]
    rfl
  · by_cases h2 : (ni_ct s').1 = 998
    · rw [h2]
      simp only [show Nat.beq 998 999 = false from rfl, show Nat.beq 998 998 = true from rfl, cond_true, cond_false]
      have e : ni_u2 A s j x 0 1 = A 0 1 := by
        unfold ni_u2
        rw [if_neg (fun z => h0 ⟨z.1.symm, z.2.symm⟩)]
      rw [e]
    · have e1 : Nat.beq (ni_ct s').1 999 = false := by
        cases e : Nat.beq (ni_ct s').1 999 with
        | false => rfl
        | true => exact absurd (Nat.eq_of_beq_eq_true e) h1
      have e2 : Nat.beq (ni_ct s').1 998 = false := by
        cases e : Nat.beq (ni_ct s').1 998 with
        | false => rfl
        | true => exact absurd (Nat.eq_of_beq_eq_true e) h2
      rw [e1, e2, cond_false, cond_false, cond_false, cond_false]
      unfold ni_u2
      by_cases e : (ni_ct s').1 = s ∧ (ni_ct s').2 = j
      · rw [if_pos e]
        rcases h with h | h
        · exact absurd (Prod.ext e.1 e.2) h
        · exfalso
          have hb : (ni_ct s').1 < 998 ∨ (ni_ct s').1 = 998 ∨ (ni_ct s').1 = 999 := by
            by_cases hr : s' < 374
            · have g := List.all_eq_true.mp ni_ctB s' (List.mem_range.mpr hr)
              have g := Nat.le_of_ble_eq_true g
              omega
            · have : ni_ct s' = (999, 0) := by
                unfold ni_ct
                rw [List.getD_eq_getElem?_getD, List.getElem?_eq_none (by rw [ni_csLl]; omega)]
                rfl
              rw [this]
              omega
          omega
      · rw [if_neg e]
/-- a field that counts nothing -/
theorem ni_clU {A : Nat → Nat → Int} {L : Nat → Nat} {s j c : Nat} {x : Int} (h : ni_Cl A L) (hs : ni_us s = true) (hk : ni_kd s = c) (hc : ni_cf c j = false) : ni_Cl (ni_u2 A s j x) L := by
  intro s' hs'
  have h374 := (ni_usT hs).1
  rw [ni_liveU ?_ (Or.inl ?_)]
  · exact h s' hs'
  · rintro ⟨rfl, rfl⟩
    rw [← hk] at hc
    exact absurd hc (by decide)
  · intro e
    have g := (ni_ctS hs' e (by omega)).2.1
    rw [hk, hc] at g
    exact absurd g (by decide)
/-- a count -/
theorem ni_clC {A : Nat → Nat → Int} {L : Nat → Nat} {s j : Nat} {x : Int} (h : ni_Cl A L) (hs : ni_us s = true) (h0 : ¬ (s = 0 ∧ j = 1)) (hx : ∀ s', ni_us s' = true → ni_ct s' = (s, j) → x.toNat ≤ L s') : ni_Cl (ni_u2 A s j x) L := by
  intro s' hs'
  by_cases e : ni_ct s' = (s, j)
  · have h374 := (ni_usT hs).1
    have e9 : ni_live (ni_u2 A s j x) s' = x.toNat := by
      unfold ni_live
      rw [e]
      dsimp only
      have e1 : Nat.beq s 999 = false := by
        cases e : Nat.beq s 999 with
        | false => rfl
        | true =>
          have := Nat.eq_of_beq_eq_true e
          omega
      have e2 : Nat.beq s 998 = false := by
        cases e : Nat.beq s 998 with
        | false => rfl
        | true =>
          have := Nat.eq_of_beq_eq_true e
          omega
      rw [e1, e2, cond_false, cond_false]
      unfold ni_u2
      rw [if_pos ⟨rfl, rfl⟩]
    rw [e9]
    exact hx s' hs' e
  · rw [ni_liveU h0 (Or.inl e)]
    exact h s' hs'
theorem ni_cl1 {A : Nat → Nat → Int} {L : Nat → Nat} {s n : Nat} (h : ni_Cl A L) (hn : L s ≤ n) : ni_Cl A (ni_u1 L s n) := by
  intro s' hs'
  unfold ni_u1
  by_cases e : s' = s
  · subst e
    rw [if_pos rfl]
    exact Nat.le_trans (h s' hs') hn
  · rw [if_neg e]
    exact h s' hs'
theorem ni_RepL {St : Nat → Option ni_C} {M : ni_H} {ad rw cp : Nat → Nat} {A : Nat → Nat → Int} {L L' : Nat → Nat} (h : ni_Rep St M ad rw cp A L) (hl : ∀ s, ni_us s = true → L' s ≤ L s) (h9 : ∀ s, ni_us s = true → (ni_ct s).1 = 999 → 1000 ≤ L' s) : ni_Rep St M ad rw cp A L' := by
  obtain ⟨h1, h2, h3, h4, h5, h6, h7, h8⟩ := h
  refine ⟨h1, fun s hs => ?_, h3, h4, h5, h6, h7, h9⟩
  obtain ⟨vs, g1, g2, g3⟩ := h2 s hs
  exact ⟨vs, g1, g2, fun j hj hjl => g3 j hj (Nat.lt_of_lt_of_le hjl (hl s hs))⟩
theorem ni_live9 {A : Nat → Nat → Int} {s : Nat} (h : (ni_ct s).1 = 999) : ni_live A s = 1000 := by
  unfold ni_live
  rw [h]
  rfl
theorem ni_RepC {St : Nat → Option ni_C} {M : ni_H} {ad rw cp : Nat → Nat} {A : Nat → Nat → Int} {L : Nat → Nat} (h : ni_Rep St M ad rw cp A L) (hl : ni_Cl A L) : ni_Rep St M ad rw cp A (ni_live A) := ni_RepL h hl (fun _ _ h9 => Nat.le_of_eq (ni_live9 h9).symm)
theorem ni_KpR {M : ni_H} {ad rw cp : Nat → Nat} : ni_Kp M ad rw cp M rw cp := ⟨fun _ _ _ => rfl, fun _ _ => Or.inl rfl, Nat.le_refl _, Nat.le_refl _, Nat.le_refl _⟩
theorem ni_KpT {M0 M M' : ni_H} {ad rw0 cp0 rw cp rw' cp' : Nat → Nat} (h : ni_Kp M0 ad rw0 cp0 M rw cp) (h' : ni_Kp M ad rw cp M' rw' cp') : ni_Kp M0 ad rw0 cp0 M' rw' cp' := by
  obtain ⟨a1, a2, a3, a4, a5⟩ := h
  obtain ⟨b1, b2, b3, b4, b5⟩ := h'
  refine ⟨fun b hb hn => ?_, fun s hs => ?_, by omega, by omega, by omega⟩
  · rw [b1 b (by omega) ?_, a1 b hb hn]
    intro s hs e
    refine hn s hs ?_
    rw [← e]
    unfold ni_pl
    cases hlr : ni_lr s with
    | false => rfl
    | true =>
      rw [cond_true, cond_true]
      rcases a2 s hs with r | r
      · exact r.symm
      · exfalso
        unfold ni_pl at e
        rw [hlr, cond_true] at e
        omega
  · rcases b2 s hs with r | r
    · rw [r]
      exact a2 s hs
    · exact Or.inr (by omega)
/-- A METHOD'S CONTRACT over the places of a Net: what it makes of them, wherever they lie -/
def ni_Dc (xs : List Int32) (St : Nat → Option ni_C) (d y : Nat) (as : (Nat → Nat) → List Value) (A : Nat → Nat → Int) (v : (Nat → Nat) → Option Value) (A' : Nat → Nat → Int) : Prop :=
  ∀ (M : ni_H) (ad rw cp : Nat → Nat), ni_Rep St M ad rw cp A (ni_live A) → wp_C xs d y (as ad) M (fun u M' => u = v ad ∧ ∃ rw' cp', ni_Rep St M' ad rw' cp' A' (ni_live A') ∧ ni_Kp M ad rw cp M' rw' cp')
/-- the same of the rest of a method -/
def ni_Dr (xs : List Int32) (St : Nat → Option ni_C) (d y pc : Nat) (ls : (Nat → Nat) → List Value) (A : Nat → Nat → Int) (v : (Nat → Nat) → Option Value) (A' : Nat → Nat → Int) : Prop :=
  ∀ (M : ni_H) (ad rw cp : Nat → Nat), ni_Rep St M ad rw cp A (ni_live A) → wp_G xs d y pc (ls ad) [] M (fun u M' => u = v ad ∧ ∃ rw' cp', ni_Rep St M' ad rw' cp' A' (ni_live A') ∧ ni_Kp M ad rw cp M' rw' cp')
/-- a method that looks at no heap -/
def ni_Pu (xs : List Int32) (d y : Nat) (as : List Value) (v : Option Value) : Prop := ∀ M, wp_C xs d y as M (fun u M' => u = v ∧ M' = M)
section X
variable {xs : List Int32} {St : Nat → Option ni_C} {M0 : ni_H} {ad rw0 cp0 : Nat → Nat} {d y pc q : Nat} {ls st : List Value} {M : ni_H} {rw cp : Nat → Nat} {A A' : Nat → Nat → Int} {L : Nat → Nat} {Q : Option Value → ni_H → Prop}
theorem wp_Gmono {Q Q' : Option Value → ni_H → Prop} (h : wp_G xs d y pc ls st M Q) (hq : ∀ v M', Q v M' → Q' v M') : wp_G xs d y pc ls st M Q' := by
  obtain ⟨v, M', h1, h2⟩ := h
  exact ⟨v, M', h1, hq v M' h2⟩
theorem ni_Dup {d' : Nat} {as : (Nat → Nat) → List Value} {v : (Nat → Nat) → Option Value} (h : ni_Dc xs St d y as A v A') (hd : d ≤ d') : ni_Dc xs St d' y as A v A' := fun M ad rw cp hR => wp_up (h M ad rw cp hR) hd
theorem ni_Dw {as : (Nat → Nat) → List Value} {ls : (Nat → Nat) → List Value} {v : (Nat → Nat) → Option Value} (hen : ∀ ad, (ni_en (as ad)).length ≤ (ni_ms y).2.2.1) (hls : ∀ ad, ni_ent y (as ad) = ls ad) (h : ni_Dr xs St d y 0 ls A v A') : ni_Dc xs St (d + 1) y as A v A' := fun M ad rw cp hR => wp_enter (hen ad) (hls ad) (h M ad rw cp hR)
theorem ws_R {rt : Option FieldType} {v : (Nat → Nat) → Option Value} {w : Value} (hp : ni_prog xs y pc = ni_sR rt) (hk : ni_rok rt (some w) = true) (h : ni_Sx St M0 ad rw0 cp0 M rw cp A' L) (hl : ni_Cl A' L) (hv : some w = v ad) : wp_G xs d y pc ls [w] M (fun u M' => u = v ad ∧ ∃ rw' cp', ni_Rep St M' ad rw' cp' A' (ni_live A') ∧ ni_Kp M0 ad rw0 cp0 M' rw' cp') := wp_R hp hk ⟨hv, rw, cp, ni_RepC h.1 hl, h.2⟩
theorem ws_Rv {rt : Option FieldType} {v : (Nat → Nat) → Option Value} (hp : ni_prog xs y pc = ni_sR rt) (hk : ni_rok rt none = true) (h : ni_Sx St M0 ad rw0 cp0 M rw cp A' L) (hl : ni_Cl A' L) (hv : none = v ad) : wp_G xs d y pc ls [] M (fun u M' => u = v ad ∧ ∃ rw' cp', ni_Rep St M' ad rw' cp' A' (ni_live A') ∧ ni_Kp M0 ad rw0 cp0 M' rw' cp') := wp_Rv hp hk ⟨hv, rw, cp, ni_RepC h.1 hl, h.2⟩
/-- a call on an object of the Net -/
theorem ws_V {y' nn ci s : Nat} {r as : List Value} {v : (Nat → Nat) → Option Value} {asf : (Nat → Nat) → List Value} (hp : ni_prog xs y pc = ni_sV y' nn ci q) (hd : st.drop nn = .ref (ad s) :: r) (ht : (st.take nn).reverse = as) (h : ni_Sx St M0 ad rw0 cp0 M rw cp A L) (hl : ni_Cl A L) (hs : ni_us s = true) (hk : ni_kd s = ci) (ho : ni_ob ci = true) (hc : ni_cs r ≤ 8) (hD : ni_Dc xs St d y' asf A v A') (has : asf ad = .ref (ad s) :: as) (k : ∀ M' rw' cp', ni_Sx St M0 ad rw0 cp0 M' rw' cp' A' (ni_live A') → wp_G xs d y q ls ((v ad).toList ++ r) M' Q) : wp_G xs d y pc ls st M Q := by
  obtain ⟨o1, o2, o3⟩ := ni_objS hs hk ho
  obtain ⟨vs, g1, g2, g3⟩ := h.1.2.1 s hs
  have hpl : ni_pl ad rw s = ad s := by
    unfold ni_pl
    rw [o2, cond_false]
  rw [hpl, hk] at g1
  have hr := hD M ad rw cp (ni_RepC h.1 hl)
  rw [has] at hr
  refine wp_V hp hd ht g1 hc hr ?_
  rintro u M' ⟨hu, rw', cp', hR, hK⟩
  rw [hu]
  exact k M' rw' cp' ⟨hR, ni_KpT h.2 hK⟩
/-- a call of a static method with places of the Net -/
theorem ws_S {y' nn : Nat} {r as : List Value} {v : (Nat → Nat) → Option Value} {asf : (Nat → Nat) → List Value} (hp : ni_prog xs y pc = ni_sC y' nn q) (hln : nn ≤ st.length) (hd : st.drop nn = r) (ht : (st.take nn).reverse = as) (h : ni_Sx St M0 ad rw0 cp0 M rw cp A L) (hl : ni_Cl A L) (hc : ni_cs r ≤ 8) (hD : ni_Dc xs St d y' asf A v A') (has : asf ad = as) (k : ∀ M' rw' cp', ni_Sx St M0 ad rw0 cp0 M' rw' cp' A' (ni_live A') → wp_G xs d y q ls ((v ad).toList ++ r) M' Q) : wp_G xs d y pc ls st M Q := by
  have hr := hD M ad rw cp (ni_RepC h.1 hl)
  rw [has] at hr
  refine wp_S hp hln hd ht hc hr ?_
  rintro u M' ⟨hu, rw', cp', hR, hK⟩
  rw [hu]
  exact k M' rw' cp' ⟨hR, ni_KpT h.2 hK⟩
/-- a call of a static method that looks at no heap -/
theorem ws_P {y' nn : Nat} {r as : List Value} {v : Option Value} (hp : ni_prog xs y pc = ni_sC y' nn q) (hln : nn ≤ st.length) (hd : st.drop nn = r) (ht : (st.take nn).reverse = as) (hc : ni_cs r ≤ 8) (hP : ni_Pu xs d y' as v) (k : wp_G xs d y q ls (v.toList ++ r) M Q) : wp_G xs d y pc ls st M Q := by
  refine wp_S hp hln hd ht hc (hP M) ?_
  rintro u M' ⟨hu, hM⟩
  rw [hu, hM]
  exact k
theorem ni_PuUp {d' : Nat} {as : List Value} {v : Option Value} (h : ni_Pu xs d y as v) (hd : d ≤ d') : ni_Pu xs d' y as v := fun M => wp_up (h M) hd
/-- the rest of a method, by its contract -/
theorem ws_Dg {lsf : (Nat → Nat) → List Value} {v : (Nat → Nat) → Option Value} (h : ni_Sx St M0 ad rw0 cp0 M rw cp A L) (hl : ni_Cl A L) (hD : ni_Dr xs St d y pc lsf A v A') (hls : lsf ad = ls) : wp_G xs d y pc ls [] M (fun u M' => u = v ad ∧ ∃ rw' cp', ni_Rep St M' ad rw' cp' A' (ni_live A') ∧ ni_Kp M0 ad rw0 cp0 M' rw' cp') := by
  have h1 := hD M ad rw cp (ni_RepC h.1 hl)
  rw [hls] at h1
  refine wp_Gmono h1 ?_
  rintro u M' ⟨hu, rw', cp', hR, hK⟩
  exact ⟨hu, rw', cp', hR, ni_KpT h.2 hK⟩
end X
theorem ni_o0_1A : ((List.range 374).all fun s => !(Nat.beq (ni_kd s) 0) || (ni_us (s + 1) && Nat.beq (ni_kd (s + 1)) 100 && Nat.beq (ni_ln (s + 1)) 10 && Nat.beq (ni_ct (s + 1)).1 999)) = true := by decide +kernel
theorem ni_o0_1 {s : Nat} (hs : ni_us s = true) (hk : ni_kd s = 0) : ni_us (s + 1) = true ∧ ni_kd (s + 1) = 100 ∧ ni_ln (s + 1) = 10 ∧ (ni_ct (s + 1)).1 = 999 := by
  have h := List.all_eq_true.mp ni_o0_1A s (List.mem_range.mpr (ni_usT hs).1)
  rw [hk, show Nat.beq 0 0 = true from rfl, Bool.not_true, Bool.false_or] at h
  simp only [Bool.and_eq_true, Nat.beq_eq] at h
  exact ⟨h.1.1.1, h.1.1.2, h.1.2, h.2⟩
theorem ni_o0_2A : ((List.range 374).all fun s => !(Nat.beq (ni_kd s) 0) || (ni_us (s + 2) && Nat.beq (ni_kd (s + 2)) 100 && Nat.beq (ni_ln (s + 2)) 7 && Nat.beq (ni_ct (s + 2)).1 999)) = true := by decide +kernel
theorem ni_o0_2 {s : Nat} (hs : ni_us s = true) (hk : ni_kd s = 0) : ni_us (s + 2) = true ∧ ni_kd (s + 2) = 100 ∧ ni_ln (s + 2) = 7 ∧ (ni_ct (s + 2)).1 = 999 := by
  have h := List.all_eq_true.mp ni_o0_2A s (List.mem_range.mpr (ni_usT hs).1)
  rw [hk, show Nat.beq 0 0 = true from rfl, Bool.not_true, Bool.false_or] at h
  simp only [Bool.and_eq_true, Nat.beq_eq] at h
  exact ⟨h.1.1.1, h.1.1.2, h.1.2, h.2⟩
theorem ni_o3_1A : ((List.range 374).all fun s => !(Nat.beq (ni_kd s) 3) || (ni_us (s + 1) && Nat.beq (ni_kd (s + 1)) 5 && Nat.beq (ni_ln (s + 1)) 14 && Nat.beq (ni_ct (s + 1)).1 999)) = true := by decide +kernel
theorem ni_o3_1 {s : Nat} (hs : ni_us s = true) (hk : ni_kd s = 3) : ni_us (s + 1) = true ∧ ni_kd (s + 1) = 5 ∧ ni_ln (s + 1) = 14 ∧ (ni_ct (s + 1)).1 = 999 := by
  have h := List.all_eq_true.mp ni_o3_1A s (List.mem_range.mpr (ni_usT hs).1)
  rw [hk, show Nat.beq 3 3 = true from rfl, Bool.not_true, Bool.false_or] at h
  simp only [Bool.and_eq_true, Nat.beq_eq] at h
  exact ⟨h.1.1.1, h.1.1.2, h.1.2, h.2⟩
theorem ni_o3_9A : ((List.range 374).all fun s => !(Nat.beq (ni_kd s) 3) || (ni_us (s + 9) && Nat.beq (ni_kd (s + 9)) 5 && Nat.beq (ni_ln (s + 9)) 14 && Nat.beq (ni_ct (s + 9)).1 999)) = true := by decide +kernel
theorem ni_o3_9 {s : Nat} (hs : ni_us s = true) (hk : ni_kd s = 3) : ni_us (s + 9) = true ∧ ni_kd (s + 9) = 5 ∧ ni_ln (s + 9) = 14 ∧ (ni_ct (s + 9)).1 = 999 := by
  have h := List.all_eq_true.mp ni_o3_9A s (List.mem_range.mpr (ni_usT hs).1)
  rw [hk, show Nat.beq 3 3 = true from rfl, Bool.not_true, Bool.false_or] at h
  simp only [Bool.and_eq_true, Nat.beq_eq] at h
  exact ⟨h.1.1.1, h.1.1.2, h.1.2, h.2⟩
theorem ni_o5_1A : ((List.range 374).all fun s => !(Nat.beq (ni_kd s) 5) || (ni_us (s + 1) && Nat.beq (ni_kd (s + 1)) 2 && Nat.beq (ni_ln (s + 1)) 5 && Nat.beq (ni_ct (s + 1)).1 999)) = true := by decide +kernel
theorem ni_o5_1 {s : Nat} (hs : ni_us s = true) (hk : ni_kd s = 5) : ni_us (s + 1) = true ∧ ni_kd (s + 1) = 2 ∧ ni_ln (s + 1) = 5 ∧ (ni_ct (s + 1)).1 = 999 := by
  have h := List.all_eq_true.mp ni_o5_1A s (List.mem_range.mpr (ni_usT hs).1)
  rw [hk, show Nat.beq 5 5 = true from rfl, Bool.not_true, Bool.false_or] at h
  simp only [Bool.and_eq_true, Nat.beq_eq] at h
  exact ⟨h.1.1.1, h.1.1.2, h.1.2, h.2⟩
theorem ni_o5_4A : ((List.range 374).all fun s => !(Nat.beq (ni_kd s) 5) || (ni_us (s + 4) && Nat.beq (ni_kd (s + 4)) 100 && Nat.beq (ni_ln (s + 4)) 21 && Nat.beq (ni_ct (s + 4)).1 999)) = true := by decide +kernel
theorem ni_o5_4 {s : Nat} (hs : ni_us s = true) (hk : ni_kd s = 5) : ni_us (s + 4) = true ∧ ni_kd (s + 4) = 100 ∧ ni_ln (s + 4) = 21 ∧ (ni_ct (s + 4)).1 = 999 := by
  have h := List.all_eq_true.mp ni_o5_4A s (List.mem_range.mpr (ni_usT hs).1)
  rw [hk, show Nat.beq 5 5 = true from rfl, Bool.not_true, Bool.false_or] at h
  simp only [Bool.and_eq_true, Nat.beq_eq] at h
  exact ⟨h.1.1.1, h.1.1.2, h.1.2, h.2⟩
theorem ni_o5_5A : ((List.range 374).all fun s => !(Nat.beq (ni_kd s) 5) || (ni_us (s + 5) && Nat.beq (ni_kd (s + 5)) 100 && Nat.beq (ni_ln (s + 5)) 4 && Nat.beq (ni_ct (s + 5)).1 999)) = true := by decide +kernel
theorem ni_o5_5 {s : Nat} (hs : ni_us s = true) (hk : ni_kd s = 5) : ni_us (s + 5) = true ∧ ni_kd (s + 5) = 100 ∧ ni_ln (s + 5) = 4 ∧ (ni_ct (s + 5)).1 = 999 := by
  have h := List.all_eq_true.mp ni_o5_5A s (List.mem_range.mpr (ni_usT hs).1)
  rw [hk, show Nat.beq 5 5 = true from rfl, Bool.not_true, Bool.false_or] at h
  simp only [Bool.and_eq_true, Nat.beq_eq] at h
  exact ⟨h.1.1.1, h.1.1.2, h.1.2, h.2⟩
theorem ni_o5_6A : ((List.range 374).all fun s => !(Nat.beq (ni_kd s) 5) || (ni_us (s + 6) && Nat.beq (ni_kd (s + 6)) 100 && Nat.beq (ni_ln (s + 6)) 4 && Nat.beq (ni_ct (s + 6)).1 999)) = true := by decide +kernel
theorem ni_o5_6 {s : Nat} (hs : ni_us s = true) (hk : ni_kd s = 5) : ni_us (s + 6) = true ∧ ni_kd (s + 6) = 100 ∧ ni_ln (s + 6) = 4 ∧ (ni_ct (s + 6)).1 = 999 := by
  have h := List.all_eq_true.mp ni_o5_6A s (List.mem_range.mpr (ni_usT hs).1)
  rw [hk, show Nat.beq 5 5 = true from rfl, Bool.not_true, Bool.false_or] at h
  simp only [Bool.and_eq_true, Nat.beq_eq] at h
  exact ⟨h.1.1.1, h.1.1.2, h.1.2, h.2⟩
theorem ni_o5_7A : ((List.range 374).all fun s => !(Nat.beq (ni_kd s) 5) || (ni_us (s + 7) && Nat.beq (ni_kd (s + 7)) 100 && Nat.beq (ni_ln (s + 7)) 250 && (Nat.beq (ni_ct (s + 7)).1 s && Nat.beq (ni_ct (s + 7)).2 10))) = true := by decide +kernel
theorem ni_o5_7 {s : Nat} (hs : ni_us s = true) (hk : ni_kd s = 5) : ni_us (s + 7) = true ∧ ni_kd (s + 7) = 100 ∧ ni_ln (s + 7) = 250 ∧ ni_ct (s + 7) = (s, 10) := by
  have h := List.all_eq_true.mp ni_o5_7A s (List.mem_range.mpr (ni_usT hs).1)
  rw [hk, show Nat.beq 5 5 = true from rfl, Bool.not_true, Bool.false_or] at h
  simp only [Bool.and_eq_true, Nat.beq_eq] at h
  exact ⟨h.1.1.1, h.1.1.2, h.1.2, Prod.ext h.2.1 h.2.2⟩
theorem ni_o2_3A : ((List.range 374).all fun s => !(Nat.beq (ni_kd s) 2) || (ni_us (s + 3) && Nat.beq (ni_kd (s + 3)) 100 && Nat.beq (ni_ln (s + 3)) 21 && Nat.beq (ni_ct (s + 3)).1 999)) = true := by decide +kernel
theorem ni_o2_3 {s : Nat} (hs : ni_us s = true) (hk : ni_kd s = 2) : ni_us (s + 3) = true ∧ ni_kd (s + 3) = 100 ∧ ni_ln (s + 3) = 21 ∧ (ni_ct (s + 3)).1 = 999 := by
  have h := List.all_eq_true.mp ni_o2_3A s (List.mem_range.mpr (ni_usT hs).1)
  rw [hk, show Nat.beq 2 2 = true from rfl, Bool.not_true, Bool.false_or] at h
  simp only [Bool.and_eq_true, Nat.beq_eq] at h
  exact ⟨h.1.1.1, h.1.1.2, h.1.2, h.2⟩
theorem ni_o7_4A : ((List.range 374).all fun s => !(Nat.beq (ni_kd s) 7) || (ni_us (s + 4) && Nat.beq (ni_kd (s + 4)) 104 && Nat.beq (ni_ln (s + 4)) 8 && Nat.beq (ni_ct (s + 4)).1 998)) = true := by decide +kernel
theorem ni_o7_4 {s : Nat} (hs : ni_us s = true) (hk : ni_kd s = 7) : ni_us (s + 4) = true ∧ ni_kd (s + 4) = 104 ∧ ni_ln (s + 4) = 8 ∧ (ni_ct (s + 4)).1 = 998 := by
  have h := List.all_eq_true.mp ni_o7_4A s (List.mem_range.mpr (ni_usT hs).1)
  rw [hk, show Nat.beq 7 7 = true from rfl, Bool.not_true, Bool.false_or] at h
  simp only [Bool.and_eq_true, Nat.beq_eq] at h
  exact ⟨h.1.1.1, h.1.1.2, h.1.2, h.2⟩
theorem ni_o7_5A : ((List.range 374).all fun s => !(Nat.beq (ni_kd s) 7) || (ni_us (s + 5) && Nat.beq (ni_kd (s + 5)) 100 && Nat.beq (ni_ln (s + 5)) 8 && Nat.beq (ni_ct (s + 5)).1 999)) = true := by decide +kernel
theorem ni_o7_5 {s : Nat} (hs : ni_us s = true) (hk : ni_kd s = 7) : ni_us (s + 5) = true ∧ ni_kd (s + 5) = 100 ∧ ni_ln (s + 5) = 8 ∧ (ni_ct (s + 5)).1 = 999 := by
  have h := List.all_eq_true.mp ni_o7_5A s (List.mem_range.mpr (ni_usT hs).1)
  rw [hk, show Nat.beq 7 7 = true from rfl, Bool.not_true, Bool.false_or] at h
  simp only [Bool.and_eq_true, Nat.beq_eq] at h
  exact ⟨h.1.1.1, h.1.1.2, h.1.2, h.2⟩
theorem ni_o7_6A : ((List.range 374).all fun s => !(Nat.beq (ni_kd s) 7) || (ni_us (s + 6) && Nat.beq (ni_kd (s + 6)) 100 && Nat.beq (ni_ln (s + 6)) 8 && Nat.beq (ni_ct (s + 6)).1 999)) = true := by decide +kernel
theorem ni_o7_6 {s : Nat} (hs : ni_us s = true) (hk : ni_kd s = 7) : ni_us (s + 6) = true ∧ ni_kd (s + 6) = 100 ∧ ni_ln (s + 6) = 8 ∧ (ni_ct (s + 6)).1 = 999 := by
  have h := List.all_eq_true.mp ni_o7_6A s (List.mem_range.mpr (ni_usT hs).1)
  rw [hk, show Nat.beq 7 7 = true from rfl, Bool.not_true, Bool.false_or] at h
  simp only [Bool.and_eq_true, Nat.beq_eq] at h
  exact ⟨h.1.1.1, h.1.1.2, h.1.2, h.2⟩
theorem ni_o7_7A : ((List.range 374).all fun s => !(Nat.beq (ni_kd s) 7) || (ni_us (s + 7) && Nat.beq (ni_kd (s + 7)) 8 && Nat.beq (ni_ln (s + 7)) 4 && Nat.beq (ni_ct (s + 7)).1 999)) = true := by decide +kernel
theorem ni_o7_7 {s : Nat} (hs : ni_us s = true) (hk : ni_kd s = 7) : ni_us (s + 7) = true ∧ ni_kd (s + 7) = 8 ∧ ni_ln (s + 7) = 4 ∧ (ni_ct (s + 7)).1 = 999 := by
  have h := List.all_eq_true.mp ni_o7_7A s (List.mem_range.mpr (ni_usT hs).1)
  rw [hk, show Nat.beq 7 7 = true from rfl, Bool.not_true, Bool.false_or] at h
  simp only [Bool.and_eq_true, Nat.beq_eq] at h
  exact ⟨h.1.1.1, h.1.1.2, h.1.2, h.2⟩
theorem ni_o8_1A : ((List.range 374).all fun s => !(Nat.beq (ni_kd s) 8) || (ni_us (s + 1) && Nat.beq (ni_kd (s + 1)) 100 && Nat.beq (ni_ln (s + 1)) 216 && (Nat.beq (ni_ct (s + 1)).1 s && Nat.beq (ni_ct (s + 1)).2 3))) = true := by decide +kernel
theorem ni_o8_1 {s : Nat} (hs : ni_us s = true) (hk : ni_kd s = 8) : ni_us (s + 1) = true ∧ ni_kd (s + 1) = 100 ∧ ni_ln (s + 1) = 216 ∧ ni_ct (s + 1) = (s, 3) := by
  have h := List.all_eq_true.mp ni_o8_1A s (List.mem_range.mpr (ni_usT hs).1)
  rw [hk, show Nat.beq 8 8 = true from rfl, Bool.not_true, Bool.false_or] at h
  simp only [Bool.and_eq_true, Nat.beq_eq] at h
  exact ⟨h.1.1.1, h.1.1.2, h.1.2, Prod.ext h.2.1 h.2.2⟩
theorem ni_o8_2A : ((List.range 374).all fun s => !(Nat.beq (ni_kd s) 8) || (ni_us (s + 2) && Nat.beq (ni_kd (s + 2)) 100 && Nat.beq (ni_ln (s + 2)) 216 && (Nat.beq (ni_ct (s + 2)).1 s && Nat.beq (ni_ct (s + 2)).2 3))) = true := by decide +kernel
theorem ni_o8_2 {s : Nat} (hs : ni_us s = true) (hk : ni_kd s = 8) : ni_us (s + 2) = true ∧ ni_kd (s + 2) = 100 ∧ ni_ln (s + 2) = 216 ∧ ni_ct (s + 2) = (s, 3) := by
  have h := List.all_eq_true.mp ni_o8_2A s (List.mem_range.mpr (ni_usT hs).1)
  rw [hk, show Nat.beq 8 8 = true from rfl, Bool.not_true, Bool.false_or] at h
  simp only [Bool.and_eq_true, Nat.beq_eq] at h
  exact ⟨h.1.1.1, h.1.1.2, h.1.2, Prod.ext h.2.1 h.2.2⟩
theorem ni_o8_3A : ((List.range 374).all fun s => !(Nat.beq (ni_kd s) 8) || (ni_us (s + 3) && Nat.beq (ni_kd (s + 3)) 100 && Nat.beq (ni_ln (s + 3)) 216 && (Nat.beq (ni_ct (s + 3)).1 s && Nat.beq (ni_ct (s + 3)).2 3))) = true := by decide +kernel
theorem ni_o8_3 {s : Nat} (hs : ni_us s = true) (hk : ni_kd s = 8) : ni_us (s + 3) = true ∧ ni_kd (s + 3) = 100 ∧ ni_ln (s + 3) = 216 ∧ ni_ct (s + 3) = (s, 3) := by
  have h := List.all_eq_true.mp ni_o8_3A s (List.mem_range.mpr (ni_usT hs).1)
  rw [hk, show Nat.beq 8 8 = true from rfl, Bool.not_true, Bool.false_or] at h
  simp only [Bool.and_eq_true, Nat.beq_eq] at h
  exact ⟨h.1.1.1, h.1.1.2, h.1.2, Prod.ext h.2.1 h.2.2⟩
theorem ni_o6_1A : ((List.range 374).all fun s => !(Nat.beq (ni_kd s) 6) || (ni_us (s + 1) && Nat.beq (ni_kd (s + 1)) 100 && Nat.beq (ni_ln (s + 1)) 24 && (Nat.beq (ni_ct (s + 1)).1 s && Nat.beq (ni_ct (s + 1)).2 3))) = true := by decide +kernel
theorem ni_o6_1 {s : Nat} (hs : ni_us s = true) (hk : ni_kd s = 6) : ni_us (s + 1) = true ∧ ni_kd (s + 1) = 100 ∧ ni_ln (s + 1) = 24 ∧ ni_ct (s + 1) = (s, 3) := by
  have h := List.all_eq_true.mp ni_o6_1A s (List.mem_range.mpr (ni_usT hs).1)
  rw [hk, show Nat.beq 6 6 = true from rfl, Bool.not_true, Bool.false_or] at h
  simp only [Bool.and_eq_true, Nat.beq_eq] at h
  exact ⟨h.1.1.1, h.1.1.2, h.1.2, Prod.ext h.2.1 h.2.2⟩
theorem ni_o6_2A : ((List.range 374).all fun s => !(Nat.beq (ni_kd s) 6) || (ni_us (s + 2) && Nat.beq (ni_kd (s + 2)) 100 && Nat.beq (ni_ln (s + 2)) 24 && (Nat.beq (ni_ct (s + 2)).1 s && Nat.beq (ni_ct (s + 2)).2 3))) = true := by decide +kernel
theorem ni_o6_2 {s : Nat} (hs : ni_us s = true) (hk : ni_kd s = 6) : ni_us (s + 2) = true ∧ ni_kd (s + 2) = 100 ∧ ni_ln (s + 2) = 24 ∧ ni_ct (s + 2) = (s, 3) := by
  have h := List.all_eq_true.mp ni_o6_2A s (List.mem_range.mpr (ni_usT hs).1)
  rw [hk, show Nat.beq 6 6 = true from rfl, Bool.not_true, Bool.false_or] at h
  simp only [Bool.and_eq_true, Nat.beq_eq] at h
  exact ⟨h.1.1.1, h.1.1.2, h.1.2, Prod.ext h.2.1 h.2.2⟩
theorem ni_o6_3A : ((List.range 374).all fun s => !(Nat.beq (ni_kd s) 6) || (ni_us (s + 3) && Nat.beq (ni_kd (s + 3)) 100 && Nat.beq (ni_ln (s + 3)) 24 && (Nat.beq (ni_ct (s + 3)).1 s && Nat.beq (ni_ct (s + 3)).2 3))) = true := by decide +kernel
theorem ni_o6_3 {s : Nat} (hs : ni_us s = true) (hk : ni_kd s = 6) : ni_us (s + 3) = true ∧ ni_kd (s + 3) = 100 ∧ ni_ln (s + 3) = 24 ∧ ni_ct (s + 3) = (s, 3) := by
  have h := List.all_eq_true.mp ni_o6_3A s (List.mem_range.mpr (ni_usT hs).1)
  rw [hk, show Nat.beq 6 6 = true from rfl, Bool.not_true, Bool.false_or] at h
  simp only [Bool.and_eq_true, Nat.beq_eq] at h
  exact ⟨h.1.1.1, h.1.1.2, h.1.2, Prod.ext h.2.1 h.2.2⟩
theorem ni_o2_1A : ((List.range 374).all fun s => !(Nat.beq (ni_kd s) 2) || (ni_us (s + 1) && Nat.beq (ni_kd (s + 1)) 104 && Nat.beq (ni_ln (s + 1)) 0 && (Nat.beq (ni_ct (s + 1)).1 s && Nat.beq (ni_ct (s + 1)).2 2))) = true := by decide +kernel
theorem ni_o2_1 {s : Nat} (hs : ni_us s = true) (hk : ni_kd s = 2) : ni_us (s + 1) = true ∧ ni_kd (s + 1) = 104 ∧ ni_ln (s + 1) = 0 ∧ ni_ct (s + 1) = (s, 2) := by
  have h := List.all_eq_true.mp ni_o2_1A s (List.mem_range.mpr (ni_usT hs).1)
  rw [hk, show Nat.beq 2 2 = true from rfl, Bool.not_true, Bool.false_or] at h
  simp only [Bool.and_eq_true, Nat.beq_eq] at h
  exact ⟨h.1.1.1, h.1.1.2, h.1.2, Prod.ext h.2.1 h.2.2⟩
theorem ni_o2_2A : ((List.range 374).all fun s => !(Nat.beq (ni_kd s) 2) || (ni_us (s + 2) && Nat.beq (ni_kd (s + 2)) 100 && Nat.beq (ni_ln (s + 2)) 0 && (Nat.beq (ni_ct (s + 2)).1 s && Nat.beq (ni_ct (s + 2)).2 2))) = true := by decide +kernel
theorem ni_o2_2 {s : Nat} (hs : ni_us s = true) (hk : ni_kd s = 2) : ni_us (s + 2) = true ∧ ni_kd (s + 2) = 100 ∧ ni_ln (s + 2) = 0 ∧ ni_ct (s + 2) = (s, 2) := by
  have h := List.all_eq_true.mp ni_o2_2A s (List.mem_range.mpr (ni_usT hs).1)
  rw [hk, show Nat.beq 2 2 = true from rfl, Bool.not_true, Bool.false_or] at h
  simp only [Bool.and_eq_true, Nat.beq_eq] at h
  exact ⟨h.1.1.1, h.1.1.2, h.1.2, Prod.ext h.2.1 h.2.2⟩
end NWT
