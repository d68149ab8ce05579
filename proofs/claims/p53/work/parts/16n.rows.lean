/-! ROWS THAT GROW: how they are read -/
section NRW
variable {xs : List Int32} {St : Nat → Option ni_C} {M0 : ni_H} {ad rw0 cp0 : Nat → Nat} {d y pc q : Nat} {ls st : List Value} {M : ni_H} {rw cp : Nat → Nat} {A : Nat → Nat → Int} {L : Nat → Nat} {Q : Option Value → ni_H → Prop}
theorem ni_plR {s : Nat} (h : ni_lr s = true) : ni_pl ad rw s = rw s := by
  unfold ni_pl
  rw [h, cond_true]
/-- a row that grows is at most 2048 long -/
theorem ni_cpB (h : ni_cpO cp) {l : Nat} (hl : l ∈ ni_lns) : cp (l + 2) = cp (l + 1) ∧ 8 ≤ cp (l + 1) ∧ cp (l + 1) ≤ 2048 := by
  obtain ⟨h1, k, hk, h2⟩ := h.2 l hl
  refine ⟨h1, ?_, ?_⟩
  · rw [h2]
    have := Nat.one_le_two_pow (n := k)
    omega
  · rw [h2]
    have : 2 ^ k ≤ 2 ^ 8 := Nat.pow_le_pow_right (by omega) hk
    have e : (2 : Nat) ^ 8 = 256 := rfl
    omega
theorem ws_LenR {s t : Nat} (hp : ni_prog xs y pc = ni_sLen q) (h : ni_Sx St M0 ad rw0 cp0 M rw cp A L) (hs : ni_us s = true) (hk : ni_kd s = t) (hlr : ni_lr s = true) (ht : 100 ≤ t ∧ t - 100 < ni_aks.length) (k : wp_G xs d y q ls (ni_z (cp s : Int) :: st) M Q) : wp_G xs d y pc ls (.ref (rw s) :: st) M Q := by
  obtain ⟨vs, g1, g2, g3⟩ := h.1.2.1 s hs
  rw [ni_plR hlr, hk] at g1
  refine wp_Len hp g1 ht ?_ k
  rw [g2]
  rfl
theorem ws_AldR {ty : FieldType} {s t j : Nat} {i : Int} {tv : Nat} {v : Value} (hp : ni_prog xs y pc = ni_sAld ty tv q) (h : ni_Sx St M0 ad rw0 cp0 M rw cp A L) (hs : ni_us s = true) (hk : ni_kd s = t) (hlr : ni_lr s = true) (ht : 100 ≤ t ∧ ni_aks[t - 100]? = some ty) (hi : i = j) (hj : j < cp s) (hn : j < 1000000) (hL : j < L s) (hv : ni_vk t ad rw A s j = v) (hy : ni_ty v = tv) (k : wp_G xs d y q ls (v :: st) M Q) : wp_G xs d y pc ls (ni_z i :: .ref (rw s) :: st) M Q := by
  subst hi
  obtain ⟨vs, g1, g2, g3⟩ := h.1.2.1 s hs
  have hz := ni_clZ (x := (j : Int)) (by omega)
  have hg := g3 j hj hL
  rw [hk, hv] at hg
  rw [ni_plR hlr, hk] at g1
  refine wp_Ald hp g1 ⟨ht.1, ht.2, hz.1⟩ ?_ hy k
  rw [hz.2, Int.toNat_natCast]
  exact hg
theorem ws_QldR {s t j : Nat} {i : Int} {C : String} {v : Value} (hp : ni_prog xs y pc = ni_sQld q) (h : ni_Sx St M0 ad rw0 cp0 M rw cp A L) (hs : ni_us s = true) (hk : ni_kd s = t) (hlr : ni_lr s = true) (ht : 100 ≤ t ∧ ni_aks[t - 100]? = some (.object C)) (hi : i = j) (hj : j < cp s) (hn : j < 1000000) (hL : j < L s) (hv : ni_vk t ad rw A s j = v) (hy : ni_ty v = 3) (k : wp_G xs d y q ls (v :: st) M Q) : wp_G xs d y pc ls (ni_z i :: .ref (rw s) :: st) M Q := by
  subst hi
  obtain ⟨vs, g1, g2, g3⟩ := h.1.2.1 s hs
  have hz := ni_clZ (x := (j : Int)) (by omega)
  have hg := g3 j hj hL
  rw [hk, hv] at hg
  rw [ni_plR hlr, hk] at g1
  obtain ⟨u, M', ⟨f, h1⟩, h2⟩ := k
  refine ⟨u, M', ⟨f + 1, ?_⟩, h2⟩
  rw [ni_exS, hp]
  unfold ni_sQld
  simp only [g1]
  rw [if_pos ⟨ht.1, hz.1⟩, ht.2, hz.2, Int.toNat_natCast, hg]
  dsimp only
  rw [if_pos hy]
  exact h1
/-- a store of a whole number into a row that grows -/
theorem ws_AstR {s t j : Nat} {i x : Int} {L' : Nat → Nat} (hp : ni_prog xs y pc = ni_sAst .int 0 q) (h : ni_Sx St M0 ad rw0 cp0 M rw cp A L) (hs : ni_us s = true) (hk : ni_kd s = 100) (hlr : ni_lr s = true) (hi : i = j) (hj : j < cp s) (hn : j < 1000000) (hL : L' = L ∨ (L' = ni_u1 L s (j + 1) ∧ j = L s)) (k : ∀ M', ni_Sx St M0 ad rw0 cp0 M' rw cp (ni_u2 A s j x) L' → wp_G xs d y q ls st M' Q) : wp_G xs d y pc ls (ni_z x :: ni_z i :: .ref (rw s) :: st) M Q := by
  subst hi
  obtain ⟨vs, g1, g2, g3⟩ := h.1.2.1 s hs
  have hz := ni_clZ (x := (j : Int)) (by omega)
  have g1' := g1
  rw [ni_plR hlr, hk] at g1
  refine wp_Ast hp g1 ⟨by decide, rfl, hz.1, by rw [hz.2, Int.toNat_natCast]; omega, rfl, rfl⟩ rfl fun M' hM => k M' ⟨?_, ?_⟩
  · rw [hz.2, Int.toNat_natCast] at hM
    refine ni_repW (vs := vs) (w := ni_z x) h.1 hs g1' hj ?_ (by rw [ni_plR hlr, hk]; exact hM) hL (fun z => absurd z (by rw [hk]; decide))
    rw [hk]
    exact congrArg ni_z ni_u2e.symm
  · refine ni_kpW (c0 := (ni_kd s, vs)) h.2 hs g1' (by rw [ni_plR hlr]; exact hM) ?_
    exact List.length_set
end NRW
