/-! CALLS OF THE LAW, AND WHAT THEY LEAVE -/
section NST2
variable {xs : List Int32} {St : Nat → Option ni_C} {M : ni_H} {A A' B : Nat → Nat → Int} {own : Nat → Int} {c z n nl la : Nat} {w e : Int} {vs : List Value}
theorem lz_netI {p : Int} {r k : Nat} (h : nq_Inv St own A e) (hn : A 4 3 = k) (hn24 : k < 24) (hr : r < 8) (hp : 0 ≤ p ∧ p < 2097152 ∧ p % 32 ≤ 16) (hA : A' = ni_u2 (ni_u2 (ni_u2 (ni_u2 A 5 k r) 6 k p) 7 k (-1)) 4 3 ((k : Int) + 1)) : nq_Inv St own A' e ∧ ∀ s j, ¬ (s = 4 ∧ j = 3) → ¬ ((s = 5 ∨ s = 6 ∨ s = 7) ∧ j = k) → A' s j = A s j := by
  have u : ∀ s j, ¬ (s = 4 ∧ j = 3) → ¬ ((s = 5 ∨ s = 6 ∨ s = 7) ∧ j = k) → A' s j = A s j := fun s j g1 g2 => by rw [hA, ni_u2n (by omega), ni_u2n (by omega), ni_u2n (by omega), ni_u2n (by omega)]
  have u43 : A' 4 3 = (k : Int) + 1 := by rw [hA]; exact ni_u2e
  have u5 : A' 5 k = r := by rw [hA, ni_u2n (by omega), ni_u2n (by omega), ni_u2n (by omega)]; exact ni_u2e
  have u6 : A' 6 k = p := by rw [hA, ni_u2n (by omega), ni_u2n (by omega)]; exact ni_u2e
  have u7 : A' 7 k = -1 := by rw [hA, ni_u2n (by omega)]; exact ni_u2e
  refine ⟨?_, u⟩
  obtain ⟨hNI, hC, hLE, hLD, hLV, hlc, hLA, hRK, hRT, ⟨hPN, hPS, hSS⟩, hdead⟩ := h
  have hl : ∀ s j, 8 ≤ s → A' s j = A s j := fun s j h1 => u s j (by omega) (by omega)
  have h0 : ∀ j, A' 0 j = A 0 j := fun j => u 0 j (by omega) (by omega)
  have hk : ∀ l j : Nat, l < 14 → A' (48 + 17 * l) j = A (48 + 17 * l) j := fun l j _ => hl _ _ (by omega)
  refine ⟨nq_NIs hNI (fun s j hs => by rcases hs with z | z; rw [z]; exact h0 j; exact hl s j (by omega)), ⟨ni_LBf hC.1 hk, fun f hf hfc => ?_, by rw [h0]; exact hC.2.2.1, fun q hq hqc => ?_⟩, fun l hl1 hl2 => ?_, fun l hl1 hl2 => ?_, ni_LVf hLV hk, by rw [h0]; exact hlc, nq_LAf hLA (fun s j hs => hl s j (by unfold ni_isL at hs; omega)), fun q hq hqc => ?_, fun q hq hqc => ?_, ⟨⟨by rw [u43]; omega, fun i hi => ?_⟩, ni_PLf hPS (fun j hj k => hl _ _ (by omega)), fun i hi => ?_⟩, fun l hl1 hl2 => ?_⟩
  · rw [h0] at hfc
    have := hC.2.1 f hf hfc
    rw [hl _ 0 (by omega), hl _ 2 (by omega), hl _ 3 (by omega), hl _ 4 (by omega), hl _ 5 (by omega), hl _ 6 (by omega), hl _ 7 (by omega), hl _ 8 (by omega), h0]
    exact this
  · rw [h0] at hqc
    have := hC.2.2.2 q hq hqc
    unfold ni_TI at this ⊢
    rw [hl _ 3 (by omega)]
    refine ⟨this.1, fun i hi => ?_⟩
    rw [hl _ i (by omega), hl _ i (by omega), hl _ i (by omega)]
    exact this.2 i hi
  · rw [h0] at hl2
    rw [hk l 0 hl1, hk l 1 hl1, h0]
    exact hLE l hl1 hl2
  · rw [hk l 5 hl1] at hl2
    rw [hk l 4 hl1]
    exact hLD l hl1 hl2
  · rw [h0] at hqc
    obtain ⟨a1, a2⟩ := hRK q hq hqc
    refine ⟨fun o ho => ?_, by rw [hl _ _ (by omega)]; exact a2⟩
    rw [hl _ _ (by omega)]
    exact a1 o ho
  · rw [h0] at hqc
    obtain ⟨a1, a2, a3, a4⟩ := hRT q hq hqc
    exact ⟨by rw [hl _ _ (by omega)]; exact a1, by rw [hl _ _ (by omega)]; exact a2, nq_RDc a3 (hl _ _ (by omega)) (fun o => hl _ _ (by omega)) (fun o => hl _ _ (by omega)), nq_TSc a4 (hl _ _ (by omega)) (fun o => hl _ _ (by omega)) (fun o => hl _ _ (by omega)) (fun o => hl _ _ (by omega))⟩
  · show (0 ≤ A' 5 i ∧ A' 5 i < 8) ∧ (0 ≤ A' 6 i ∧ A' 6 i < 2097152 ∧ A' 6 i % 32 ≤ 16) ∧ (-1 ≤ A' 7 i ∧ A' 7 i < 14)
    rw [u43] at hi
    by_cases c : i = k
    · rw [c, u5, u6, u7]
      omega
    · rw [u 5 i (by omega) (by omega), u 6 i (by omega) (by omega), u 7 i (by omega) (by omega)]
      exact hPN.2 i (by omega)
  · rw [hl _ _ (by omega)] at hi
    rw [hl _ _ (by omega)]
    exact hSS i hi
  · rw [h0] at hl2
    rw [hk l 5 hl1, hl _ _ (by omega), hl _ _ (by omega)]
    exact hdead l hl1 hl2
/-- the law's state: its object, its links' rows -/
def lz_4 (n nl la c z : Nat) (w : Int) (vs : List Value) (St : Nat → Option ni_C) (own : Nat → Int) (A B : Nat → Nat → Int) (e : Int) (M : ni_H) : Prop := lz_R St M A B c z ∧ nq_Inv St own A e ∧ nq_CO A ∧ (∀ x, own x ≤ w) ∧ (A 0 1 = n ∧ A 0 2 = nl) ∧ (la ≠ 0 ∧ St la = some (105, vs) ∧ vs.length = nl) ∧ ∀ l : Nat, l < nl → lz_k St A vs l
theorem lz_m (hR : lz_R St M A B c z) : St 0 = some (9, [.ref (na_1 0), .ref (na_2 0)]) ∧ M.1[0]? = some (9, [.ref 1, .ref 375]) := by
  obtain ⟨rw, cp, rw', cp', r1, r2, r3, r4, r5, r6⟩ := hR
  exact ⟨r6, (r1.2.2.2.2.1 _ _ r6).1⟩
/-- a call that writes letters -/
theorem lz_X {d y k : Nat} {as : List Value} {U : Option Value → Prop} {P : (Nat → Nat → Int) → Int → Prop} (hS : lz_4 n nl la c z w vs St own A B e M) (hx : ∀ rw cp : Nat → Nat, ni_Rep St M na_1 rw cp A (ni_live A) → M.1.length + 57350 ≤ 900000 + ni_gz cp → wp_C xs d y as M (fun u M' => U u ∧ ∃ A1 e1, P A1 e1 ∧ nx_Q St own A1 e1 k M na_1 rw cp M')) (hc : c + 3 * k ≤ 100000) (hP : ∀ A1 e1, P A1 e1 → nq_CO A1 ∧ A1 0 1 = n ∧ A1 0 2 = nl ∧ ∀ l : Nat, l < nl → l < 14 → A1 (48 + 17 * l) 0 = A (48 + 17 * l) 0 ∧ A1 (48 + 17 * l) 4 = A (48 + 17 * l) 4) : wp_C xs d y as M (fun u M' => U u ∧ ∃ A1 e1, P A1 e1 ∧ ∃ St' own' A', lz_4 n nl la (c + 3 * k) (z + 43 * k) (w + k) vs St' own' A' B e1 M' ∧ nq_fr1 A1 A' ∧ ∀ q, ni_ln0 q → 48 + 17 * A1 0 2 ≤ q → A' q 2 = A1 q 2) := by
  obtain ⟨hR, hI, hCO, hown, hcn, hla, hvs⟩ := hS
  obtain ⟨rw, cp, rw', cp', r1, r2, r3, r4, r5, r6⟩ := hR
  have b1 := np_gz r1.2.2.1
  have b2 := np_gz r2.2.2.1
  refine wp_mono (hx rw cp r1 (by omega)) ?_
  rintro u M' ⟨hu, A1, e1, hA1, hQ⟩
  obtain ⟨p1, p2, p3, p4⟩ := hP A1 e1 hA1
  obtain ⟨S', own', A4, q1, q2, q3, q4, q5, q6⟩ := lz_x r1 r2 r3 r4 r5 r6 hc hQ
  have fl := nx_fl q3
  have h14 := hI.2.2.2.2.2.1.2
  refine ⟨hu, A1, e1, hA1, S', own', A4, ⟨q1, q2, nx_COf p1 q3, fun x => by have := q6 x; have := hown x; omega, ⟨by rw [fl.1]; exact p2, by rw [fl.1]; exact p3⟩, ⟨hla.1, q5 _ _ hla.2.1, hla.2.2⟩, fun l hl => ?_⟩, q3, q4⟩
  obtain ⟨x, ws, v1, v2, v3, v4⟩ := hvs l hl
  refine ⟨x, ws, v1, q5 _ _ v2, ?_, ?_⟩
  · rw [fl.2.1 l 0 (by omega), (p4 l hl (by omega)).1]
    exact v3
  · rw [fl.2.1 l 4 (by omega), (p4 l hl (by omega)).2]
    exact v4
/-- a call that writes none -/
theorem lz_F {d y : Nat} {as : List ni_a} {P : Option ni_a → (Nat → Nat → Int) → Prop} {e1 : Int} (hS : lz_4 n nl la c z w vs St own A B e M) (hF : nf_F xs St (fun a => a 0 = na_1 0) d y as A P) (hc : c ≤ 100000) (hP : ∀ v A', P v A' → nq_Inv St own A' e1 ∧ nq_CO A' ∧ A' 0 1 = n ∧ A' 0 2 = nl ∧ ∀ l : Nat, l < nl → A' (48 + 17 * l) 0 = A (48 + 17 * l) 0 ∧ A' (48 + 17 * l) 4 = A (48 + 17 * l) 4) : wp_C xs d y (as.map (ni_dn na_1 na_1)) M (fun u M' => ∃ v A', P v A' ∧ u = v.map (ni_dn na_1 na_1) ∧ lz_4 n nl la c z w vs St own A' B e1 M') := by
  obtain ⟨hR, hI, hCO, hown, hcn, hla, hvs⟩ := hS
  obtain ⟨v, A', h1, h2⟩ := lz_f (c := c) (z := z) hF hc
  obtain ⟨p1, p2, p3, p4, p5⟩ := hP v A' h1
  refine wp_mono (h2 B M hR) ?_
  rintro u M' ⟨hu, hR'⟩
  refine ⟨v, A', h1, hu, hR', p1, p2, hown, ⟨p3, p4⟩, hla, fun l hl => ?_⟩
  obtain ⟨x, ws, v1, v2, v3, v4⟩ := hvs l hl
  exact ⟨x, ws, v1, v2, by rw [(p5 l hl).1]; exact v3, by rw [(p5 l hl).2]; exact v4⟩
theorem lz_al {f : Int} : ∀ k : Nat, 8 ≤ k → k ≤ 12 → f * 4096 % 2 ^ k = 0 := fun k h1 h2 => by
  have : k = 8 ∨ k = 9 ∨ k = 10 ∨ k = 11 ∨ k = 12 := by omega
  rcases this with r | r | r | r | r <;> subst r
  · show f * 4096 % 256 = 0
    omega
  · show f * 4096 % 512 = 0
    omega
  · show f * 4096 % 1024 = 0
    omega
  · show f * 4096 % 2048 = 0
    omega
  · show f * 4096 % 4096 = 0
    omega
/-- while flows come: nn networks, f flows -/
def lz_3 (n nl la c z : Nat) (w : Int) (vs : List Value) (nn f : Nat) (A : Nat → Nat → Int) (M : ni_H) : Prop := ∃ (St : Nat → Option ni_C) (own : Nat → Int), lz_4 n nl la c z w vs St own A (na_A 1) 0 M ∧ na_Fr A ∧ A 0 0 = 0 ∧ A 0 3 = f ∧ A 8 3 = 0 ∧ A 4 3 = nn ∧ ∀ g : Nat, g < nn → A 6 g / 131072 = g
theorem lz_3n {r b : Int} {f : Nat} (hS : lz_3 n nl la c z w vs f f A M) (hn : n ≤ 8) (hf : f < 4) (hc : c + 3 ≤ 100000) (hw : w ≤ 800000) (hr : 0 ≤ r ∧ r < n) (hb : 0 ≤ b ∧ b < 5) : wp_C xs 25 3 [.ref 0, ni_z r, ni_z ((f : Int) * 4096), ni_z (4 + b)] M (fun u M' => (∃ x : Int, u = some (ni_z x)) ∧ ∃ A', lz_3 n nl la (c + 3) (z + 43) (w + 1) vs (f + 1) f A' M') := by
  obtain ⟨St, own, hS, hFr, h00, h03, h83, h43, h6⟩ := hS
  have hS' := hS
  obtain ⟨hR, hI, hCO, hown, hcn, hla, hvs⟩ := hS
  obtain ⟨r', hr'⟩ := Int.eq_ofNat_of_zero_le hr.1
  subst hr'
  have hPN := hI.2.2.2.2.2.2.2.2.2.1.1
  obtain ⟨A1, hA1⟩ : ∃ A1, A1 = ni_u2 (ni_u2 (ni_u2 (ni_u2 A 5 f r') 6 f ((f : Int) * 4096 * 32 + (4 + b))) 7 f (-1)) 4 3 ((f : Int) + 1) := ⟨_, rfl⟩
  obtain ⟨i1, u1⟩ := lz_netI (p := (f : Int) * 4096 * 32 + (4 + b)) (r := r') hI h43 (by omega) (by omega) (by omega) hA1
  have co1 : nq_CO A1 := fun l hl hl2 => by
    rw [u1 0 2 (by omega) (by omega)] at hl2
    rw [u1 _ _ (by omega) (by omega)]
    exact hCO l hl hl2
  have u43 : A1 4 3 = (f : Int) + 1 := by rw [hA1]; exact ni_u2e
  have u6 : A1 6 f = (f : Int) * 4096 * 32 + (4 + b) := by rw [hA1, ni_u2n (by omega), ni_u2n (by omega)]; exact ni_u2e
  have g := lz_X (xs := xs) (d := 25) (y := 3) (k := 1) (as := [.ref 0, ni_z (r' : Int), ni_z ((f : Int) * 4096), ni_z (4 + b)]) (U := fun u => ∃ x : Int, u = some (ni_z x)) (P := fun A2 e2 => A2 = A1 ∧ e2 = 0) hS' (fun rw cp hRep hlen => by
    have g := fx_addNetwork (xs := xs) (e := 0) (a := (f : Int) * 4096) (b := 4 + b) (r := r') (n := f) (k := (12 - b).toNat) (m := 0) (n1 := 375) (own := own) (ad := na_1) (lz_m hR).1 hRep (fun x => by have := hown x; omega) hlen (by omega) (by omega) (by omega) (by omega) (by omega) (by omega) (lz_al _ (by omega) (by omega)) h43 (by omega) hPN (fun i hi => by have := h6 i hi; omega) (by rw [← hA1]; exact i1) (by rw [← hA1]; exact co1)
    rw [← hA1] at g
    exact wp_mono g (fun u M' hu => ⟨hu.1, A1, 0, ⟨rfl, rfl⟩, hu.2⟩)) (by omega) (fun A2 e2 h2 => by
    obtain ⟨h2, _⟩ := h2
    rw [h2]
    exact ⟨co1, by rw [u1 _ _ (by omega) (by omega)]; exact hcn.1, by rw [u1 _ _ (by omega) (by omega)]; exact hcn.2, fun l _ _ => ⟨u1 _ _ (by omega) (by omega), u1 _ _ (by omega) (by omega)⟩⟩)
  refine wp_mono g ?_
  rintro u M' ⟨hu, A2, e2, ⟨hA2, he2⟩, S', own', A', q1, q2, q3⟩
  subst hA2 he2
  have fl := nx_fl q2
  have low : ∀ s j, s < 12 → A' s j = A2 s j := fun s j hs => fl.2.2 s j (by omega)
  refine ⟨hu, A', S', own', q1, nx_ddF (by rw [u1 _ _ (by omega) (by omega)]; omega) q2 q3 (fun s j hs => ?_), ?_, ?_, ?_, ?_, fun g hg => ?_⟩
  · have hs' : nq_dead A s := by
      unfold nq_dead at hs ⊢
      rw [u1 _ _ (by omega) (by omega), u1 _ _ (by omega) (by omega), u1 _ _ (by omega) (by omega)] at hs
      exact hs
    have hs2 := hs'
    unfold nq_dead at hs2
    rw [u1 s j (by omega) (by omega)]
    exact hFr s j hs'
  · rw [low 0 0 (by omega), u1 _ _ (by omega) (by omega)]; exact h00
  · rw [low 0 3 (by omega), u1 _ _ (by omega) (by omega)]; exact h03
  · rw [low 8 3 (by omega), u1 _ _ (by omega) (by omega)]; exact h83
  · rw [low 4 3 (by omega), u43]; omega
  · rw [low 6 g (by omega)]
    by_cases e : g = f
    · rw [e, u6]
      omega
    · rw [u1 6 g (by omega) (by omega)]
      exact h6 g (by omega)
theorem lz_3f {r a b k : Int} {nn f : Nat} (hS : lz_3 n nl la c z w vs nn f A M) (hn : n ≤ 8) (hf : f < 12) (hc : c ≤ 100000) (hr : 0 ≤ r ∧ r < n) (ha : 0 ≤ a ∧ a ≤ 65535) (hb : 20 ≤ b ∧ b ≤ 500) (hk : 0 ≤ k ∧ k ≤ 3) : wp_C xs 25 1 [.ref 0, ni_z r, ni_z a, ni_z b, ni_z k] M (fun u M' => (∃ x : Int, u = some (ni_z x)) ∧ ∃ A', lz_3 n nl la c z w vs nn (f + 1) A' M' ∧ A' (12 + 3 * f) 4 = -1 ∧ A' (12 + 3 * f) 2 = b) := by
  obtain ⟨St, own, hS, hFr, h00, h03, h83, h43, h6⟩ := hS
  have hS' := hS
  obtain ⟨hR, hI, hCO, hown, hcn, hla, hvs⟩ := hS
  obtain ⟨r', hr'⟩ := Int.eq_ofNat_of_zero_le hr.1
  subst hr'
  have hrc := hI.2.1.2.2.1
  obtain ⟨A1, hA1⟩ : ∃ A1, A1 = ni_u2 (ni_u2 (ni_u2 (ni_u2 (ni_u2 A (12 + 3 * f) 0 r') (12 + 3 * f) 1 a) (12 + 3 * f) 2 b) (12 + 3 * f) 3 k) 0 3 ((f : Int) + 1) := ⟨_, rfl⟩
  obtain ⟨i1, f1, x4⟩ := na_flwI (a := a) hI hFr hf h03 (r := (r' : Int)) (by omega) hb hk hA1
  have u : ∀ s j, ¬ (s = 0 ∧ j = 3) → ¬ (s = 12 + 3 * f ∧ j < 4) → A1 s j = A s j := fun s j g1 g2 => by rw [hA1, ni_u2n (by omega), ni_u2n (by omega), ni_u2n (by omega), ni_u2n (by omega), ni_u2n (by omega)]
  have g := lz_F (xs := xs) (e1 := 0) hS' (fc_addFlow (xs := xs) (A := A) (Z := fun a => a 0 = na_1 0) (lz_m hR).1 (fun _ hz => hz) (r := r') (f := f) (b := a) (c := b) (d := k) (by omega) (by omega) hrc.2 hf h03 ha hb hk) hc (fun v A2 h2 => by
    rw [h2.2, ← hA1]
    refine ⟨i1, fun l hl hl2 => ?_, by rw [u _ _ (by omega) (by omega)]; exact hcn.1, by rw [u _ _ (by omega) (by omega)]; exact hcn.2, fun l hl => ⟨u _ _ (by omega) (by omega), u _ _ (by omega) (by omega)⟩⟩
    rw [u 0 2 (by omega) (by omega)] at hl2
    rw [u _ _ (by omega) (by omega)]
    exact hCO l hl hl2)
  refine wp_mono g ?_
  rintro w' M' ⟨v, A2, h2, hu, hS2⟩
  rw [h2.2, ← hA1] at hS2
  refine ⟨⟨(f : Int), by rw [hu, h2.1]; rfl⟩, A1, ⟨St, own, hS2, f1, ?_, ?_, ?_, ?_, fun g hg => ?_⟩, x4, ?_⟩
  · rw [u _ _ (by omega) (by omega)]; exact h00
  · rw [hA1]; exact ni_u2e
  · rw [u _ _ (by omega) (by omega)]; exact h83
  · rw [u _ _ (by omega) (by omega)]; exact h43
  · rw [u _ _ (by omega) (by omega)]
    exact h6 g hg
  · rw [hA1, ni_u2n (by omega), ni_u2n (by omega)]; exact ni_u2e
theorem lz_3s {a b k : Int} {nn f : Nat} (hS : lz_3 n nl la c z w vs nn (f + 1) A M) (hf : f < 12) (hc : c ≤ 100000) (h4 : A (12 + 3 * f) 4 = -1) (ha : 0 ≤ a ∧ a ≤ 5000) (hb : 1 ≤ b ∧ b ≤ 50) (hk : 1 ≤ k ∧ k ≤ 60) : wp_C xs 25 37 [.ref 0, ni_z (f : Int), ni_z a, ni_z b, ni_z k] M (fun u M' => (∃ x : Int, u = some (ni_z x)) ∧ ∃ A', lz_3 n nl la c z w vs nn (f + 1) A' M' ∧ A' (12 + 3 * f) 2 = A (12 + 3 * f) 2) := by
  obtain ⟨St, own, hS, hFr, h00, h03, h83, h43, h6⟩ := hS
  have hS' := hS
  obtain ⟨hR, hI, hCO, hown, hcn, hla, hvs⟩ := hS
  obtain ⟨A1, hA1⟩ : ∃ A1, A1 = ni_u2 (ni_u2 (ni_u2 A (12 + 3 * f) 4 a) (12 + 3 * f) 5 b) (12 + 3 * f) 6 k := ⟨_, rfl⟩
  have i1 := nq_schedule (a := a) (b := b) (c := k) hI hf (by omega) (by omega) (by omega) hb hk h4
  rw [← hA1] at i1
  have u : ∀ s j, ¬ (s = 12 + 3 * f ∧ 4 ≤ j ∧ j ≤ 6) → A1 s j = A s j := fun s j g1 => by rw [hA1, ni_u2n (by omega), ni_u2n (by omega), ni_u2n (by omega)]
  have g := lz_F (xs := xs) (e1 := 0) hS' (fc_schedule (xs := xs) (A := A) (Z := fun a => a 0 = na_1 0) (lz_m hR).1 (fun _ hz => hz) (f := f) (a := a) (b := b) (c := k) hf (by omega) hI.1.1.2 hI.1.2.1 (by omega) hb hk h4) hc (fun v A2 h2 => by
    rw [h2.2, ← hA1]
    refine ⟨i1, fun l hl hl2 => ?_, by rw [u _ _ (by omega)]; exact hcn.1, by rw [u _ _ (by omega)]; exact hcn.2, fun l hl => ⟨u _ _ (by omega), u _ _ (by omega)⟩⟩
    rw [u 0 2 (by omega)] at hl2
    rw [u _ _ (by omega)]
    exact hCO l hl hl2)
  refine wp_mono g ?_
  rintro w' M' ⟨v, A2, h2, hu, hS2⟩
  rw [h2.2, ← hA1] at hS2
  obtain ⟨x, hx⟩ := h2.1
  refine ⟨⟨x, by rw [hu, hx]; rfl⟩, A1, ⟨St, own, hS2, fun s j hd => ?_, ?_, ?_, ?_, ?_, fun g hg => ?_⟩, u _ _ (by omega)⟩
  · have hd2 := hd
    unfold nq_dead at hd2
    rw [u 0 1 (by omega), u 0 2 (by omega), u 0 3 (by omega)] at hd2
    rw [u s j (by omega)]
    exact hFr s j hd2
  · rw [u _ _ (by omega)]; exact h00
  · rw [u _ _ (by omega)]; exact h03
  · rw [u _ _ (by omega)]; exact h83
  · rw [u _ _ (by omega)]; exact h43
  · rw [u _ _ (by omega)]
    exact h6 g hg
theorem lz_3h {a b : Int} {nn f : Nat} (hS : lz_3 n nl la c z w vs nn (f + 1) A M) (hf : f < 12) (hc : c ≤ 100000) (ha : 1 ≤ a ∧ a ≤ 500) (hb : A (12 + 3 * f) 2 ≤ b ∧ b ≤ 5000) : wp_C xs 25 44 [.ref 0, ni_z (f : Int), ni_z a, ni_z b] M (fun u M' => (∃ x : Int, u = some (ni_z x)) ∧ ∃ A', lz_3 n nl la c z w vs nn (f + 1) A' M') := by
  obtain ⟨St, own, hS, hFr, h00, h03, h83, h43, h6⟩ := hS
  have hS' := hS
  obtain ⟨hR, hI, hCO, hown, hcn, hla, hvs⟩ := hS
  obtain ⟨A1, hA1⟩ : ∃ A1, A1 = ni_u2 (ni_u2 (ni_u2 A (12 + 3 * f) 7 a) (12 + 3 * f) 8 b) (12 + 3 * f) 9 b := ⟨_, rfl⟩
  have i1 := nq_shape (a := a) (b := b) hI hf (by omega) ha hb
  rw [← hA1] at i1
  have h2c := hI.2.1.2.1 f hf (by omega)
  have u : ∀ s j, ¬ (s = 12 + 3 * f ∧ 7 ≤ j ∧ j ≤ 9) → A1 s j = A s j := fun s j g1 => by rw [hA1, ni_u2n (by omega), ni_u2n (by omega), ni_u2n (by omega)]
  have g := lz_F (xs := xs) (e1 := 0) hS' (fc_shape (xs := xs) (A := A) (Z := fun a => a 0 = na_1 0) (lz_m hR).1 (fun _ hz => hz) (f := f) (a := a) (b := b) hf (by omega) hI.1.1.2 ha hb (by omega)) hc (fun v A2 h2 => by
    rw [h2.2, ← hA1]
    refine ⟨i1, fun l hl hl2 => ?_, by rw [u _ _ (by omega)]; exact hcn.1, by rw [u _ _ (by omega)]; exact hcn.2, fun l hl => ⟨u _ _ (by omega), u _ _ (by omega)⟩⟩
    rw [u 0 2 (by omega)] at hl2
    rw [u _ _ (by omega)]
    exact hCO l hl hl2)
  refine wp_mono g ?_
  rintro w' M' ⟨v, A2, h2, hu, hS2⟩
  rw [h2.2, ← hA1] at hS2
  obtain ⟨x, hx⟩ := h2.1
  refine ⟨⟨x, by rw [hu, hx]; rfl⟩, A1, ⟨St, own, hS2, fun s j hd => ?_, ?_, ?_, ?_, ?_, fun g hg => ?_⟩⟩
  · have hd2 := hd
    unfold nq_dead at hd2
    rw [u 0 1 (by omega), u 0 2 (by omega), u 0 3 (by omega)] at hd2
    rw [u s j (by omega)]
    exact hFr s j hd2
  · rw [u _ _ (by omega)]; exact h00
  · rw [u _ _ (by omega)]; exact h03
  · rw [u _ _ (by omega)]; exact h83
  · rw [u _ _ (by omega)]; exact h43
  · rw [u _ _ (by omega)]
    exact h6 g hg
/-- links are done: flows may come -/
theorem lz_23 {la : Nat} (h : lz_2 n nl nl la M) (h14 : nl ≤ 14) : ∃ vs A, lz_3 n nl la 600 46000 100 vs 0 0 A M := by
  obtain ⟨St, own, A, vs, hR, hI, hCO, hF, hown, hc, hla0, hla, hvl, hvs⟩ := h
  refine ⟨vs, A, St, own, ⟨?_, hI, hCO, fun x => by have := hown x; omega, ⟨hc.2.1, hc.2.2.1⟩, ⟨hla0, hla, hvl⟩, hvs⟩, hF, hc.1, hc.2.2.2.1, hc.2.2.2.2.1, hc.2.2.2.2.2, fun g hg => by omega⟩
  obtain ⟨w1, w2, w3, w4, t1, t2, t3, t4, t5, t6⟩ := hR
  exact ⟨w1, w2, w3, w4, t1, t2, t3, by omega, by omega, t6⟩
end NST2
