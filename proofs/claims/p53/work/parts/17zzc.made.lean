/-! WHAT THE CONSTRUCTORS MAKE -/
section NMK
def ni_F0 : ni_C := (0, [.int 0, .int 0, .int 0, .int 0, .int 0, .int 0, .int 0, .int 0, .int 0, .int 0, .null, .int 0, .int 0, .int 0, .null, .int 0, .int 0, .int 0, .int 0])
def ni_R51 : List ni_C := [(0, [.int 0, .int 0, .int 0, .int 0, .int (-1), .int 0, .int 0, .int 0, .int 0, .int 0, .ref 1, .int 0, .int 0, .int 0, .ref 2, .int 0, .int (-1), .int (-1), .int 0]),
  (100, List.replicate 10 (.int 0)), (100, List.replicate 7 (.int 0))]
def ni_K0 : ni_C := (3, [.int 0, .int 0, .int 0, .int 0, .int 0, .int 0, .null, .null])
def ni_R69 : List ni_C := [(3, [.int 0, .int 0, .int 0, .int 0, .int 0, .int 0, .ref 1, .ref 9]),
  (5, [.ref 2, .int 0, .int 2000, .int 0, .int 0, .ref 6, .ref 7, .int 0, .int 0, .ref 8, .int 0, .int 0, .int (-1), .int 0]),
  (2, [.ref 3, .ref 4, .int 0, .ref 5, .int 0]),
  (104, List.replicate 8 (.null)),
  (100, List.replicate 8 (.int 0)),
  (100, List.replicate 21 (.int (-1))),
  (100, List.replicate 4 (.int 1)),
  (100, List.replicate 4 (.int 0)),
  (100, List.replicate 250 (.int 0)),
  (5, [.ref 10, .int 0, .int 2000, .int 0, .int 0, .ref 14, .ref 15, .int 0, .int 0, .ref 16, .int 0, .int 0, .int (-1), .int 0]),
  (2, [.ref 11, .ref 12, .int 0, .ref 13, .int 0]),
  (104, List.replicate 8 (.null)),
  (100, List.replicate 8 (.int 0)),
  (100, List.replicate 21 (.int (-1))),
  (100, List.replicate 4 (.int 1)),
  (100, List.replicate 4 (.int 0)),
  (100, List.replicate 250 (.int 0))]
def ni_X0 : ni_C := (6, [.null, .null, .null, .int 0])
def ni_R126 : List ni_C := [(6, [.ref 1, .ref 2, .ref 3, .int 0]), (100, List.replicate 24 (.int 0)), (100, List.replicate 24 (.int 0)), (100, List.replicate 24 (.int 0))]
set_option maxRecDepth 100000 in
theorem ni_t51 : ni_cl (ni_ex ni_prog0 1000) 4 51 [.ref 0] ([ni_F0], 0) = some (.inl none, (ni_R51, 0)) := by decide +kernel
set_option maxRecDepth 100000 in
theorem ni_t69 : ni_cl (ni_ex ni_prog0 1000) 4 69 [.ref 0] ([ni_K0], 0) = some (.inl none, (ni_R69, 0)) := by decide +kernel
set_option maxRecDepth 100000 in
theorem ni_t126 : ni_cl (ni_ex ni_prog0 1000) 4 126 [.ref 0, .int 24] ([ni_X0], 0) = some (.inl none, (ni_R126, 0)) := by decide +kernel
/-- the oracle of Net's constructor -/
def ni_or (y : Nat) (as : List Value) (H : ni_H) : Option ni_O := match y, as with
  | 51, [.ref a] => if H.1[a]? = some ni_F0 ∧ H.2 = 0 ∧ H.1.length ≤ 100000 ∧ a < ni_big then some (.inl none, ni_cry (ni_E1 a H.1.length) (fun _ => false) 1 ni_R51 H 0) else none
  | 69, [.ref a] => if H.1[a]? = some ni_K0 ∧ H.2 = 0 ∧ H.1.length ≤ 100000 ∧ a < ni_big then some (.inl none, ni_cry (ni_E1 a H.1.length) (fun _ => false) 1 ni_R69 H 0) else none
  | 126, [.ref a, .int 24] => if H.1[a]? = some ni_X0 ∧ H.2 = 0 ∧ H.1.length ≤ 100000 ∧ a < ni_big then some (.inl none, ni_cry (ni_E1 a H.1.length) (fun _ => false) 1 ni_R126 H 0) else none
  | y, as => ni_cl (ni_ex ni_prog0 400) 4 y as H
def ni_N0 : ni_C := (4, [.int 0, .int 0, .int 0, .int 0, .null, .null, .null, .null, .null])
/-- the state of a new Net whose places lie from b on, by marks -/
def na_v (c b s j : Nat) : Int := match c with
  | 0 => cond (Nat.beq j 4 || Nat.beq j 16 || Nat.beq j 17) (-1) 0
  | 5 => cond (Nat.beq j 2) 2000 (cond (Nat.beq j 12) (-1) 0)
  | 7 => cond (Nat.beq j 0) (((s - 286) / 11 : Nat) : Int) (cond (Nat.beq j 5) 1 0)
  | 100 => cond (Nat.blt s 286) (cond (Nat.blt s 48) 0 (cond (Nat.beq ((s - 48) % 17) 5 || Nat.beq ((s - 48) % 17) 13) (-1) (cond (Nat.beq ((s - 48) % 17) 6 || Nat.beq ((s - 48) % 17) 14) 1 0))) (cond (Nat.beq ((s - 286) % 11) 5) (cond (Nat.beq j ((s - 286) / 11)) 0 (-1)) 0)
  | 104 => cond (Nat.blt s 286) 0 ((b + s - 3 : Nat) : Int)
  | _ => 0
def na_A (b s j : Nat) : Int := na_v (ni_kd s) b s j
/-- as the constructor leaves a cell -/
def na_ck (c : ni_C) (s : Nat) : Bool := match c with
  | (t, vs) => cond (ni_us s) (Nat.beq t (ni_kd s) && (cond (ni_lr s) (Nat.beq vs.length 8 && (Nat.beq t 104 || (vs == List.replicate 8 (.int 0)))) (Nat.beq vs.length (ni_ln s) && (vs == (List.range (ni_ln s)).map (fun j => ni_vk t (fun k => k) (fun k => k) (fun s j => na_v t 0 s j) s j)))))
    (cond (Nat.blt s 286) true (cond (Nat.beq ((s - 286) % 11) 1) (Nat.beq t 1 && (vs == [ni_z (((s - 286) / 11 : Nat) : Int), .int 0, .int 0, .ref (s + 1), .ref (s + 2)])) (cond (Nat.beq ((s - 286) % 11) 2) (Nat.beq t 100 && (vs == List.replicate 14 (.int 0))) (Nat.beq t 100 && (vs == [])))))
def na_all : List ni_C → Nat → Bool
  | [], _ => true
  | c :: t, s => na_ck c s && na_all t (s + 1)
theorem na_allS : ∀ (L : List ni_C) (k s : Nat) (c : ni_C), na_all L k = true → L[s]? = some c → na_ck c (k + s) = true := by
  intro L
  induction L with
  | nil => intro k s c _ h; cases h
  | cons c0 t ih =>
    intro k s c ha h
    have ha' : (na_ck c0 k && na_all t (k + 1)) = true := ha
    rw [Bool.and_eq_true] at ha'
    cases s with
    | zero =>
      cases h
      exact ha'.1
    | succ s =>
      have := ih (k + 1) s c ha'.2 h
      rw [show k + 1 + s = k + (s + 1) by omega] at this
      exact this
def ni_nC (o : Option ni_O) : Bool := match o with
  | some (.inl none, (L, 0)) => Nat.ble (L.map (fun c => c.2.length)).sum 20000 && (Nat.beq L.length 374) && (L[0]? == some (4, [.int 0, .int 0, .int 0, .int 0, .ref 1, .ref 2, .ref 3, .ref 4, .ref 8])) && na_all L 0
  | _ => false
set_option maxRecDepth 100000 in
theorem ni_tN : ni_nC (ni_exC ni_or ni_prog0 1000 75 0 (ni_ent 75 [.ref 0]) [] ([ni_N0], 0)) = true := by decide +kernel
theorem ni_tN2 : ∃ R : List ni_C, ni_exC ni_or ni_prog0 1000 75 0 (ni_ent 75 [.ref 0]) [] ([ni_N0], 0) = some (.inl none, (R, 0)) ∧ R.length = 374 ∧ R[0]? = some (4, [.int 0, .int 0, .int 0, .int 0, .ref 1, .ref 2, .ref 3, .ref 4, .ref 8]) ∧ na_all R 0 = true ∧ (R.map (fun c => c.2.length)).sum ≤ 20000 := by
  have h := ni_tN
  generalize ni_exC ni_or ni_prog0 1000 75 0 (ni_ent 75 [.ref 0]) [] ([ni_N0], 0) = o at h ⊢
  unfold ni_nC at h
  split at h
  next L =>
    simp only [Bool.and_eq_true, beq_iff_eq] at h
    exact ⟨L, rfl, Nat.eq_of_beq_eq_true h.1.1.2, h.1.2, h.2, Nat.le_of_ble_eq_true h.1.1.1⟩
  next => cases h
end NMK
