/-! WHAT THE CONSTRUCTORS MAKE -/
section NMK
def ni_F0 : ni_C := (0, [.int 0, .int 0, .int 0, .int 0, .int 0, .int 0, .int 0, .int 0, .int 0, .int 0, .null, .int 0, .int 0, .int 0, .null, .int 0, .int 0, .int 0, .int 0])
def ni_R51 : List ni_C := [(0, [.int 0, .int 0, .int 0, .int 0, .int (-1), .int 0, .int 0, .int 0, .int 0, .int 0, .ref 1, .int 0, .int 0, .int 0, .ref 2, .int 0, .int (-1), .int (-1), .int 0]),
  (100, List.replicate 10 (.int 0)), (100, List.replicate 7 (.int 0))]
def ni_K0 : ni_C := (3, [.int 0, .int 0, .int 0, .int 0, .int 0, .int 0, .null, .null])
def ni_R69 : List ni_C := [(3, [.int 0, .int 0, .int 0, .int 0, .int 0, .int 0, .ref 1, .ref 9]),
  (5, [.ref 2, .int 0, .int 2000, .int 0, .int 0, .ref 6, .ref 7, .int 0, .int 0, .ref 8, .int 0, .int 0, .int (-1), .int 0]),
  (2, [.ref 3, .ref 4, .int 0, .ref 5, .int 0]),
  (104, List.replicate 8 (.null)),
  (100, List.replicate 8 (.int 0)),
  (100, List.replicate 21 (.int (-1))),
  (100, List.replicate 4 (.int 1)),
  (100, List.replicate 4 (.int 0)),
  (100, List.replicate 250 (.int 0)),
  (5, [.ref 10, .int 0, .int 2000, .int 0, .int 0, .ref 14, .ref 15, .int 0, .int 0, .ref 16, .int 0, .int 0, .int (-1), .int 0]),
  (2, [.ref 11, .ref 12, .int 0, .ref 13, .int 0]),
  (104, List.replicate 8 (.null)),
  (100, List.replicate 8 (.int 0)),
  (100, List.replicate 21 (.int (-1))),
  (100, List.replicate 4 (.int 1)),
  (100, List.replicate 4 (.int 0)),
  (100, List.replicate 250 (.int 0))]
def ni_X0 : ni_C := (6, [.null, .null, .null, .int 0])
def ni_R126 : List ni_C := [(6, [.ref 1, .ref 2, .ref 3, .int 0]), (100, List.replicate 24 (.int 0)), (100, List.replicate 24 (.int 0)), (100, List.replicate 24 (.int 0))]
set_option maxRecDepth 100000 in
theorem ni_t51 : ni_cl (ni_ex ni_prog0 1000) 4 51 [.ref 0] ([ni_F0], 0) = some (.inl none, (ni_R51, 0)) := by decide +kernel
set_option maxRecDepth 100000 in
theorem ni_t69 : ni_cl (ni_ex ni_prog0 1000) 4 69 [.ref 0] ([ni_K0], 0) = some (.inl none, (ni_R69, 0)) := by decide +kernel
set_option maxRecDepth 100000 in
theorem ni_t126 : ni_cl (ni_ex ni_prog0 1000) 4 126 [.ref 0, .int 24] ([ni_X0], 0) = some (.inl none, (ni_R126, 0)) := by decide +kernel
/-- the oracle of Net's constructor -/
def ni_or (y : Nat) (as : List Value) (H : ni_H) : Option ni_O := match y, as with
  | 51, [.ref a] => if H.1[a]? = some ni_F0 ∧ H.2 = 0 ∧ H.1.length ≤ 100000 ∧ a < ni_big then some (.inl none, ni_cry (ni_E1 a H.1.length) (fun _ => false) 1 ni_R51 H 0) else none
  | 69, [.ref a] => if H.1[a]? = some ni_K0 ∧ H.2 = 0 ∧ H.1.length ≤ 100000 ∧ a < ni_big then some (.inl none, ni_cry (ni_E1 a H.1.length) (fun _ => false) 1 ni_R69 H 0) else none
  | 126, [.ref a, .int 24] => if H.1[a]? = some ni_X0 ∧ H.2 = 0 ∧ H.1.length ≤ 100000 ∧ a < ni_big then some (.inl none, ni_cry (ni_E1 a H.1.length) (fun _ => false) 1 ni_R126 H 0) else none
  | y, as => ni_cl (ni_ex ni_prog0 400) 4 y as H
def ni_N0 : ni_C := (4, [.int 0, .int 0, .int 0, .int 0, .null, .null, .null, .null, .null])
/-- the state of a new Net whose places lie from b on, by marks -/
def na_v (c b s j : Nat) : Int := match c with
  | 0 => cond (Nat.beq j 4 || Nat.beq j 16 || Nat.beq j 17) (-1) 0
  | 5 => cond (Nat.beq j 2) 2000 (cond (Nat.beq j 12) (-1) 0)
  | 7 => cond (Nat.beq j 0) (((s - 286) / 11 : Nat) : Int) (cond (Nat.beq j 5) 1 0)
  | 100 => cond (Nat.blt s 286) (cond (Nat.blt s 48) 0 (cond (Nat.beq ((s - 48) % 17) 5 || Nat.beq ((s - 48) % 17) 13) (-1) (cond (Nat.beq ((s - 48) % 17) 6 || Nat.beq ((s - 48) % 17) 14) 1 0))) (cond (Nat.beq ((s - 286) % 11) 5) (cond (Nat.beq j ((s - 286) / 11)) 0 (-1)) 0)
  | 104 => cond (Nat.blt s 286) 0 ((b + s - 3 : Nat) : Int)
  | _ => 0
def na_A (b s j : Nat) : Int := na_v (ni_kd s) b s j
/-- as the constructor leaves a cell -/
def na_ck (c : ni_C) (s : Nat) : Bool := match c with
  | (t, vs) => cond (ni_us s) (Nat.beq t (ni_kd s) && (cond (ni_lr s) (Nat.beq vs.length 8 && (Nat.beq t 104 || (vs == List.replicate 8 (.int 0)))) (Nat.beq vs.length (ni_ln s) && (vs == (List.range (ni_ln s)).map (fun j => ni_vk t (fun k => k) (fun k => k) (fun s j => na_v t 0 s j) s j)))))
    (cond (Nat.blt s 286) true (cond (Nat.beq ((s - 286) % 11) 1) (Nat.beq t 1 && (vs == [ni_z (((s - 286) / 11 : Nat) : Int), .int 0, .int 0, .ref (s + 1), .ref (s + 2)])) (cond (Nat.beq ((s - 286) % 11) 2) (Nat.beq t 100 && (vs == List.replicate 14 (.int 0))) (Nat.beq t 100 && (vs == [])))))
def na_all : List ni_C → Nat → Bool
  | [], _ => true
  | c :: t, s => na_ck c s && na_all t (s + 1)
theorem na_allS : ∀ (L : List ni_C) (k s : Nat) (c : ni_C), na_all L k = true → L[s]? = some c → na_ck c (k + s) = true := by
  intro L
  induction L with
  | nil => intro k s c _ h; cases h
  | cons c0 t ih =>
    intro k s c ha h
    have ha' : (na_ck c0 k && na_all t (k + 1)) = true := ha
    rw [Bool.and_eq_true] at ha'
    cases s with
    | zero =>
      cases h
      exact ha'.1
    | succ s =>
      have := ih (k + 1) s c ha'.2 h
      rw [show k + 1 + s = k + (s + 1) by omega] at this
      exact this
/-- a Net as its constructor leaves it -/
def na_flow (s : Nat) : List ni_C := [(0, [.int 0, .int 0, .int 0, .int 0, .int (-1), .int 0, .int 0, .int 0, .int 0, .int 0, .ref (s + 1), .int 0, .int 0, .int 0, .ref (s + 2), .int 0, .int (-1), .int (-1), .int 0]),
  (100, List.replicate 10 (.int 0)), (100, List.replicate 7 (.int 0))]
def na_port (s : Nat) : List ni_C := [(5, [.ref (s + 1), .int 0, .int 2000, .int 0, .int 0, .ref (s + 5), .ref (s + 6), .int 0, .int 0, .ref (s + 7), .int 0, .int 0, .int (-1), .int 0]),
  (2, [.ref (s + 2), .ref (s + 3), .int 0, .ref (s + 4), .int 0]),
  (104, List.replicate 8 (.null)),
  (100, List.replicate 8 (.int 0)),
  (100, List.replicate 21 (.int (-1))),
  (100, List.replicate 4 (.int 1)),
  (100, List.replicate 4 (.int 0)),
  (100, List.replicate 250 (.int 0))]
def na_lnk (s : Nat) : List ni_C := (3, [.int 0, .int 0, .int 0, .int 0, .int 0, .int 0, .ref (s + 1), .ref (s + 9)]) :: (na_port (s + 1) ++ na_port (s + 9))
def na_rou (r s : Nat) : List ni_C := [(7, [ni_z (r : Int), .ref (s + 4), .ref (s + 5), .ref (s + 6), .ref (s + 7), .int 1]),
  (1, [ni_z (r : Int), .int 0, .int 0, .ref (s + 2), .ref (s + 3)]), (100, List.replicate 14 (.int 0)), (100, []),
  (104, List.replicate 8 (.ref (s + 1))), (100, (List.range 8).map (fun j => cond (Nat.beq j r) (.int 0) (.int (-1)))), (100, List.replicate 8 (.int 0)),
  (8, [.ref (s + 8), .ref (s + 9), .ref (s + 10), .int 0]), (100, List.replicate 216 (.int 0)), (100, List.replicate 216 (.int 0)), (100, List.replicate 216 (.int 0))]
def na_R0 : List ni_C := [(4, [.int 0, .int 0, .int 0, .int 0, .ref 1, .ref 2, .ref 3, .ref 4, .ref 8]),
  (101, (List.range 8).map fun r => .ref (286 + 11 * r)), (102, (List.range 14).map fun l => .ref (48 + 17 * l)), (103, (List.range 12).map fun f => .ref (12 + 3 * f)),
  (6, [.ref 5, .ref 6, .ref 7, .int 0]), (100, List.replicate 24 (.int 0)), (100, List.replicate 24 (.int 0)), (100, List.replicate 24 (.int 0)),
  (6, [.ref 9, .ref 10, .ref 11, .int 0]), (100, List.replicate 24 (.int 0)), (100, List.replicate 24 (.int 0)), (100, List.replicate 24 (.int 0))] ++
  ((List.range 12).flatMap fun f => na_flow (12 + 3 * f)) ++ (((List.range 14).flatMap fun l => na_lnk (48 + 17 * l)) ++ ((List.range 8).flatMap fun r => na_rou r (286 + 11 * r)))
def ni_nC (o : Option ni_O) : Bool := match o with
  | some (.inl none, (L, 0)) => Nat.beq L.length 374
  | _ => false
def na_cmp (lo n : Nat) (o : Option ni_O) : Bool := match o with
  | some (.inl none, (L, 0)) => (L.drop lo).take n == (na_R0.drop lo).take n
  | _ => false
set_option maxRecDepth 100000 in
theorem ni_tN : ni_nC (ni_exC ni_or ni_prog0 1000 75 0 (ni_ent 75 [.ref 0]) [] ([ni_N0], 0)) = true := by decide +kernel
set_option maxRecDepth 100000 in
theorem na_seg0 : na_cmp 0 48 (ni_exC ni_or ni_prog0 1000 75 0 (ni_ent 75 [.ref 0]) [] ([ni_N0], 0)) = true := by decide +kernel
set_option maxRecDepth 100000 in
theorem na_seg1 : na_cmp 48 68 (ni_exC ni_or ni_prog0 1000 75 0 (ni_ent 75 [.ref 0]) [] ([ni_N0], 0)) = true := by decide +kernel
set_option maxRecDepth 100000 in
theorem na_seg2 : na_cmp 116 68 (ni_exC ni_or ni_prog0 1000 75 0 (ni_ent 75 [.ref 0]) [] ([ni_N0], 0)) = true := by decide +kernel
set_option maxRecDepth 100000 in
theorem na_seg3 : na_cmp 184 68 (ni_exC ni_or ni_prog0 1000 75 0 (ni_ent 75 [.ref 0]) [] ([ni_N0], 0)) = true := by decide +kernel
set_option maxRecDepth 100000 in
theorem na_seg4 : na_cmp 252 34 (ni_exC ni_or ni_prog0 1000 75 0 (ni_ent 75 [.ref 0]) [] ([ni_N0], 0)) = true := by decide +kernel
set_option maxRecDepth 100000 in
theorem na_seg5 : na_cmp 286 44 (ni_exC ni_or ni_prog0 1000 75 0 (ni_ent 75 [.ref 0]) [] ([ni_N0], 0)) = true := by decide +kernel
set_option maxRecDepth 100000 in
theorem na_seg6 : na_cmp 330 44 (ni_exC ni_or ni_prog0 1000 75 0 (ni_ent 75 [.ref 0]) [] ([ni_N0], 0)) = true := by decide +kernel
end NMK
