/-! a call by an interface's name, that returns -/
section NGF
variable {xs : List Int32} {Y : MethodName} {cc : ByteArray} {nL pc : Nat} {rt : Option FieldType} {hh : List (Nat × Nat × Nat × Nat)}
theorem ni_met {l : Launch} {y : MethodName} {ws : List Cond} {rm : Room} {Pc : Array Value → State → Prop} {Qc : Array Value → State → Outcome → State → Prop} {XC : String → State → State → Prop} {mc ms : Nat} {free : Addr → Prop} (hM : vx_Met l y ws rm Pc Qc XC mc ms free) (hX : ∀ E st t, ¬ XC E st t) : Met l y ws rm Pc Qc mc ms free := by
  intro p e ha hc hk s m args below hf hap hP hK
  obtain ⟨n, o, h1, h2, h3, hQ⟩ := hM p e ha hc hk s m args below hf hap hP hK
  refine ⟨n, o, h1, h2, h3, ?_⟩
  rcases hQ with h | ⟨q, -, E, ce, L, hx, -⟩
  · exact h
  · exact absurd hx (hX _ _ _)
def ni_sF (y ci q : Nat) : ni_S := fun call next ls st M => match st with
  | .ref a :: r => match M.1[a]? with
    | some c => if c.1 = ci ∧ ni_cs r ≤ 8 then (match call y [.ref a] M with
      | some (.inl v, M') => next q ls (v.toList ++ r) M'
      | _ => none) else none
    | none => none
  | _ => none
theorem ni_moF {y ci q : Nat} : ni_Mo (ni_sF y ci q) := by
  intro call next out hc hn ls st M hs
  unfold ni_sF at hs
  split at hs
  · split at hs
    · split at hs
      · split at hs
        next v M' ho => exact ni_leT (hc _ _ _ _ ho) (hn _ _ _ _ hs)
        next => cases hs
      · cases hs
    · cases hs
  · cases hs
theorem ni_upF {y ci q : Nat} : ni_Up (ni_sF y ci q) := by
  intro call call' next next' hc hn ls st M o h
  unfold ni_sF at h ⊢
  split at h
  · split at h
    · split at h
      next h2 _ _ h1 h3 =>
        split at h
        next v M' ho =>
          simp only [h1, if_pos h3, hc _ _ _ _ ho]
          exact hn _ _ _ _ _ h
        next => cases h
      next => cases h
    · cases h
  · cases h
theorem ni_frF {y ci q : Nat} (hci : ci < 99) : ni_Fr (ni_sF y ci q) := by
  intro E Z n0 h0 hE call call' next next' o hb hc hn hm ls st M H hM hs
  unfold ni_sF at hs ⊢
  split at hs
  next a r =>
    split at hs
    next c0 ha =>
      split at hs
      next hq =>
        split at hs
        next v M1 ho =>
          obtain ⟨hab, hH⟩ := ni_EmG hM ha (ni_nh6 hq.1 hci)
          have hle := (hm _ _ _ _ hs).1
          obtain ⟨o', g1, g2⟩ := hc y _ M H _ (by dsimp only at hle ⊢; omega) hM ho
          obtain ⟨u', M1'⟩ := o'
          have e1 : u' = .inl (v.map (ni_sh E)) := g2.1
          subst e1
          obtain ⟨o2, k1, k2⟩ := hn _ _ _ _ _ g2.2.1 hs
          refine ⟨o2, ?_, ni_FoT g2.2.2 k2⟩
          simp only [List.map_cons, ni_shR hab, hH]
          rw [if_pos ⟨show (ni_sc E c0).1 = ci from hq.1, by rw [ni_shS]; exact hq.2⟩]
          rw [List.map_cons, List.map_nil, ni_shR hab] at g1
          rw [g1]
          dsimp only
          rw [List.map_append] at k1
          have e2 : (v.map (ni_sh E)).toList = v.toList.map (ni_sh E) := by cases v <;> rfl
          rw [e2]
          exact k1
        next => cases hs
      next => cases hs
    next => cases hs
  next => cases hs
theorem ni_muF {y ci q : Nat} (hci : ci < 99) : ni_MU (ni_sF y ci q) := ⟨ni_moF, ni_upF, ni_frF hci⟩
theorem ni_intf {y ci i k : Nat} {T : u_T} {N : Nat} (hdg : decode cc pc = .ok (.invokeinterface i k, 5)) (h100 : ci < 100) (hc : vwCl[ci]? = some ("java/util/ArrayList", T, N)) (hC : (ni_ms y).1 = ni_yA) (w1 : Cond.methodLink Y.cls i ni_yT ∈ ni_tb) (w2 : Cond.instanceMethod ni_yA ∈ ni_tb) (w3 : Cond.selects "java/util/ArrayList" ni_yT ni_yA ∈ ni_tb) (w4 : Cond.initialized "java/util/ArrayList" ∈ ni_tb) (w5 : ni_cw y ∈ ni_tb)
    (hL : (ni_ms y).2.2.1 ≤ 45) (h0 : (ni_ms y).2.2.2.2 = []) : ni_Ok xs Y cc nL rt hh pc (ni_sF y ci (pc + 5)) := by
  intro w p l e R s m args below meth c d out Q M0 X F call next hcl hn ls st M hs
  unfold ni_sF at hs
  split at hs
  next a r =>
    split at hs
    next c0 ha =>
      obtain ⟨t, vs⟩ := c0
      dsimp only at hs
      split at hs
      next hq =>
        obtain ⟨rfl, hcs⟩ := hq
        split at hs
        next v M1 ho =>
          obtain ⟨d', hd, hle, hM⟩ := hcl y _ M _ ho
          obtain ⟨h1, h2⟩ := hn _ _ _ _ hs
          obtain ⟨kc, hkc⟩ : ∃ kc, ni_zc M1 = ni_zc M + kc := ⟨ni_zc M1 - ni_zc M, by have := hle.1; dsimp only at this; omega⟩
          obtain ⟨ks, hks⟩ : ∃ ks, ni_zs M1 = ni_zs M + ks := ⟨ni_zs M1 - ni_zs M, by have := hle.2.1; dsimp only at this; omega⟩
          have hM := ni_met (hM kc ks hkc hks) (fun E st t z => by cases z.1)
          refine ⟨ni_leT hle h1, fun H locs A cells slots a1 a2 a3 a4 a5 a6 => ?_⟩
          have b1 := F.1
          have b2 := F.2.1
          have g1 := h1.1
          have g2 := h1.2.1
          refine ni_sz fun hsz => ?_
          have hsz' : M.2 = 0 → H.size = ni_B w + M.1.length := fun h0 => ni_clean F.2.2.1 a6 h0 a4 a1 hsz
          have he := ni_wsG (w := w) ha
          rw [ni_eO h100] at he
          have e0 : ni_v w (.ref a) = .ref (ni_B w + a) := congrArg Value.ref (ni_adI a1 ha)
          have r1 := X.2.2.2.2.2.2.2.2.2.2.1
          have r2 := X.2.2.2.2.2.2.2.2.2.2.2.1
          have hKn := X.2.2.2.2.2.2.2.1.1.1 t _ hc
          rw [List.map_cons, e0]
          rw [List.map_cons, List.map_nil, e0, hC] at hM
          have hr := va_runF (p := p) (e := e) (R := R) (below := below) (meth := meth) (H := H) (locs := locs) (cells := cells) (slots := slots) (C := "java/util/ArrayList") (x := ni_yT) (y := ni_yA) (b := ni_B w + a) (As := []) (rest := r.map (ni_v w)) (n := 0) (bytes := (ni_ms y).2.1) (maxL := (ni_ms y).2.2.1) (ret := (ni_ms y).2.2.2.1) (g := F0 m pc A (.ref (ni_B w + a) :: r.map (ni_v w))) hKn.2 (ni_Ts X) hM
            (va_cwF 0 X.2.2.2.2.1 (ni_goodA (fun z hz => by simp only [List.mem_cons, List.not_mem_nil, or_false] at hz; rcases hz with rfl | rfl | rfl | rfl <;> assumption) (ni_good1 w5)) (by rw [ni_mw0 h0, hC]) rfl rfl X.2.2.2.2.2.2.2.2.1.2.2.2.2.2.2.2.2.2 ⟨by decide +kernel, by decide +kernel, by decide +kernel⟩ ⟨by show d' + 8 + 1 ≤ R.frames; omega, ni_rmL hL (by rw [← hd]; exact r2)⟩)
            ⟨by have := ni_blind (w := w) (xs := xs) (M := M) (av := [.ref (ni_B w + a)]); exact this, va_recv X.2.2.2.2.2.2.2.1.1 a1.1 hc he, fun U hU hW => ⟨rfl, ni_pre X.2.2.2.2.2.2.2.1 X.2.2.2.2.2.2.2.2.1 X.2.2.2.2.2.2.2.2.2.1 a1 a2 hsz' hU hW⟩⟩ rfl rfl a3.1 rfl (by
              rw [ni_csM]
              show 2 * 0 + ni_cs r ≤ 8
              omega) hdg ⟨by omega, by omega⟩
          intro T hT St
          obtain ⟨v2, st₀, t2, T', L, z0, St', hLL, e1, e2, ⟨u, ho2, hv2, hA1, hF⟩, st2⟩ := hr T hT St
          have hv2 : v2 = u.map (ni_v w) := Outcome.returned.inj hv2
          have hu : v = u := Sum.inl.inj ho2
          subst hu
          subst hv2
          obtain ⟨k1, k2, k3⟩ := vx_keep z0 e1 a2 (fun q h1 h2 => h2) (fun q h => h) hLL hF
          have kk := h2 T'.heap (locs ++ L) A (cells + kc) (slots + ks) (by rw [e1]; exact hA1) k3 a3 (by omega) (by omega) (Nat.le_trans a6 hle.2.2)
          obtain ⟨t3, b3, b4⟩ := kk T' rfl St'
          refine ⟨t3, st2 t3 ?_, b4⟩
          have ee : (v.map (ni_v w)).toList ++ r.map (ni_v w) = (v.toList ++ r).map (ni_v w) := by cases v <;> simp
          rw [ee]
          exact b3
        next => cases hs
      next => cases hs
    next => cases hs
  next => cases hs
end NGF
