section NMU
/-- what a row does: the heap grows, more answers give the same, the heap may be carried -/
def ni_MU (sem : ni_S) : Prop := ni_Mo sem ∧ ni_Up sem ∧ ni_Fr sem
theorem ni_muP {g : List Value → Option (Nat × List Value)} (h : ni_Eq g) : ni_MU (ni_sP g) := ⟨ni_moP, ni_upP, ni_frP h⟩
theorem ni_muLd {t i q : Nat} : ni_MU (ni_sLd t i q) := ⟨ni_moLd, ni_upLd, ni_frLd⟩
theorem ni_muSt {t i q : Nat} : ni_MU (ni_sSt t i q) := ⟨ni_moSt, ni_upSt, ni_frSt⟩
theorem ni_muInc {i q : Nat} {n : Int32} : ni_MU (ni_sInc i n q) := ⟨ni_moInc, ni_upInc, ni_frInc⟩
theorem ni_muGet {ci k q : Nat} : ni_MU (ni_sGet ci k q) := ⟨ni_moGet, ni_upGet, ni_frGet⟩
theorem ni_muPut {ci k q : Nat} {ty : FieldType} : ni_MU (ni_sPut ci k ty q) := ⟨ni_moPut, ni_upPut, ni_frPut⟩
theorem ni_muLen {q : Nat} : ni_MU (ni_sLen q) := ⟨ni_moLen, ni_upLen, ni_frLen⟩
theorem ni_muAld {ty : FieldType} {tv q : Nat} : ni_MU (ni_sAld ty tv q) := ⟨ni_moAld, ni_upAld, ni_frAld⟩
theorem ni_muQld {q : Nat} : ni_MU (ni_sQld q) := ⟨ni_moQld, ni_upQld, ni_frQld⟩
theorem ni_muAst {ty : FieldType} {tv q : Nat} : ni_MU (ni_sAst ty tv q) := ⟨ni_moAst, ni_upAst, ni_frAst⟩
theorem ni_muQst {q : Nat} : ni_MU (ni_sQst q) := ⟨ni_moQst, ni_upQst, ni_frQst⟩
theorem ni_muNewa {k q : Nat} {ty : FieldType} : ni_MU (ni_sNewa k ty q) := ⟨ni_moNewa, ni_upNewa, ni_frNewa⟩
theorem ni_muNew {ci q : Nat} {fs : List Value} (h : ∀ E, fs.map (ni_sh E) = fs) : ni_MU (ni_sNew ci fs q) := ⟨ni_moNew, ni_upNew, ni_frNew h⟩
theorem ni_muANew {k q : Nat} : ni_MU (ni_sANew k q) := ⟨ni_moANew, ni_upANew, ni_frANew⟩
theorem ni_muCopy {q : Nat} : ni_MU (ni_sCopy q) := ⟨ni_moCopy, ni_upCopy, ni_frCopy⟩
theorem ni_muR {rt : Option FieldType} : ni_MU (ni_sR rt) := ⟨ni_moR, ni_upR, ni_frR⟩
theorem ni_muTh {E : String} : ni_MU (ni_sTh E) := ⟨ni_moTh, ni_upTh, ni_frTh⟩
theorem ni_muCast {nm : String} {q : Nat} : ni_MU (ni_sCast nm q) := ⟨ni_moCast, ni_upCast, ni_frCast⟩
theorem ni_muQsO {q : Nat} : ni_MU (ni_sQsO q) := ⟨ni_moQsO, ni_upQsO, ni_frQsO⟩
theorem ni_muQlA {q : Nat} : ni_MU (ni_sQlA q) := ⟨ni_moQlA, ni_upQlA, ni_frQlA⟩
theorem ni_muQsA {q : Nat} : ni_MU (ni_sQsA q) := ⟨ni_moQsA, ni_upQsA, ni_frQsA⟩
theorem ni_muV {y n ci q : Nat} (h : ci < 99) : ni_MU (ni_sV y n ci q) := ⟨ni_moV, ni_upV, ni_frV h⟩
theorem ni_muC {y n q : Nat} : ni_MU (ni_sC y n q) := ⟨ni_moC, ni_upC, ni_frC⟩
theorem ni_muI {y n q : Nat} : ni_MU (ni_sI y n q) := ⟨ni_moI, ni_upI, ni_frI⟩
theorem ni_muVX {y n ci q1 k q : Nat} {E0 : String} (h : ci < 99) : ni_MU (ni_sVX y n ci E0 q1 k q) := ⟨ni_moVX, ni_upVX, ni_frVX h⟩
theorem ni_muSln {xs : List Int32} {q : Nat} : ni_MU (ni_sSln xs q) := ⟨ni_moSln, ni_upSln, ni_frSln⟩
theorem ni_muSld {xs : List Int32} {q : Nat} : ni_MU (ni_sSld xs q) := ⟨ni_moSld, ni_upSld, ni_frSld⟩
theorem ni_mu0 : ni_MU ni_s0 := ⟨ni_mo0, ni_up0, ni_fr0⟩
variable {xs : List Int32} {Y : MethodName} {cc : ByteArray} {nL pc : Nat} {rt : Option FieldType} {hh : List (Nat × Nat × Nat × Nat)}
theorem ni_row {sem : ni_S} (h : ni_Ok xs Y cc nL rt hh pc sem) (k : ni_MU sem) {l : List (Nat × ni_S)} (t : ∀ r ∈ l, ni_Ok xs Y cc nL rt hh r.1 r.2 ∧ ni_MU r.2) : ∀ r ∈ (pc, sem) :: l, ni_Ok xs Y cc nL rt hh r.1 r.2 ∧ ni_MU r.2 := List.forall_mem_cons.mpr ⟨⟨h, k⟩, t⟩
theorem ni_row0 : ∀ r ∈ ([] : List (Nat × ni_S)), ni_Ok xs Y cc nL rt hh r.1 r.2 ∧ ni_MU r.2 := fun _ h => (nomatch h)
end NMU
