/-! ===== what the methods of TagRoot do ===== -/
def rI (h : ZH) (i k : Nat) : Int32 := match h i with
  | .inr (_, fs) => (match fs[k]? with
    | some (.int x) => x
    | _ => 0)
  | _ => 0
def rA (h : ZH) (i : Nat) : Nat → Int32 := match h i with
  | .inl (_, _, .inl f) => f
  | _ => fun _ => 0
def gT (h : ZH) : zTS := ((rA h 2, rA h 3, rA h 4, rI h 1 3, rI h 1 4), (rA h 6, rA h 7, rA h 8, rA h 9, rI h 5 4), (rA h 11, rA h 12, rA h 13, rA h 14, rI h 10 4), (rA h 16, rA h 17, rA h 18, rA h 19, rA h 20, rA h 21, rI h 15 6), (rA h 23, rA h 24, rA h 25, rA h 26, rI h 22 4, rI h 22 5, rI h 22 6), rA h 28)
theorem gT_pT (σ : zTS) (f : ZH) : gT (pT σ f) = σ := by
  unfold gT rA rI
  simp only [pT_1, pT_2, pT_3, pT_4, pT_5, pT_6, pT_7, pT_8, pT_9, pT_10, pT_11, pT_12, pT_13, pT_14, pT_15, pT_16, pT_17, pT_18, pT_19, pT_20, pT_21, pT_22, pT_23, pT_24, pT_25, pT_26, pT_28, List.getElem?_cons_zero, List.getElem?_cons_succ]
def zInv (σ : zTS) (n m q k s d : Nat) : Prop :=
  σ.1.2.2.2.1 = nI n ∧ n ≤ 24 ∧ σ.1.2.2.2.2 = nI d ∧ d ≤ 8 ∧ zCh σ.1 ∧ (∀ t, t < n → ∃ e, e ≤ 8 ∧ σ.1.2.1 t = nI e) ∧ zR σ.2.1 n ∧ zH σ.2.2.2.2.1 m k s ∧
  σ.2.2.2.1.2.2.2.2.2.2 = nI q ∧ q ≤ 40 ∧ ∀ i, i < q → ∃ t o, σ.2.2.2.1.2.1 i = nI t ∧ σ.2.2.2.1.2.2.1 i = nI o ∧ t < n ∧ o < n
def zSh (h : ZH) : Prop := ∃ (σ : zTS) (f : ZH) (n m q k s d : Nat), h = pT σ f ∧ zInv σ n m q k s d
def okI (x n : Int32) : Prop := 0 ≤ x ∧ x < n
theorem okI_n {x : Int32} {n : Nat} (hn : n < 2 ^ 31) : okI x (nI n) ↔ ∃ i, i < n ∧ x = nI i := by
  constructor
  · rintro ⟨h1, h2⟩
    obtain ⟨j, hj, e⟩ := nI_of (Int32.not_lt.mpr h1)
    subst e
    exact ⟨j, (nI_ltI hj hn).mp h2, rfl⟩
  · rintro ⟨i, hi, rfl⟩
    exact ⟨nI_pos' (by omega), (nI_ltI (by omega) hn).mpr hi⟩
abbrev tn (x : Int32) : Nat := x.toNatClampNeg
/-- the parts by name -/
abbrev sTags (σ : zTS) : Int32 := σ.1.2.2.2.1
abbrev sThings (σ : zTS) : Int32 := σ.2.2.2.2.1.2.2.2.2.1
abbrev sReqs (σ : zTS) : Int32 := σ.2.2.2.1.2.2.2.2.2.2
abbrev sHand (σ : zTS) : Nat → Int32 := σ.2.2.2.2.1.1
abbrev sK (σ : zTS) : zHS := σ.2.2.2.2.1
def wH (σ : zTS) (η : zHS) : zTS := (σ.1, σ.2.1, σ.2.2.1, σ.2.2.2.1, η, σ.2.2.2.2.2)
def wV (σ : zTS) (ω : zVS) : zTS := (σ.1, σ.2.1, σ.2.2.1, σ.2.2.2.1, σ.2.2.2.2.1, ω)
def wN (σ : zTS) (ν : zNS) : zTS := (ν, σ.2)
def wR (σ : zTS) (ρ : zRS) : zTS := (σ.1, ρ, σ.2.2)
def wU (σ : zTS) (τ : zRS) : zTS := (σ.1, σ.2.1, τ, σ.2.2.2)
def wQ (σ : zTS) (κ : zQS) : zTS := (σ.1, σ.2.1, σ.2.2.1, κ, σ.2.2.2.2)
/-- the rows made anew -/
def fRef (σ : zTS) : zTS := wV σ (fSh σ.2.1.1 σ.2.1.2.2.2.1 (tn (sTags σ)) (sHand σ) σ.2.2.2.2.2 (tn (sThings σ)))
/-- an edit, with the sets to come in 'edited', comes to its end -/
def fChT (σ : zTS) : Int32 := fChg (sK σ).1 (sK σ).2.1 (tn (sThings σ))
def fFinH (σ : zTS) : zTS := wH σ (fKeep (sK σ) (tn (sThings σ)) (tn (sK σ).2.2.2.2.2.2) (tn (sK σ).2.2.2.2.2.1) (fChT σ))
def fFin (σ : zTS) : zTS := if fChT σ = 0 then σ else fRef (fFinH σ)
def fStart (σ : zTS) : zTS := wH σ ((sK σ).1, (fun j => if j < tn (sThings σ) then (sK σ).1 j else (sK σ).2.1 j), (sK σ).2.2)
def fEd (σ : zTS) (i : Nat) (x : Int32) : zTS := wH σ ((sK σ).1, upd (sK σ).2.1 i x, (sK σ).2.2)
/-- private ones -/
def eX5_needTag : List Value → ZH → Nat → Prop := fun a h k => zSh h ∧ ∃ x, a = [.ref 0, .int x] ∧ k = 2 ∧ ¬ okI x (sTags (gT h))
def tX5_needTag : List Value → ZH → (Option Value → ZH → Prop) → Prop := fun a h Kn => zSh h ∧ ∃ x, a = [.ref 0, .int x] ∧ Kn none h
def eX5_needThing : List Value → ZH → Nat → Prop := fun a h k => zSh h ∧ ∃ x, a = [.ref 0, .int x] ∧ k = 2 ∧ ¬ okI x (sThings (gT h))
def tX5_needThing : List Value → ZH → (Option Value → ZH → Prop) → Prop := fun a h Kn => zSh h ∧ ∃ x, a = [.ref 0, .int x] ∧ Kn none h
def eX5_needRequest : List Value → ZH → Nat → Prop := fun a h k => zSh h ∧ ∃ x, a = [.ref 0, .int x] ∧ k = 2 ∧ ¬ okI x (sReqs (gT h))
def tX5_needRequest : List Value → ZH → (Option Value → ZH → Prop) → Prop := fun a h Kn => zSh h ∧ ∃ x, a = [.ref 0, .int x] ∧ Kn none h
def fTs (n x : Int32) : Bool := decide (0 ≤ x) && decide (x < (1 : Int32) <<< (n &&& 31))
def tX5_isTagSet : List Value → ZH → (Option Value → ZH → Prop) → Prop := fun a h Kn => ∃ (σ : zTS) (f : ZH) (x : Int32), a = [.ref 0, .int x] ∧ h = pT σ f ∧ Kn (some (.int (zb (fTs (sTags σ) x)))) h
def fTs3 (n x y z : Int32) : Bool := fTs n x && (fTs n y && fTs n z)
def eX5_needSets : List Value → ZH → Nat → Prop := fun a h k => zSh h ∧ ∃ x y z, a = [.ref 0, .int x, .int y, .int z] ∧ k = 0 ∧ fTs3 (sTags (gT h)) x y z = false
def tX5_needSets : List Value → ZH → (Option Value → ZH → Prop) → Prop := fun a h Kn => zSh h ∧ ∃ x y z, a = [.ref 0, .int x, .int y, .int z] ∧ Kn none h
def tX5_finishEdit : List Value → ZH → (Option Value → ZH → Prop) → Prop := fun a h Kn => ∃ (σ : zTS) (f : ZH) (n m q k s d : Nat), a = [.ref 0] ∧ h = pT σ f ∧ zInv σ n m q k s d ∧ Kn (some (.int (fBc (fChT σ)))) (pT (fFin σ) f)
def fSg (x : Int32) : Bool := (decide (97 ≤ x) && decide (x ≤ 122)) || ((decide (65 ≤ x) && decide (x ≤ 90)) || (decide (x = 45) || decide (x = 95)))
def tX5_isNameCharacter : List Value → ZH → (Option Value → ZH → Prop) → Prop := fun a h Kn => ∃ (x : Int32), a = [.int x] ∧ Kn (some (.int (zb (fSg x)))) h
def fMe (k x : Int32) (t o : Nat) : Int32 := if k = 0 then x ||| sh1 o else if k = 1 then x &&& (sh1 o ^^^ (-1)) else x &&& (sh1 t ^^^ (-1)) ||| sh1 o
def tX5_massEdited : List Value → ZH → (Option Value → ZH → Prop) → Prop := fun a h Kn => ∃ (k x : Int32) (t o : Nat), a = [.int k, .int x, .int (nI t), .int (nI o)] ∧ Kn (some (.int (fMe k x t o))) h
def fMem (x p : Int32) : Nat → Nat → Int32 → Int32
  | 0, _, _ => -1
  | f + 1, i, b => if bt x i then (if b = p then nI i else fMem x p f (i + 1) (b + 1)) else fMem x p f (i + 1) b
def tX5_memberAt : List Value → ZH → (Option Value → ZH → Prop) → Prop := fun a h Kn => ∃ (x p : Int32), a = [.int x, .int p] ∧ Kn (some (.int (fMem x p 20 0 0))) h
/-- found and withAny, for the tags below i -/
def fMtF (al : Nat → Int32) (n : Nat) (sh : Nat → Int32) (x z : Int32) (f0 : Int32) : Nat → Int32
  | 0 => f0
  | i + 1 =>
    let p := if bt x i then fMtF al n sh x z f0 i &&& sh (fE al n n i) else fMtF al n sh x z f0 i
    if bt z i then p &&& (sh (fE al n n i) ^^^ (-1)) else p
def fMtA (al : Nat → Int32) (n : Nat) (sh : Nat → Int32) (y : Int32) (a0 : Int32) : Nat → Int32
  | 0 => a0
  | i + 1 => if bt y i then fMtA al n sh y a0 i ||| sh (fE al n n i) else fMtA al n sh y a0 i
def fMt (σ : zTS) (x y z : Int32) : Int32 :=
  fMtF σ.2.1.1 (tn (sTags σ)) σ.2.2.2.2.2 x z (((1 : Int32) <<< (sThings σ &&& 31)) - 1) (tn (sTags σ)) &&& fMtA σ.2.1.1 (tn (sTags σ)) σ.2.2.2.2.2 y (if y = 0 then ((1 : Int32) <<< (sThings σ &&& 31)) - 1 else 0) (tn (sTags σ))
def tX5_matching : List Value → ZH → (Option Value → ZH → Prop) → Prop := fun a h Kn => ∃ (σ : zTS) (f : ZH) (n m q k s d : Nat) (x y z : Int32), a = [.ref 0, .int x, .int y, .int z] ∧ h = pT σ f ∧ zInv σ n m q k s d ∧ Kn (some (.int (fMt σ x y z))) h
abbrev qK (κ : zQS) (i : Nat) : Int32 := κ.1 i
abbrev qT (κ : zQS) (i : Nat) : Nat := tn (κ.2.1 i)
abbrev qO (κ : zQS) (i : Nat) : Nat := tn (κ.2.2.1 i)
abbrev qS (κ : zQS) (i : Nat) : Int32 := κ.2.2.2.1 i
def fAlw (ρ : zRS) (n : Nat) (κ : zQS) (i : Nat) : Bool := fAllow ρ n (qK κ i) (qT κ i) (qO κ i)
def fOa (σ : zTS) (i : Nat) : Bool := decide (qS σ.2.2.2.1 i = 0) && fAlw σ.2.1 (tn (sTags σ)) σ.2.2.2.1 i
def tX5_isOpenAndAllowed : List Value → ZH → (Option Value → ZH → Prop) → Prop := fun a h Kn => ∃ (σ : zTS) (f : ZH) (n m q k s d i : Nat), a = [.ref 0, .int (nI i)] ∧ h = pT σ f ∧ zInv σ n m q k s d ∧ i < q ∧ Kn (some (.int (zb (fOa σ i)))) h
def fCop (ρ τ : zRS) (n : Nat) : zRS := ((fun j => if j < n then ρ.1 j else τ.1 j), (fun j => if j < n then ρ.2.1 j else τ.2.1 j), τ.2.2.1, τ.2.2.2.1, nI n)
def fBeh (σ : zTS) (i j : Nat) : zRS := fWork (fCarry (fCop σ.2.1 σ.2.2.1 (tn (sTags σ))) (qK σ.2.2.2.1 i) (qT σ.2.2.2.1 i) (qO σ.2.2.2.1 i)) (tn (sTags σ))
def tX5_isAllowedBehind : List Value → ZH → (Option Value → ZH → Prop) → Prop := fun a h Kn => ∃ (σ : zTS) (f : ZH) (n m q k s d i j : Nat), a = [.ref 0, .int (nI i), .int (nI j)] ∧ h = pT σ f ∧ zInv σ n m q k s d ∧ i < q ∧ j < q ∧ Kn (some (.int (zb (fAlw (fBeh σ i j) (tn (sTags σ)) σ.2.2.2.1 j)))) (pT (wU σ (fBeh σ i j)) f)
def wS (σ : zTS) (i : Nat) (x : Int32) : zTS := wQ σ (σ.2.2.2.1.1, σ.2.2.2.1.2.1, σ.2.2.2.1.2.2.1, upd σ.2.2.2.1.2.2.2.1 i x, σ.2.2.2.1.2.2.2.2)
def fDec (σ : zTS) (i : Nat) (x : Int32) : zTS :=
  if 3 ≤ x ∧ fAlw σ.2.1 (tn (sTags σ)) σ.2.2.2.1 i = true then fRef (wR (wS σ i 1) (fWork (fCarry σ.2.1 (qK σ.2.2.2.1 i) (qT σ.2.2.2.1 i) (qO σ.2.2.2.1 i)) (tn (sTags σ))))
  else if 3 ≤ fAbs x then wS σ i 2 else σ
def tX5_decide : List Value → ZH → (Option Value → ZH → Prop) → Prop := fun a h Kn => ∃ (σ : zTS) (f : ZH) (n m q k s d i : Nat) (x : Int32), a = [.ref 0, .int (nI i), .int x] ∧ h = pT σ f ∧ zInv σ n m q k s d ∧ i < q ∧ Kn none (pT (fDec σ i x) f)
