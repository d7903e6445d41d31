/-! ===== what the small methods do: names, requests, hands, rows ===== -/
def isCh (x : Int32) : Prop := narrow .char (.int x) = .int x
theorem isCh_nar {x : Int32} (h : isCh x) : vp_nar .char x = x := by
  unfold vp_nar
  rw [h]
def fPl (c : Int32) : Int32 := if 65 ≤ c ∧ c ≤ 90 then ((c - 65 + 97).toUInt32 % 65536).toInt32 else if c = 45 then 95 else c
def fAll (q : Nat → Bool) : Nat → Nat → Bool
  | 0, _ => true
  | f + 1, k => q k && fAll q f (k + 1)
def fIsD (le ln dr : Nat → Int32) (d t : Nat) : Bool := decide (ln t = nI d) && fAll (fun i => decide (fPl (le (t * 8 + i)) = fPl (dr i))) d 0
def fOpt (x : Option Nat) : Int32 := match x with
  | some j => nI j
  | none => -1
def fB1 (x : Int32) : Int32 := x - ((x.toUInt32 >>> ((1 : Int32).toUInt32 &&& Int32.toUInt32 31)).toInt32 &&& 1431655765)
def fB2 (x : Int32) : Int32 := (x &&& 858993459) + ((x.toUInt32 >>> ((2 : Int32).toUInt32 &&& Int32.toUInt32 31)).toInt32 &&& 858993459)
def fB3 (x : Int32) : Int32 := (x + (x.toUInt32 >>> ((4 : Int32).toUInt32 &&& Int32.toUInt32 31)).toInt32) &&& 252645135
def fB4 (x : Int32) : Int32 := x + (x.toUInt32 >>> ((8 : Int32).toUInt32 &&& Int32.toUInt32 31)).toInt32
def fB5 (x : Int32) : Int32 := x + (x.toUInt32 >>> ((16 : Int32).toUInt32 &&& Int32.toUInt32 31)).toInt32
def fBc (x : Int32) : Int32 := fB5 (fB4 (fB3 (fB2 (fB1 x)))) &&& 63
def fMin (x y : Int32) : Int32 := if y < x then y else x
def fAbs (x : Int32) : Int32 := if 0 ≤ x then x else 0 - x
def fChg (se ed : Nat → Int32) : Nat → Int32
  | 0 => 0
  | i + 1 => if ed i = se i then fChg se ed i else fChg se ed i ||| sh1 i
def fCol (sh : Nat → Int32) (i : Nat) : Nat → Int32
  | 0 => 0
  | k + 1 => if bt (sh k) i then fCol sh i k ||| sh1 k else fCol sh i k
def fShI (all : Int32) (i : Nat) (sh : Nat → Int32) : Nat → Nat → Int32
  | 0 => sh
  | k + 1 => if bt all k then upd (fShI all i sh k) k (fShI all i sh k k ||| sh1 i) else fShI all i sh k
def fSh (al re : Nat → Int32) (n : Nat) (se sh : Nat → Int32) : Nat → Nat → Int32
  | 0 => fun j => if j < n then 0 else sh j
  | i + 1 => fShI (fRf al re n (se i) n) i (fSh al re n se sh i) n
def fKeep (η : zHS) (m s k : Nat) (ch : Int32) : zHS :=
  ((fun j => if j < m then η.2.1 j else η.1 j), η.2.1, upd η.2.2.1 s ch, (fun j => if s * 20 ≤ j ∧ j < s * 20 + m then η.1 (j - s * 20) else η.2.2.2.1 j), η.2.2.2.2.1, nI (min (k + 1) 20), nI (if s + 1 < 20 then s + 1 else 0))
def fPrev (s : Nat) : Nat := if 0 < s then s - 1 else 19
def fBack (η : zHS) (m s k : Nat) : zHS :=
  ((fun j => if j < m ∧ bt (η.2.2.1 (fPrev s)) j = true then η.2.2.2.1 (fPrev s * 20 + j) else η.1 j), η.2.1, η.2.2.1, η.2.2.2.1, η.2.2.2.2.1, nI (k - 1), nI (fPrev s))
def zH (η : zHS) (m k s : Nat) : Prop := η.2.2.2.2.1 = nI m ∧ m ≤ 20 ∧ η.2.2.2.2.2.1 = nI k ∧ k ≤ 20 ∧ η.2.2.2.2.2.2 = nI s ∧ s < 20
def tJ6_bitCount_0f7a4 : List Value → ZH → (Option Value → ZH → Prop) → Prop := fun a h Kn => ∃ x : Int32, a = [.int x] ∧ Kn (some (.int (fBc x))) h
def tX1_plain : List Value → ZH → (Option Value → ZH → Prop) → Prop := fun a h Kn => ∃ x : Int32, a = [.int x] ∧ isCh x ∧ Kn (some (.int (fPl x))) h
def tX1_append : List Value → ZH → (Option Value → ZH → Prop) → Prop := fun a h Kn => ∃ (ν : zNS) (f : ZH) (x : Int32) (d : Nat), a = [.ref 1, .int x] ∧ h = pN ν f ∧ isCh x ∧ ν.2.2.2.2 = nI d ∧ d < 8 ∧ Kn none (pN (ν.1, ν.2.1, upd ν.2.2.1 d x, ν.2.2.2.1, nI (d + 1)) f)
def tX1_emptyDraft : List Value → ZH → (Option Value → ZH → Prop) → Prop := fun a h Kn => ∃ (ν : zNS) (f : ZH), a = [.ref 1] ∧ h = pN ν f ∧ Kn none (pN (ν.1, ν.2.1, ν.2.2.1, ν.2.2.2.1, 0) f)
def tX1_letterAt : List Value → ZH → (Option Value → ZH → Prop) → Prop := fun a h Kn => ∃ (ν : zNS) (f : ZH) (t i : Nat), a = [.ref 1, .int (nI t), .int (nI i)] ∧ h = pN ν f ∧ t < 24 ∧ i < 8 ∧ isCh (ν.1 (t * 8 + i)) ∧ Kn (some (.int (ν.1 (t * 8 + i)))) h
def zCh (ν : zNS) : Prop := (∀ j, isCh (ν.1 j)) ∧ ∀ j, isCh (ν.2.2.1 j)
def tX1_isDraft : List Value → ZH → (Option Value → ZH → Prop) → Prop := fun a h Kn => ∃ (ν : zNS) (f : ZH) (t d : Nat), a = [.ref 1, .int (nI t)] ∧ h = pN ν f ∧ t < 24 ∧ zCh ν ∧ ν.2.2.2.2 = nI d ∧ d ≤ 8 ∧ Kn (some (.int (zb (fIsD ν.1 ν.2.1 ν.2.2.1 d t)))) h
def tX1_findDraft : List Value → ZH → (Option Value → ZH → Prop) → Prop := fun a h Kn => ∃ (ν : zNS) (f : ZH) (n d : Nat), a = [.ref 1] ∧ h = pN ν f ∧ ν.2.2.2.1 = nI n ∧ n ≤ 24 ∧ zCh ν ∧ ν.2.2.2.2 = nI d ∧ d ≤ 8 ∧ Kn (some (.int (fOpt (fFind (fIsD ν.1 ν.2.1 ν.2.2.1 d) n n 0)))) h
def tX1_addDraft : List Value → ZH → (Option Value → ZH → Prop) → Prop := fun a h Kn => ∃ (ν : zNS) (f : ZH) (n d : Nat), a = [.ref 1] ∧ h = pN ν f ∧ ν.2.2.2.1 = nI n ∧ n < 24 ∧ zCh ν ∧ ν.2.2.2.2 = nI d ∧ d ≤ 8 ∧ Kn (some (.int (nI n))) (pN ((fun j => if n * 8 ≤ j ∧ j < n * 8 + d then ν.2.2.1 (j - n * 8) else ν.1 j), upd ν.2.1 n (nI d), ν.2.2.1, nI (n + 1), ν.2.2.2.2) f)
def tX2_add : List Value → ZH → (Option Value → ZH → Prop) → Prop := fun a h Kn => ∃ (κ : zQS) (f : ZH) (q : Nat) (x y z : Int32), a = [.ref 15, .int x, .int y, .int z] ∧ h = pQ κ f ∧ κ.2.2.2.2.2.2 = nI q ∧ q < 40 ∧ Kn (some (.int (nI q))) (pQ (upd κ.1 q x, upd κ.2.1 q y, upd κ.2.2.1 q z, upd κ.2.2.2.1 q 0, κ.2.2.2.2.1, κ.2.2.2.2.2.1, nI (q + 1)) f)
def tX2_setVote : List Value → ZH → (Option Value → ZH → Prop) → Prop := fun a h Kn => ∃ (κ : zQS) (f : ZH) (q v : Nat) (x : Bool), a = [.ref 15, .int (nI q), .int (nI v), .int (zb x)] ∧ h = pQ κ f ∧ q < 40 ∧ v < 10 ∧
  Kn none (pQ (κ.1, κ.2.1, κ.2.2.1, κ.2.2.2.1, upd κ.2.2.2.2.1 q (if x then κ.2.2.2.2.1 q ||| sh1 v else κ.2.2.2.2.1 q &&& (sh1 v ^^^ (-1))), upd κ.2.2.2.2.2.1 q (if x then κ.2.2.2.2.2.1 q &&& (sh1 v ^^^ (-1)) else κ.2.2.2.2.2.1 q ||| sh1 v), κ.2.2.2.2.2.2) f)
def tX2_leadOf : List Value → ZH → (Option Value → ZH → Prop) → Prop := fun a h Kn => ∃ (κ : zQS) (f : ZH) (q : Nat), a = [.ref 15, .int (nI q)] ∧ h = pQ κ f ∧ q < 40 ∧ Kn (some (.int (fBc (κ.2.2.2.2.1 q) - fBc (κ.2.2.2.2.2.1 q)))) h
/-- a request that names tags that there are -/
def zQok (κ : zQS) (n q : Nat) (k : Int32) (t o : Nat) : Prop := q < 40 ∧ κ.1 q = k ∧ κ.2.1 q = nI t ∧ κ.2.2.1 q = nI o ∧ t < n ∧ o < n
def tX2_isAllowedBy : List Value → ZH → (Option Value → ZH → Prop) → Prop := fun a h Kn => ∃ (κ : zQS) (f f2 : ZH) (bs : Nat) (ρ : zRS) (n q t o : Nat) (k : Int32), a = [.ref 15, .ref bs, .int (nI q)] ∧ h = pQ κ f ∧ h = pR bs ρ f2 ∧ zR ρ n ∧ zQok κ n q k t o ∧ Kn (some (.int (zb (fAllow ρ n k t o)))) h
def tX2_carryOut : List Value → ZH → (Option Value → ZH → Prop) → Prop := fun a h Kn => ∃ (κ : zQS) (f f2 : ZH) (bs : Nat) (ρ : zRS) (n q t o : Nat) (k : Int32), a = [.ref 15, .ref bs, .int (nI q)] ∧ h = pQ κ f ∧ h = pR bs ρ f2 ∧ zR ρ n ∧ zQok κ n q k t o ∧ Kn none (pR bs (fWork (fCarry ρ k t o) n) f2)
def tX0_startEdit : List Value → ZH → (Option Value → ZH → Prop) → Prop := fun a h Kn => ∃ (η : zHS) (f : ZH) (m : Nat), a = [.ref 22] ∧ h = pH η f ∧ η.2.2.2.2.1 = nI m ∧ m ≤ 20 ∧ Kn none (pH (η.1, (fun j => if j < m then η.1 j else η.2.1 j), η.2.2) f)
def tX0_keep : List Value → ZH → (Option Value → ZH → Prop) → Prop := fun a h Kn => ∃ (η : zHS) (f : ZH) (m k s : Nat) (x : Int32), a = [.ref 22, .int x] ∧ h = pH η f ∧ zH η m k s ∧ Kn none (pH (fKeep η m s k x) f)
def tX0_finishEdit : List Value → ZH → (Option Value → ZH → Prop) → Prop := fun a h Kn => ∃ (η : zHS) (f : ZH) (m k s : Nat), a = [.ref 22] ∧ h = pH η f ∧ zH η m k s ∧ Kn (some (.int (fBc (fChg η.1 η.2.1 m)))) (pH (if fChg η.1 η.2.1 m = 0 then η else fKeep η m s k (fChg η.1 η.2.1 m)) f)
def tX0_restoreLatest : List Value → ZH → (Option Value → ZH → Prop) → Prop := fun a h Kn => ∃ (η : zHS) (f : ZH) (m k s : Nat), a = [.ref 22] ∧ h = pH η f ∧ zH η m k s ∧ 0 < k ∧ Kn (some (.int (fBc (η.2.2.1 (fPrev s))))) (pH (fBack η m s k) f)
def tX3_column : List Value → ZH → (Option Value → ZH → Prop) → Prop := fun a h Kn => ∃ (ω : zVS) (f : ZH) (i n : Nat), a = [.ref 27, .int (nI i), .int (nI n)] ∧ h = pV ω f ∧ i < 32 ∧ n ≤ 24 ∧ Kn (some (.int (fCol ω i n))) h
def tX3_refresh : List Value → ZH → (Option Value → ZH → Prop) → Prop := fun a h Kn => ∃ (σ : zTS) (f : ZH) (n m : Nat), a = [.ref 27, .ref 5, .ref 22] ∧ h = pT σ f ∧ zR σ.2.1 n ∧ σ.2.2.2.2.1.2.2.2.2.1 = nI m ∧ m ≤ 20 ∧
  Kn none (pT (σ.1, σ.2.1, σ.2.2.1, σ.2.2.2.1, σ.2.2.2.2.1, fSh σ.2.1.1 σ.2.1.2.2.2.1 n σ.2.2.2.2.1.1 σ.2.2.2.2.2 m) f)
