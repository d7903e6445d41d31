/-! ===== what the methods of the model do ===== -/
abbrev mDr (μ : zMS) : Nat → Int32 := μ.2.1
abbrev mDl (μ : zMS) : Int32 := μ.2.2.1
abbrev mTg (μ : zMS) : Int32 := μ.2.2.2.1
abbrev mLe (μ : zMS) : Nat → Int32 := μ.2.2.2.2.1
abbrev mLn (μ : zMS) : Nat → Int32 := μ.2.2.2.2.2.1
abbrev mAl (μ : zMS) : Nat → Int32 := μ.2.2.2.2.2.2.1
abbrev mIm (μ : zMS) : Nat → Int32 := μ.2.2.2.2.2.2.2.1
abbrev mTh (μ : zMS) : Int32 := μ.2.2.2.2.2.2.2.2.1
abbrev mSe (μ : zMS) : Nat → Int32 := μ.2.2.2.2.2.2.2.2.2.1
abbrev mRq (μ : zMS) : Int32 := μ.2.2.2.2.2.2.2.2.2.2.1
abbrev mKi (μ : zMS) : Nat → Int32 := μ.2.2.2.2.2.2.2.2.2.2.2.1
abbrev mSo (μ : zMS) : Nat → Int32 := μ.2.2.2.2.2.2.2.2.2.2.2.2.1
abbrev mTa (μ : zMS) : Nat → Int32 := μ.2.2.2.2.2.2.2.2.2.2.2.2.2.1
abbrev mVf (μ : zMS) : Nat → Int32 := μ.2.2.2.2.2.2.2.2.2.2.2.2.2.2.1
abbrev mVa (μ : zMS) : Nat → Int32 := μ.2.2.2.2.2.2.2.2.2.2.2.2.2.2.2.1
abbrev mSt (μ : zMS) : Nat → Int32 := μ.2.2.2.2.2.2.2.2.2.2.2.2.2.2.2.2.1
abbrev mKp (μ : zMS) : Int32 := μ.2.2.2.2.2.2.2.2.2.2.2.2.2.2.2.2.2.1
abbrev mCh (μ : zMS) : Nat → Int32 := μ.2.2.2.2.2.2.2.2.2.2.2.2.2.2.2.2.2.2.1
abbrev mBe (μ : zMS) : Nat → Int32 := μ.2.2.2.2.2.2.2.2.2.2.2.2.2.2.2.2.2.2.2
/-- one part anew -/
def vThr (μ : zMS) (x : Int32) : zMS := (x, μ.2)
def vDr (μ : zMS) (dr : Nat → Int32) (dl : Int32) : zMS := (μ.1, dr, dl, μ.2.2.2)
def vNew (μ : zMS) (dl tg : Int32) (le ln : Nat → Int32) : zMS := (μ.1, μ.2.1, dl, tg, le, ln, μ.2.2.2.2.2.2)
def vRu (μ : zMS) (al im : Nat → Int32) : zMS := (μ.1, μ.2.1, μ.2.2.1, μ.2.2.2.1, μ.2.2.2.2.1, μ.2.2.2.2.2.1, al, im, μ.2.2.2.2.2.2.2.2)
def vTh (μ : zMS) (x : Int32) : zMS := (μ.1, μ.2.1, μ.2.2.1, μ.2.2.2.1, μ.2.2.2.2.1, μ.2.2.2.2.2.1, mAl μ, mIm μ, x, μ.2.2.2.2.2.2.2.2.2)
def vSe (μ : zMS) (se : Nat → Int32) : zMS := (μ.1, μ.2.1, μ.2.2.1, μ.2.2.2.1, μ.2.2.2.2.1, μ.2.2.2.2.2.1, mAl μ, mIm μ, mTh μ, se, μ.2.2.2.2.2.2.2.2.2.2)
def vRq (μ : zMS) (rq : Int32) (ki so ta : Nat → Int32) : zMS := (μ.1, μ.2.1, μ.2.2.1, μ.2.2.2.1, μ.2.2.2.2.1, μ.2.2.2.2.2.1, mAl μ, mIm μ, mTh μ, mSe μ, rq, ki, so, ta, μ.2.2.2.2.2.2.2.2.2.2.2.2.2.2)
def vVo (μ : zMS) (vf va st : Nat → Int32) : zMS := (μ.1, μ.2.1, μ.2.2.1, μ.2.2.2.1, μ.2.2.2.2.1, μ.2.2.2.2.2.1, mAl μ, mIm μ, mTh μ, mSe μ, mRq μ, mKi μ, mSo μ, mTa μ, vf, va, st, μ.2.2.2.2.2.2.2.2.2.2.2.2.2.2.2.2.2)
def vKp (μ : zMS) (kp : Int32) (ch be : Nat → Int32) : zMS := (μ.1, μ.2.1, μ.2.2.1, μ.2.2.2.1, μ.2.2.2.2.1, μ.2.2.2.2.2.1, mAl μ, mIm μ, mTh μ, mSe μ, mRq μ, mKi μ, mSo μ, mTa μ, mVf μ, mVa μ, mSt μ, kp, ch, be)
/-- aliases that end: each of the first n leads to none or to one of them, and the ways are shorter than n -/
def zAc (al : Nat → Int32) (n : Nat) : Prop := (∀ j, j < n → al j = -1 ∨ ∃ k, k < n ∧ al j = nI k) ∧ ∀ j, j < n → al (fE al n n j) = -1
def mInv (μ : zMS) (n m q k d : Nat) : Prop :=
  mTg μ = nI n ∧ n ≤ 24 ∧ mTh μ = nI m ∧ m ≤ 20 ∧ mRq μ = nI q ∧ q ≤ 40 ∧ mKp μ = nI k ∧ k ≤ 20 ∧ mDl μ = nI d ∧ d ≤ 8 ∧
  (∀ j, isCh (mLe μ j)) ∧ (∀ j, isCh (mDr μ j)) ∧ (∀ t, t < n → ∃ e, e ≤ 8 ∧ mLn μ t = nI e) ∧ zAc (mAl μ) n ∧
  ∀ i, i < q → ∃ t o, mSo μ i = nI t ∧ mTa μ i = nI o ∧ t < n ∧ o < n
/-- the rules: n tags -/
def mRu (μ : zMS) (n : Nat) : Prop := mTg μ = nI n ∧ n ≤ 24 ∧ zAc (mAl μ) n
def fIn (v x y : Int32) : Bool := decide (x ≤ v) && decide (v ≤ y)
def fOn (al im : Nat → Int32) (n : Nat) (x : Int32) : Nat → Int32
  | 0 => 0
  | i + 1 => fOn al im n x i ||| (if bt x (fE al n n i) then fEnds al n (im i) n else 0)
def fIt (al im : Nat → Int32) (n : Nat) (x : Int32) : Nat → Int32
  | 0 => x
  | i + 1 => fIt al im n x i ||| fOn al im n (fIt al im n x i) n
def fClo (al im : Nat → Int32) (n : Nat) (x : Int32) : Int32 := fIt al im n x 33
def fCir (al im : Nat → Int32) (n : Nat) : Bool := (fFind (fun t => decide (al t = -1) && bt (fClo al im n (fOn al im n (sh1 t) n)) t) n n 0).isSome
def fDoA (al : Nat → Int32) (k : Int32) (t o : Nat) : Nat → Int32 := upd al t (if k = 0 then nI o else if k = 2 then -1 else al t)
def fDoI (im : Nat → Int32) (k : Int32) (t o : Nat) : Nat → Int32 := upd im t (if k = 1 then im t ||| sh1 o else if k = 3 then im t &&& (sh1 o ^^^ (-1)) else im t)
def fMay (al im : Nat → Int32) (n : Nat) (k : Int32) (t o : Nat) : Bool :=
  if k = 2 then decide (al t = nI o) else if k = 3 then bt (im t) o
  else if (if k = 0 then !decide (al t = -1) || decide (fE al n n o = t) else bt (im t) o) then false
  else !fCir (fDoA al k t o) (fDoI im k t o) n
def fSho (al im : Nat → Int32) (n : Nat) (x : Int32) : Int32 := fClo al im n (fEnds al n x n)
def fFar (al im : Nat → Int32) (n t : Nat) : Nat → Nat → Int32 → Nat
  | 0, i, _ => i
  | f + 1, i, x => if bt x t then i else fFar al im n t f (i + 1) (x ||| fOn al im n x n)
def tX6_thrown : List Value → ZH → (Option Value → ZH → Prop) → Prop := fun a h Kn => ∃ (μ : zMS) (f : ZH), a = [.ref 29] ∧ h = pM μ f ∧ Kn (some (.int μ.1)) h
def tX6_holds : List Value → ZH → (Option Value → ZH → Prop) → Prop := fun a h Kn => ∃ (μ : zMS) (f : ZH) (x : Int32), a = [.ref 29, .int x] ∧ h = pM μ f ∧ Kn (some (.int (zb (decide (x = 0))))) (pM (vThr μ x) f)
def tX6_in : List Value → ZH → (Option Value → ZH → Prop) → Prop := fun a h Kn => ∃ (v x y : Int32), a = [.int v, .int x, .int y] ∧ Kn (some (.int (zb (fIn v x y)))) h
def tX6_has : List Value → ZH → (Option Value → ZH → Prop) → Prop := fun a h Kn => ∃ (x : Int32) (j : Nat), a = [.int x, .int (nI j)] ∧ j < 32 ∧ Kn (some (.int (zb (bt x j)))) h
def tX6_many : List Value → ZH → (Option Value → ZH → Prop) → Prop := fun a h Kn => ∃ (x : Int32), a = [.int x] ∧ Kn (some (.int (nI (fb_ct (bt x) 32)))) h
def tX6_isTag : List Value → ZH → (Option Value → ZH → Prop) → Prop := fun a h Kn => ∃ (μ : zMS) (f : ZH) (n : Nat) (x : Int32), a = [.ref 29, .int x] ∧ h = pM μ f ∧ mTg μ = nI n ∧ n ≤ 24 ∧ Kn (some (.int (zb (decide (0 ≤ x) && decide (x < nI n))))) h
def tX6_isThing : List Value → ZH → (Option Value → ZH → Prop) → Prop := fun a h Kn => ∃ (μ : zMS) (f : ZH) (n : Nat) (x : Int32), a = [.ref 29, .int x] ∧ h = pM μ f ∧ mTh μ = nI n ∧ n ≤ 20 ∧ Kn (some (.int (zb (decide (0 ≤ x) && decide (x < nI n))))) h
def tX6_isRequest : List Value → ZH → (Option Value → ZH → Prop) → Prop := fun a h Kn => ∃ (μ : zMS) (f : ZH) (n : Nat) (x : Int32), a = [.ref 29, .int x] ∧ h = pM μ f ∧ mRq μ = nI n ∧ n ≤ 40 ∧ Kn (some (.int (zb (decide (0 ≤ x) && decide (x < nI n))))) h
def tX6_plain : List Value → ZH → (Option Value → ZH → Prop) → Prop := fun a h Kn => ∃ x : Int32, a = [.int x] ∧ isCh x ∧ Kn (some (.int (fPl x))) h
def fSi (x : Int32) : Bool := (decide (97 ≤ fPl x) && decide (fPl x ≤ 122)) || decide (fPl x = 95)
def tX6_isSign : List Value → ZH → (Option Value → ZH → Prop) → Prop := fun a h Kn => ∃ x : Int32, a = [.int x] ∧ isCh x ∧ Kn (some (.int (zb (fSi x)))) h
def tX6_isDraft : List Value → ZH → (Option Value → ZH → Prop) → Prop := fun a h Kn => ∃ (μ : zMS) (f : ZH) (t d : Nat), a = [.ref 29, .int (nI t)] ∧ h = pM μ f ∧ t < 24 ∧ (∀ j, isCh (mLe μ j)) ∧ (∀ j, isCh (mDr μ j)) ∧ mDl μ = nI d ∧ d ≤ 8 ∧ Kn (some (.int (zb (fIsD (mLe μ) (mLn μ) (mDr μ) d t)))) h
def tX6_endOf : List Value → ZH → (Option Value → ZH → Prop) → Prop := fun a h Kn => ∃ (μ : zMS) (f : ZH) (n t : Nat), a = [.ref 29, .int (nI t)] ∧ h = pM μ f ∧ mRu μ n ∧ t < n ∧ Kn (some (.int (nI (fE (mAl μ) n n t)))) h
def tX6_endsOf : List Value → ZH → (Option Value → ZH → Prop) → Prop := fun a h Kn => ∃ (μ : zMS) (f : ZH) (n : Nat) (x : Int32), a = [.ref 29, .int x] ∧ h = pM μ f ∧ mRu μ n ∧ Kn (some (.int (fEnds (mAl μ) n x n))) h
def tX6_onward : List Value → ZH → (Option Value → ZH → Prop) → Prop := fun a h Kn => ∃ (μ : zMS) (f : ZH) (n : Nat) (x : Int32), a = [.ref 29, .int x] ∧ h = pM μ f ∧ mRu μ n ∧ Kn (some (.int (fOn (mAl μ) (mIm μ) n x n))) h
def tX6_closed : List Value → ZH → (Option Value → ZH → Prop) → Prop := fun a h Kn => ∃ (μ : zMS) (f : ZH) (n : Nat) (x : Int32), a = [.ref 29, .int x] ∧ h = pM μ f ∧ mRu μ n ∧ Kn (some (.int (fClo (mAl μ) (mIm μ) n x))) h
def tX6_hasCircle : List Value → ZH → (Option Value → ZH → Prop) → Prop := fun a h Kn => ∃ (μ : zMS) (f : ZH) (n : Nat), a = [.ref 29] ∧ h = pM μ f ∧ mRu μ n ∧ Kn (some (.int (zb (fCir (mAl μ) (mIm μ) n)))) h
def tX6_does : List Value → ZH → (Option Value → ZH → Prop) → Prop := fun a h Kn => ∃ (μ : zMS) (f : ZH) (t o : Nat) (k : Int32), a = [.ref 29, .int k, .int (nI t), .int (nI o)] ∧ h = pM μ f ∧ t < 24 ∧ o < 24 ∧ Kn none (pM (vRu μ (fDoA (mAl μ) k t o) (fDoI (mIm μ) k t o)) f)
def tX6_may : List Value → ZH → (Option Value → ZH → Prop) → Prop := fun a h Kn => ∃ (μ : zMS) (f : ZH) (n t o : Nat) (k : Int32), a = [.ref 29, .int k, .int (nI t), .int (nI o)] ∧ h = pM μ f ∧ mRu μ n ∧ t < n ∧ o < n ∧ okI k 4 ∧ ¬ t = o ∧ Kn (some (.int (zb (fMay (mAl μ) (mIm μ) n k t o)))) h
def tX6_shownOf : List Value → ZH → (Option Value → ZH → Prop) → Prop := fun a h Kn => ∃ (μ : zMS) (f : ZH) (n i : Nat), a = [.ref 29, .int (nI i)] ∧ h = pM μ f ∧ mRu μ n ∧ i < 20 ∧ Kn (some (.int (fSho (mAl μ) (mIm μ) n (mSe μ i)))) h
def tX6_far : List Value → ZH → (Option Value → ZH → Prop) → Prop := fun a h Kn => ∃ (μ : zMS) (f : ZH) (n s t : Nat), a = [.ref 29, .int (nI s), .int (nI t)] ∧ h = pM μ f ∧ mRu μ n ∧ s < n ∧ t < n ∧ Kn (some (.int (nI (fFar (mAl μ) (mIm μ) n t 25 0 (sh1 s))))) h
