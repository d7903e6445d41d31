/-! ===== what the public methods of the model do: answer and state ===== -/
abbrev zP := Int32 × zMS
def fOk (x n : Int32) : Bool := decide (0 ≤ x) && decide (x < n)
/-- a call that throws at place p, or goes on -/
def gH (μ : zMS) (p : Int32) (r : zMS → zP) : zP := if p = 0 then r (vThr μ 0) else (0, vThr μ p)
def gIs (b : Bool) : Int32 := if b then 0 else 1
def mInw (μ : zMS) (n m q k d : Nat) : Prop := mInv μ n m q k d ∧ ∀ i, i < q → okI (mKi μ i) 4 ∧ ¬ mSo μ i = mTa μ i
def gType (μ : zMS) (x : Int32) : zP := gH μ (if fSi x then (if mDl μ = 8 then 2 else 0) else 1) (fun μ => (mDl μ + 1, vDr μ (upd (mDr μ) (tn (mDl μ)) x) (mDl μ + 1)))
def gFd (μ : zMS) (d : Nat) : Nat → Int32
  | 0 => -1
  | t + 1 => if fIsD (mLe μ) (mLn μ) (mDr μ) d t then nI t else gFd μ d t
def gEnL (μ : zMS) : Nat → Nat → Int32 := fun d j => if tn (mTg μ) * 8 ≤ j ∧ j < tn (mTg μ) * 8 + d then mDr μ (j - tn (mTg μ) * 8) else mLe μ j
def gEnter (μ : zMS) : zP := gH μ (if mDl μ = 0 then 1 else if gFd μ (tn (mDl μ)) (tn (mTg μ)) = -1 then (if mTg μ = 24 then 1 else 0) else 0) (fun μ =>
  if gFd μ (tn (mDl μ)) (tn (mTg μ)) = -1 then (mTg μ, vNew μ 0 (mTg μ + 1) (gEnL μ (tn (mDl μ))) (upd (mLn μ) (tn (mTg μ)) (mDl μ))) else (gFd μ (tn (mDl μ)) (tn (mTg μ)), vDr μ (mDr μ) 0))
def gTags (μ : zMS) : zP := (mTg μ, vThr μ 0)
def gLetter (μ : zMS) (x y : Int32) : zP := if fOk x (mTg μ) && fOk y (mLn μ (tn x)) then (mLe μ (8 * tn x + tn y), vThr μ 0) else (32, vThr μ 1)
def gAddThing (μ : zMS) : zP := gH μ (if mTh μ = 20 then 1 else 0) (fun μ => (mTh μ, vTh μ (mTh μ + 1)))
def gThings (μ : zMS) : zP := (mTh μ, vThr μ 0)
def gBeg (μ : zMS) : zMS := if mKp μ = 20 then vKp μ 20 (upd (fun j => if j < 19 then mCh μ (j + 1) else mCh μ j) 19 0) (fun j => if j < 380 then mBe μ (j + 20) else mBe μ j) else vKp μ (mKp μ + 1) (upd (mCh μ) (tn (mKp μ)) 0) (mBe μ)
def gSets (μ : zMS) (i : Nat) (x : Int32) : zMS := vKp (vSe μ (upd (mSe μ) i x)) (mKp μ) (upd (mCh μ) (tn (mKp μ) - 1) (mCh μ (tn (mKp μ) - 1) ||| sh1 i)) (upd (mBe μ) (20 * (tn (mKp μ) - 1) + i) (mSe μ i))
def gS1 (μ : zMS) (i : Nat) (x : Int32) : zP := if mSe μ i = x then (0, μ) else (1, gSets (gBeg μ) i x)
def gThe (μ : zMS) (x y : Int32) : Bool := fOk x (mTh μ) && fOk y (mTg μ)
def gTag (μ : zMS) (x y : Int32) : zP := gH μ (gIs (gThe μ x y)) (fun μ => gS1 μ (tn x) (mSe μ (tn x) ||| sh1 (tn y)))
def gUntag (μ : zMS) (x y : Int32) : zP := gH μ (gIs (gThe μ x y)) (fun μ => gS1 μ (tn x) (mSe μ (tn x) &&& (sh1 (tn y) ^^^ (-1))))
def gEdi (al im : Nat → Int32) (n : Nat) (k : Int32) (t o : Nat) (x : Int32) : Int32 := if k = 2 then (if bt x t then (x &&& (sh1 t ^^^ (-1))) ||| sh1 o else x) else if bt (fSho al im n x) (fE al n n t) then (if k = 0 then x ||| sh1 o else x &&& (sh1 o ^^^ (-1))) else x
def gMs (μ : zMS) (n : Nat) (k : Int32) (t o : Nat) : Nat → Nat × zMS
  | 0 => (0, μ)
  | i + 1 => if gEdi (mAl μ) (mIm μ) n k t o (mSe (gMs μ n k t o i).2 i) = mSe (gMs μ n k t o i).2 i then gMs μ n k t o i
    else ((gMs μ n k t o i).1 + 1, gSets (if (gMs μ n k t o i).1 = 0 then gBeg (gMs μ n k t o i).2 else (gMs μ n k t o i).2) i (gEdi (mAl μ) (mIm μ) n k t o (mSe (gMs μ n k t o i).2 i)))
def gMass (μ : zMS) (k x y : Int32) : zP := gH μ (if fOk x (mTg μ) && fOk y (mTg μ) then (if fOk k 3 then 0 else 2) else 1) (fun μ => (nI (gMs μ (tn (mTg μ)) k (tn x) (tn y) (tn (mTh μ))).1, (gMs μ (tn (mTg μ)) k (tn x) (tn y) (tn (mTh μ))).2))
def gUnS (μ : zMS) (k i : Nat) : Nat → Int32 := fun j => if j < i then (if bt (mCh μ k) j then mBe μ (20 * k + j) else mSe μ j) else mSe μ j
def gUndo (μ : zMS) : zP := gH μ (if mKp μ = 0 then 1 else 0) (fun μ => (nI (fb_ct (bt (mCh μ (tn (mKp μ) - 1))) 32), vKp (vSe μ (gUnS μ (tn (mKp μ) - 1) 20)) (mKp μ - 1) (mCh μ) (mBe μ)))
def gKept (μ : zMS) : zP := (mKp μ, vThr μ 0)
def gHand (μ : zMS) (x : Int32) : zP := gH μ (gIs (fOk x (mTh μ))) (fun μ => (mSe μ (tn x), μ))
def gAsk (μ : zMS) (k x y : Int32) : zP := gH μ (if fOk x (mTg μ) && fOk y (mTg μ) then (if fOk k 4 then (if x = y then 2 else if mRq μ = 40 then 3 else 0) else 2) else 1) (fun μ => (mRq μ, vRq μ (mRq μ + 1) (upd (mKi μ) (tn (mRq μ)) k) (upd (mSo μ) (tn (mRq μ)) x) (upd (mTa μ) (tn (mRq μ)) y)))
def gCo (μ : zMS) (n i : Nat) : Bool := decide (mSt μ i = 0) && fMay (mAl μ) (mIm μ) n (mKi μ i) (tn (mSo μ i)) (tn (mTa μ i))
def gDo (μ : zMS) (i : Nat) : zMS := vRu μ (fDoA (mAl μ) (mKi μ i) (tn (mSo μ i)) (tn (mTa μ i))) (fDoI (mIm μ) (mKi μ i) (tn (mSo μ i)) (tn (mTa μ i)))
def gVoS (μ : zMS) (i v : Nat) (b : Bool) : zMS := vVo μ (upd (mVf μ) i (if b then mVf μ i ||| sh1 v else mVf μ i &&& (sh1 v ^^^ (-1)))) (upd (mVa μ) i (if b then mVa μ i &&& (sh1 v ^^^ (-1)) else mVa μ i ||| sh1 v)) (mSt μ)
def gVoL (μ : zMS) (i : Nat) : Int32 := nI (fb_ct (bt (mVf μ i)) 32) - nI (fb_ct (bt (mVa μ i)) 32)
def vSt (μ : zMS) (i : Nat) (x : Int32) : zMS := vVo μ (mVf μ) (mVa μ) (upd (mSt μ) i x)
def gVoE (μ : zMS) (n i : Nat) : zMS := if 3 ≤ gVoL μ i then (if gCo μ n i then gDo (vSt μ i 1) i else vSt μ i 2) else if gVoL μ i ≤ -3 then vSt μ i 2 else μ
def gVote (μ : zMS) (x y : Int32) (b : Bool) : zP := gH μ (if fOk x (mRq μ) then (if fOk y 10 then (if mSt μ (tn x) = 0 then 0 else 3) else 2) else 1) (fun μ => (mSt (gVoE (gVoS μ (tn x) (tn y) b) (tn (mTg μ)) (tn x)) (tn x), gVoE (gVoS μ (tn x) (tn y) b) (tn (mTg μ)) (tn x)))
def gStanding (μ : zMS) (x : Int32) : zP := gH μ (gIs (fOk x (mRq μ))) (fun μ => (mSt μ (tn x), μ))
def gCouldPass (μ : zMS) (x : Int32) : zP := gH μ (gIs (fOk x (mRq μ))) (fun μ => (zb (gCo μ (tn (mTg μ)) (tn x)), μ))
def gBd (μ : zMS) (n i j : Nat) : Bool := gCo (gDo μ j) n i
def gCl (μ : zMS) (n i : Nat) : Nat → Nat
  | 0 => 0
  | j + 1 => gCl μ n i j + (if decide (j ≠ i) && gCo μ n j && (!gBd μ n i j || !gBd μ n j i) then 1 else 0)
def gClashes (μ : zMS) (x : Int32) : zP := gH μ (gIs (fOk x (mRq μ))) (fun μ => (if gCo μ (tn (mTg μ)) (tn x) then nI (gCl μ (tn (mTg μ)) (tn x) (tn (mRq μ))) else 0, μ))
def gAlias (μ : zMS) (x : Int32) : zP := gH μ (gIs (fOk x (mTg μ))) (fun μ => (mAl μ (tn x), μ))
def gEnd (μ : zMS) (x : Int32) : zP := gH μ (gIs (fOk x (mTg μ))) (fun μ => (nI (fE (mAl μ) (tn (mTg μ)) (tn (mTg μ)) (tn x)), μ))
def gImplies (μ : zMS) (x y : Int32) : zP := gH μ (gIs (fOk x (mTg μ) && fOk y (mTg μ))) (fun μ => (zb (bt (mIm μ (tn x)) (tn y)), μ))
def gSh (μ : zMS) (n i : Nat) : Int32 := fSho (mAl μ) (mIm μ) n (mSe μ i)
def gShown (μ : zMS) (x : Int32) : zP := gH μ (gIs (fOk x (mTh μ))) (fun μ => (gSh μ (tn (mTg μ)) (tn x), μ))
def gUs (μ : zMS) (n t : Nat) : Nat → Nat
  | 0 => 0
  | i + 1 => gUs μ n t i + (if bt (gSh μ n i) t then 1 else 0)
def gUsers (μ : zMS) (x : Int32) : zP := gH μ (gIs (fOk x (mTg μ))) (fun μ => (nI (gUs μ (tn (mTg μ)) (tn x) (tn (mTh μ))), μ))
def gRe (μ : zMS) (n i t : Nat) : Nat → Int32
  | 0 => -1
  | j + 1 => if bt (mSe μ i) j && (decide (fFar (mAl μ) (mIm μ) n t 25 0 (sh1 (fE (mAl μ) n n j)) ≤ 24) && (decide (gRe μ n i t j = -1) || decide (nI (fFar (mAl μ) (mIm μ) n t 25 0 (sh1 (fE (mAl μ) n n j))) < gRe μ n i t j / 100))) then nI (100 * fFar (mAl μ) (mIm μ) n t 25 0 (sh1 (fE (mAl μ) n n j)) + j) else gRe μ n i t j
def gReason (μ : zMS) (x y : Int32) : zP := gH μ (gIs (gThe μ x y)) (fun μ => (if bt (gSh μ (tn (mTg μ)) (tn x)) (tn y) then gRe μ (tn (mTg μ)) (tn x) (tn y) (tn (mTg μ)) else -1, μ))
def gSet3 (n : Nat) (x y z : Int32) : Bool := (decide (0 ≤ x) && decide (x < sh1 n)) && ((decide (0 ≤ y) && decide (y < sh1 n)) && (decide (0 ≤ z) && decide (z < sh1 n)))
def gMt (μ : zMS) (n i : Nat) (x y z : Int32) : Bool := decide (fEnds (mAl μ) n x n &&& (gSh μ n i ^^^ (-1)) = 0) && ((decide (y = 0) || !decide (fEnds (mAl μ) n y n &&& gSh μ n i = 0)) && decide (fEnds (mAl μ) n z n &&& gSh μ n i = 0))
def gMm (μ : zMS) (n : Nat) (x y z : Int32) : Nat → Nat
  | 0 => 0
  | i + 1 => gMm μ n x y z i + (if gMt μ n i x y z then 1 else 0)
def gCount (μ : zMS) (x y z : Int32) : zP := gH μ (gIs (gSet3 (tn (mTg μ)) x y z)) (fun μ => (nI (gMm μ (tn (mTg μ)) x y z (tn (mTh μ))), μ))
/-- the first thing from i on that matches and has left = number of the matches below it -/
def gAt (μ : zMS) (n : Nat) (x y z : Int32) (p : Nat) : Nat → Nat → Nat
  | 0, i => i
  | f + 1, i => if gMt μ n i x y z && decide (gMm μ n x y z i = p) then i else gAt μ n x y z p f (i + 1)
def gMatch (μ : zMS) (p x y z : Int32) : zP := gH μ (if p < 0 then 1 else if gSet3 (tn (mTg μ)) x y z then (if p < nI (gMm μ (tn (mTg μ)) x y z (tn (mTh μ))) then 0 else 1) else 2) (fun μ => (nI (gAt μ (tn (mTg μ)) x y z (tn p) (tn (mTh μ)) 0), μ))

def tX6_type : List Value → ZH → (Option Value → ZH → Prop) → Prop := fun a h Kn => ∃ (μ : zMS) (f : ZH) (n m q k d : Nat) (x : Int32), a = [.ref 29, .int x] ∧ h = pM μ f ∧ mInw μ n m q k d ∧ isCh x ∧ Kn (some (.int (gType μ x).1)) (pM (gType μ x).2 f)
def tX6_enter : List Value → ZH → (Option Value → ZH → Prop) → Prop := fun a h Kn => ∃ (μ : zMS) (f : ZH) (n m q k d : Nat), a = [.ref 29] ∧ h = pM μ f ∧ mInw μ n m q k d ∧ Kn (some (.int (gEnter μ).1)) (pM (gEnter μ).2 f)
def tX6_tags : List Value → ZH → (Option Value → ZH → Prop) → Prop := fun a h Kn => ∃ (μ : zMS) (f : ZH) (n m q k d : Nat), a = [.ref 29] ∧ h = pM μ f ∧ mInw μ n m q k d ∧ Kn (some (.int (gTags μ).1)) (pM (gTags μ).2 f)
def tX6_letter : List Value → ZH → (Option Value → ZH → Prop) → Prop := fun a h Kn => ∃ (μ : zMS) (f : ZH) (n m q k d : Nat) (x : Int32) (y : Int32), a = [.ref 29, .int x, .int y] ∧ h = pM μ f ∧ mInw μ n m q k d ∧ Kn (some (.int (gLetter μ x y).1)) (pM (gLetter μ x y).2 f)
def tX6_addThing : List Value → ZH → (Option Value → ZH → Prop) → Prop := fun a h Kn => ∃ (μ : zMS) (f : ZH) (n m q k d : Nat), a = [.ref 29] ∧ h = pM μ f ∧ mInw μ n m q k d ∧ Kn (some (.int (gAddThing μ).1)) (pM (gAddThing μ).2 f)
def tX6_things : List Value → ZH → (Option Value → ZH → Prop) → Prop := fun a h Kn => ∃ (μ : zMS) (f : ZH) (n m q k d : Nat), a = [.ref 29] ∧ h = pM μ f ∧ mInw μ n m q k d ∧ Kn (some (.int (gThings μ).1)) (pM (gThings μ).2 f)
def tX6_begins : List Value → ZH → (Option Value → ZH → Prop) → Prop := fun a h Kn => ∃ (μ : zMS) (f : ZH) (k : Nat), a = [.ref 29] ∧ h = pM μ f ∧ mKp μ = nI k ∧ k ≤ 20 ∧ Kn none (pM (gBeg μ) f)
def tX6_sets : List Value → ZH → (Option Value → ZH → Prop) → Prop := fun a h Kn => ∃ (μ : zMS) (f : ZH) (k i : Nat) (x : Int32), a = [.ref 29, .int (nI i), .int x] ∧ h = pM μ f ∧ mKp μ = nI (k + 1) ∧ k < 20 ∧ i < 20 ∧ Kn none (pM (gSets μ i x) f)
def tX6_setsOne : List Value → ZH → (Option Value → ZH → Prop) → Prop := fun a h Kn => ∃ (μ : zMS) (f : ZH) (k i : Nat) (x : Int32), a = [.ref 29, .int (nI i), .int x] ∧ h = pM μ f ∧ mKp μ = nI k ∧ k ≤ 20 ∧ i < 20 ∧ Kn (some (.int (gS1 μ i x).1)) (pM (gS1 μ i x).2 f)
def tX6_areThere : List Value → ZH → (Option Value → ZH → Prop) → Prop := fun a h Kn => ∃ (μ : zMS) (f : ZH) (n m q k d : Nat) (x y : Int32), a = [.ref 29, .int x, .int y] ∧ h = pM μ f ∧ mInw μ n m q k d ∧ Kn (some (.int (zb (gThe μ x y)))) (pM (vThr μ (gIs (gThe μ x y))) f)
def tX6_tag : List Value → ZH → (Option Value → ZH → Prop) → Prop := fun a h Kn => ∃ (μ : zMS) (f : ZH) (n m q k d : Nat) (x : Int32) (y : Int32), a = [.ref 29, .int x, .int y] ∧ h = pM μ f ∧ mInw μ n m q k d ∧ Kn (some (.int (gTag μ x y).1)) (pM (gTag μ x y).2 f)
def tX6_untag : List Value → ZH → (Option Value → ZH → Prop) → Prop := fun a h Kn => ∃ (μ : zMS) (f : ZH) (n m q k d : Nat) (x : Int32) (y : Int32), a = [.ref 29, .int x, .int y] ∧ h = pM μ f ∧ mInw μ n m q k d ∧ Kn (some (.int (gUntag μ x y).1)) (pM (gUntag μ x y).2 f)
def tX6_edited : List Value → ZH → (Option Value → ZH → Prop) → Prop := fun a h Kn => ∃ (μ : zMS) (f : ZH) (n i t o : Nat) (k : Int32), a = [.ref 29, .int k, .int (nI i), .int (nI t), .int (nI o)] ∧ h = pM μ f ∧ mRu μ n ∧ i < 20 ∧ t < n ∧ o < n ∧ Kn (some (.int (gEdi (mAl μ) (mIm μ) n k t o (mSe μ i)))) h
def tX6_mass : List Value → ZH → (Option Value → ZH → Prop) → Prop := fun a h Kn => ∃ (μ : zMS) (f : ZH) (n m q k d : Nat) (x : Int32) (y : Int32) (z : Int32), a = [.ref 29, .int x, .int y, .int z] ∧ h = pM μ f ∧ mInw μ n m q k d ∧ Kn (some (.int (gMass μ x y z).1)) (pM (gMass μ x y z).2 f)
def tX6_undo : List Value → ZH → (Option Value → ZH → Prop) → Prop := fun a h Kn => ∃ (μ : zMS) (f : ZH) (n m q k d : Nat), a = [.ref 29] ∧ h = pM μ f ∧ mInw μ n m q k d ∧ Kn (some (.int (gUndo μ).1)) (pM (gUndo μ).2 f)
def tX6_kept : List Value → ZH → (Option Value → ZH → Prop) → Prop := fun a h Kn => ∃ (μ : zMS) (f : ZH) (n m q k d : Nat), a = [.ref 29] ∧ h = pM μ f ∧ mInw μ n m q k d ∧ Kn (some (.int (gKept μ).1)) (pM (gKept μ).2 f)
def tX6_hand : List Value → ZH → (Option Value → ZH → Prop) → Prop := fun a h Kn => ∃ (μ : zMS) (f : ZH) (n m q k d : Nat) (x : Int32), a = [.ref 29, .int x] ∧ h = pM μ f ∧ mInw μ n m q k d ∧ Kn (some (.int (gHand μ x).1)) (pM (gHand μ x).2 f)
def tX6_ask : List Value → ZH → (Option Value → ZH → Prop) → Prop := fun a h Kn => ∃ (μ : zMS) (f : ZH) (n m q k d : Nat) (x : Int32) (y : Int32) (z : Int32), a = [.ref 29, .int x, .int y, .int z] ∧ h = pM μ f ∧ mInw μ n m q k d ∧ Kn (some (.int (gAsk μ x y z).1)) (pM (gAsk μ x y z).2 f)
def tX6_could : List Value → ZH → (Option Value → ZH → Prop) → Prop := fun a h Kn => ∃ (μ : zMS) (f : ZH) (n m q k d i : Nat), a = [.ref 29, .int (nI i)] ∧ h = pM μ f ∧ mInw μ n m q k d ∧ i < q ∧ Kn (some (.int (zb (gCo μ n i)))) h
def tX6_vote : List Value → ZH → (Option Value → ZH → Prop) → Prop := fun a h Kn => ∃ (μ : zMS) (f : ZH) (n m q k d : Nat) (x : Int32) (y : Int32) (b : Bool), a = [.ref 29, .int x, .int y, .int (zb b)] ∧ h = pM μ f ∧ mInw μ n m q k d ∧ Kn (some (.int (gVote μ x y b).1)) (pM (gVote μ x y b).2 f)
def tX6_standing : List Value → ZH → (Option Value → ZH → Prop) → Prop := fun a h Kn => ∃ (μ : zMS) (f : ZH) (n m q k d : Nat) (x : Int32), a = [.ref 29, .int x] ∧ h = pM μ f ∧ mInw μ n m q k d ∧ Kn (some (.int (gStanding μ x).1)) (pM (gStanding μ x).2 f)
def tX6_couldPass : List Value → ZH → (Option Value → ZH → Prop) → Prop := fun a h Kn => ∃ (μ : zMS) (f : ZH) (n m q k d : Nat) (x : Int32), a = [.ref 29, .int x] ∧ h = pM μ f ∧ mInw μ n m q k d ∧ Kn (some (.int (gCouldPass μ x).1)) (pM (gCouldPass μ x).2 f)
def tX6_couldBehind : List Value → ZH → (Option Value → ZH → Prop) → Prop := fun a h Kn => ∃ (μ : zMS) (f : ZH) (n m q k d i j : Nat), a = [.ref 29, .int (nI i), .int (nI j)] ∧ h = pM μ f ∧ mInw μ n m q k d ∧ i < q ∧ j < q ∧ gCo μ n j = true ∧ Kn (some (.int (zb (gBd μ n i j)))) h
def tX6_clashes : List Value → ZH → (Option Value → ZH → Prop) → Prop := fun a h Kn => ∃ (μ : zMS) (f : ZH) (n m q k d : Nat) (x : Int32), a = [.ref 29, .int x] ∧ h = pM μ f ∧ mInw μ n m q k d ∧ Kn (some (.int (gClashes μ x).1)) (pM (gClashes μ x).2 f)
def tX6_alias : List Value → ZH → (Option Value → ZH → Prop) → Prop := fun a h Kn => ∃ (μ : zMS) (f : ZH) (n m q k d : Nat) (x : Int32), a = [.ref 29, .int x] ∧ h = pM μ f ∧ mInw μ n m q k d ∧ Kn (some (.int (gAlias μ x).1)) (pM (gAlias μ x).2 f)
def tX6_end : List Value → ZH → (Option Value → ZH → Prop) → Prop := fun a h Kn => ∃ (μ : zMS) (f : ZH) (n m q k d : Nat) (x : Int32), a = [.ref 29, .int x] ∧ h = pM μ f ∧ mInw μ n m q k d ∧ Kn (some (.int (gEnd μ x).1)) (pM (gEnd μ x).2 f)
def tX6_implies : List Value → ZH → (Option Value → ZH → Prop) → Prop := fun a h Kn => ∃ (μ : zMS) (f : ZH) (n m q k d : Nat) (x : Int32) (y : Int32), a = [.ref 29, .int x, .int y] ∧ h = pM μ f ∧ mInw μ n m q k d ∧ Kn (some (.int (gImplies μ x y).1)) (pM (gImplies μ x y).2 f)
def tX6_shown : List Value → ZH → (Option Value → ZH → Prop) → Prop := fun a h Kn => ∃ (μ : zMS) (f : ZH) (n m q k d : Nat) (x : Int32), a = [.ref 29, .int x] ∧ h = pM μ f ∧ mInw μ n m q k d ∧ Kn (some (.int (gShown μ x).1)) (pM (gShown μ x).2 f)
def tX6_shownByHand : List Value → ZH → (Option Value → ZH → Prop) → Prop := fun a h Kn => ∃ (μ : zMS) (f : ZH) (n m q k d : Nat) (x : Int32), a = [.ref 29, .int x] ∧ h = pM μ f ∧ mInw μ n m q k d ∧ Kn (some (.int (gShown μ x).1)) (pM (gShown μ x).2 f)
def tX6_users : List Value → ZH → (Option Value → ZH → Prop) → Prop := fun a h Kn => ∃ (μ : zMS) (f : ZH) (n m q k d : Nat) (x : Int32), a = [.ref 29, .int x] ∧ h = pM μ f ∧ mInw μ n m q k d ∧ Kn (some (.int (gUsers μ x).1)) (pM (gUsers μ x).2 f)
def tX6_reason : List Value → ZH → (Option Value → ZH → Prop) → Prop := fun a h Kn => ∃ (μ : zMS) (f : ZH) (n m q k d : Nat) (x : Int32) (y : Int32), a = [.ref 29, .int x, .int y] ∧ h = pM μ f ∧ mInw μ n m q k d ∧ Kn (some (.int (gReason μ x y).1)) (pM (gReason μ x y).2 f)
def tX6_areSets : List Value → ZH → (Option Value → ZH → Prop) → Prop := fun a h Kn => ∃ (μ : zMS) (f : ZH) (n : Nat) (x y z : Int32), a = [.ref 29, .int x, .int y, .int z] ∧ h = pM μ f ∧ mTg μ = nI n ∧ n ≤ 24 ∧ Kn (some (.int (zb (gSet3 n x y z)))) h
def tX6_isMatch : List Value → ZH → (Option Value → ZH → Prop) → Prop := fun a h Kn => ∃ (μ : zMS) (f : ZH) (n i : Nat) (x y z : Int32), a = [.ref 29, .int (nI i), .int x, .int y, .int z] ∧ h = pM μ f ∧ mRu μ n ∧ i < 20 ∧ Kn (some (.int (zb (gMt μ n i x y z)))) h
def tX6_matches : List Value → ZH → (Option Value → ZH → Prop) → Prop := fun a h Kn => ∃ (μ : zMS) (f : ZH) (n m : Nat) (x y z : Int32), a = [.ref 29, .int x, .int y, .int z] ∧ h = pM μ f ∧ mRu μ n ∧ mTh μ = nI m ∧ m ≤ 20 ∧ Kn (some (.int (nI (gMm μ n x y z m)))) h
def tX6_count : List Value → ZH → (Option Value → ZH → Prop) → Prop := fun a h Kn => ∃ (μ : zMS) (f : ZH) (n m q k d : Nat) (x : Int32) (y : Int32) (z : Int32), a = [.ref 29, .int x, .int y, .int z] ∧ h = pM μ f ∧ mInw μ n m q k d ∧ Kn (some (.int (gCount μ x y z).1)) (pM (gCount μ x y z).2 f)
def tX6_match : List Value → ZH → (Option Value → ZH → Prop) → Prop := fun a h Kn => ∃ (μ : zMS) (f : ZH) (n m q k d : Nat) (p : Int32) (x : Int32) (y : Int32) (z : Int32), a = [.ref 29, .int p, .int x, .int y, .int z] ∧ h = pM μ f ∧ mInw μ n m q k d ∧ Kn (some (.int (gMatch μ p x y z).1)) (pM (gMatch μ p x y z).2 f)
