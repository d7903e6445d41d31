/-! ===== what the law's own methods do ===== -/
def sr (v k : Int32) : Int32 := v >>> (k &&& 31)
theorem sr_def (v k : Int32) : v >>> (k &&& 31) = sr v k := rfl
def gLow (v n : Int32) : Int32 := (v &&& 2147483647) - (v &&& 2147483647) / n * n
/-- a call in a try: its answer, or -99999 and all as it was -/
def gX (μ : zMS) (g : zP) : zP := if g.2.1 = 0 then g else (-99999, μ)
def gBl (g : zP) : zP := (if g.1 = 0 then 0 else 1, g.2)
def gDoes (μ : zMS) (h a b c : Int32) : zP :=
  gX μ (if h = 0 then gAddThing μ else if h = 1 then gBl (gTag μ a b) else if h = 2 then gBl (gUntag μ a b) else if h = 3 then gMass μ a b c else if h = 4 then gUndo μ else if h = 5 then gAsk μ a b c else if h < 8 then gVote μ a b (decide (h = 6)) else gEnter μ)
def gTyp (μ : zMS) (x : Int32) : zP := gX μ (gType μ x)
def fChr (x : Int32) : Int32 := (x.toUInt32 % 65536).toInt32
def gOdd (v : Int32) : Bool := decide (gLow (sr v 24) 8 = 0)
/-- a number that may be out of range, or one below n -/
def gSome (v sh big n : Int32) : Int32 := if gOdd v then gLow (sr v sh) big - 1 else gLow (sr v sh) n
def gKind (v : Int32) : Int32 := if gOdd v then gLow (sr v 13) 6 - 1 else if gLow v 40 < 21 then 0 else if gLow v 40 < 25 then 1 else if gLow v 40 < 26 then 2 else 3
/-- asked for, and voted for by two -/
def gAsk2 (q : zP) : zP := if q.1 < 0 then q else
  if (gDoes q.2 6 q.1 0 0).1 = 0 then (if (gDoes (gDoes q.2 6 q.1 0 0).2 6 q.1 1 0).1 = 0 then (q.1, (gDoes (gDoes q.2 6 q.1 0 0).2 6 q.1 1 0).2) else (-77777, (gDoes (gDoes q.2 6 q.1 0 0).2 6 q.1 1 0).2)) else (-77777, (gDoes q.2 6 q.1 0 0).2)
def gAct (μ : zMS) (v : Int32) : zP :=
  if gLow v 40 < 4 then (if gLow v 40 < 2 then gTyp μ (fChr (if gOdd v then gLow (sr v 5) 128 else 97 + gLow (sr v 5) 3)) else if gLow v 40 = 2 then gDoes μ 8 0 0 0 else gDoes μ 0 0 0 0)
  else if gLow v 40 < 14 then gDoes μ (if gLow v 40 < 11 then 1 else 2) (gSome v 4 24 (mTh μ)) (gSome v 6 26 (mTg μ)) 0
  else if gLow v 40 < 18 then (if gLow v 40 < 17 then gDoes μ 3 (gSome v 13 5 3) (gSome v 6 26 (mTg μ)) (gSome v 9 26 (mTg μ)) else gDoes μ 4 0 0 0)
  else if gLow v 40 < 28 then gAsk2 (gDoes μ 5 (gKind v) (gSome v 6 26 (mTg μ)) (gSome v 9 26 (mTg μ)))
  else gDoes μ (if 0 < (sr v 12) &&& 7 then 6 else 7) (gLow (sr v 5) (if gOdd v then 44 else 24)) (gLow (sr v 9) (if gOdd v then 12 else 10)) 0
def qM (i : Bool) (μ ν : zMS) : zMS := match i with
  | false => μ
  | true => ν
def qPut (i : Bool) (μ ν x : zMS) (f : zMS → zMS → Prop) : Prop := match i with
  | false => f x ν
  | true => f μ x
theorem qmu_M {i : Bool} {μ ν : zMS} {j : Nat × Nat} : qmu i (μ, ν, j) = qM i μ ν := by cases i <;> rfl
/-- each name has a character -/
def zLn (μ : zMS) : Prop := ∀ t, t < tn (mTg μ) → 0 < mLn μ t
/-- as many tags, things and requests, with names as long -/
def qSame (μ μ' : zMS) : Prop := mTg μ' = mTg μ ∧ mTh μ' = mTh μ ∧ mRq μ' = mRq μ ∧ mLn μ' = mLn μ
def qix (r : Nat) : Bool := decide (r = 29)
theorem qix_qob {i : Bool} : qix (qob i) = i := by cases i <;> rfl
theorem qix_0 : qix 0 = false := rfl
theorem qix_29 : qix 29 = true := rfl
theorem qob_f : qob false = 0 := rfl
theorem qob_t : qob true = 29 := rfl
theorem qM_f {μ ν : zMS} : qM false μ ν = μ := rfl
theorem qM_t {μ ν : zMS} : qM true μ ν = ν := rfl
theorem qset_f {t : QQ} {μ : zMS} : qset false t μ = (μ, t.2) := rfl
theorem qset_t {t : QQ} {μ : zMS} : qset true t μ = (t.1, μ, t.2.2) := rfl
theorem i01 : ((0 : Int32) = 1) = False := by simp
theorem i10 : ((1 : Int32) = 0) = False := by simp
def tL_low (a : List Value) (μ ν : zMS) (Kn : QK) : Prop := match a with
  | [.int v, .int n] => ¬ n = 0 ∧ Kn (gLow v n) μ ν 0
  | _ => False
def tL_type (a : List Value) (μ ν : zMS) (Kn : QK) : Prop := match a with
  | [.ref r, .int x] => qob (qix r) = r ∧ isCh x ∧ ∀ g, qPut (qix r) μ ν (gTyp (qM (qix r) μ ν) x).2 (fun μ' ν' => Kn (gTyp (qM (qix r) μ ν) x).1 μ' ν' g)
  | _ => False
theorem tL_type_i {a : List Value} {μ ν : zMS} {Kn : QK} (h : tL_type a μ ν Kn) : ∃ (i : Bool) (x : Int32), a = [.ref (qob i), .int x] ∧ isCh x ∧ ∀ g, qPut i μ ν (gTyp (qM i μ ν) x).2 (fun μ' ν' => Kn (gTyp (qM i μ ν) x).1 μ' ν' g) := by
  unfold tL_type at h
  split at h
  · next r x => exact ⟨qix r, x, by rw [h.1], h.2⟩
  · exact h.elim
def tL_standing (a : List Value) (μ ν : zMS) (Kn : QK) : Prop := match a with
  | [.ref r, .int x] => qob (qix r) = r ∧ (fOk x (mRq (qM (qix r) μ ν)) = true → Kn (mSt (qM (qix r) μ ν) (tn x)) μ ν 0) ∧ (fOk x (mRq (qM (qix r) μ ν)) = false → Kn (-99999) μ ν 1)
  | _ => False
theorem tL_standing_i {a : List Value} {μ ν : zMS} {Kn : QK} (h : tL_standing a μ ν Kn) : ∃ (i : Bool) (x : Int32), a = [.ref (qob i), .int x] ∧ (fOk x (mRq (qM i μ ν)) = true → Kn (mSt (qM i μ ν) (tn x)) μ ν 0) ∧ (fOk x (mRq (qM i μ ν)) = false → Kn (-99999) μ ν 1) := by
  unfold tL_standing at h
  split at h
  · next r x => exact ⟨qix r, x, by rw [h.1], h.2⟩
  · exact h.elim
def tL_match (a : List Value) (μ ν : zMS) (Kn : QK) : Prop := match a with
  | [.ref r, .int p, .int x, .int y, .int z] => qob (qix r) = r ∧ gSet3 (tn (mTg (qM (qix r) μ ν))) x y z = true ∧ ∀ v g, Kn v μ ν g
  | _ => False
theorem tL_match_i {a : List Value} {μ ν : zMS} {Kn : QK} (h : tL_match a μ ν Kn) : ∃ (i : Bool) (p x y z : Int32), a = [.ref (qob i), .int p, .int x, .int y, .int z] ∧ gSet3 (tn (mTg (qM i μ ν))) x y z = true ∧ ∀ v g, Kn v μ ν g := by
  unfold tL_match at h
  split at h
  · next r p x y z => exact ⟨qix r, p, x, y, z, by rw [h.1], h.2⟩
  · exact h.elim
def tL_does (a : List Value) (μ ν : zMS) (Kn : QK) : Prop := match a with
  | [.ref r, .int h, .int x, .int y, .int z] => qob (qix r) = r ∧ ∀ g, qPut (qix r) μ ν (gDoes (qM (qix r) μ ν) h x y z).2 (fun μ' ν' => Kn (gDoes (qM (qix r) μ ν) h x y z).1 μ' ν' g)
  | _ => False
theorem tL_does_i {a : List Value} {μ ν : zMS} {Kn : QK} (h9 : tL_does a μ ν Kn) : ∃ (i : Bool) (h x y z : Int32), a = [.ref (qob i), .int h, .int x, .int y, .int z] ∧ ∀ g, qPut i μ ν (gDoes (qM i μ ν) h x y z).2 (fun μ' ν' => Kn (gDoes (qM i μ ν) h x y z).1 μ' ν' g) := by
  unfold tL_does at h9
  split at h9
  · next r h x y z => exact ⟨qix r, h, x, y, z, by rw [h9.1], h9.2⟩
  · exact h9.elim
def tL_act (a : List Value) (μ ν : zMS) (Kn : QK) : Prop := match a with
  | [.ref r, .int v] => qob (qix r) = r ∧ ¬ mTg (qM (qix r) μ ν) = 0 ∧ ¬ mTh (qM (qix r) μ ν) = 0 ∧ ∀ g, qPut (qix r) μ ν (gAct (qM (qix r) μ ν) v).2 (fun μ' ν' => Kn (gAct (qM (qix r) μ ν) v).1 μ' ν' g)
  | _ => False
theorem tL_act_i {a : List Value} {μ ν : zMS} {Kn : QK} (h : tL_act a μ ν Kn) : ∃ (i : Bool) (v : Int32), a = [.ref (qob i), .int v] ∧ ¬ mTg (qM i μ ν) = 0 ∧ ¬ mTh (qM i μ ν) = 0 ∧ ∀ g, qPut i μ ν (gAct (qM i μ ν) v).2 (fun μ' ν' => Kn (gAct (qM i μ ν) v).1 μ' ν' g) := by
  unfold tL_act at h
  split at h
  · next r v => exact ⟨qix r, v, by rw [h.1], h.2⟩
  · exact h.elim
def tL_areAlike (a : List Value) (μ ν : zMS) (Kn : QK) : Prop := match a with
  | [.ref r, .ref r2] => r = 0 ∧ r2 = 29 ∧ μ = ν ∧ mOk μ ∧ zLn μ ∧ ∀ b g, (b = 0 ∨ b = 1) → (b = 1 → 80 ≤ g + 2 * tn (mRq μ)) → Kn b μ ν g
  | _ => False
def tL_areShownSo (a : List Value) (μ ν : zMS) (Kn : QK) : Prop := match a with
  | [.ref r, .int x] => qob (qix r) = r ∧ mOk (qM (qix r) μ ν) ∧ fOk x (mTh (qM (qix r) μ ν)) = true ∧ ∀ b g, (b = 0 ∨ b = 1) → Kn b μ ν g
  | _ => False
theorem tL_areShownSo_i {a : List Value} {μ ν : zMS} {Kn : QK} (h : tL_areShownSo a μ ν Kn) : ∃ (i : Bool) (x : Int32), a = [.ref (qob i), .int x] ∧ mOk (qM i μ ν) ∧ fOk x (mTh (qM i μ ν)) = true ∧ ∀ b g, (b = 0 ∨ b = 1) → Kn b μ ν g := by
  unfold tL_areShownSo at h
  split at h
  · next r x => exact ⟨qix r, x, by rw [h.1], h.2⟩
  · exact h.elim
def tL_areRulesSo (a : List Value) (μ ν : zMS) (Kn : QK) : Prop := match a with
  | [.ref r] => qob (qix r) = r ∧ mOk (qM (qix r) μ ν) ∧ ∀ b g, (b = 0 ∨ b = 1) → Kn b μ ν g
  | _ => False
theorem tL_areRulesSo_i {a : List Value} {μ ν : zMS} {Kn : QK} (h : tL_areRulesSo a μ ν Kn) : ∃ (i : Bool), a = [.ref (qob i)] ∧ mOk (qM i μ ν) ∧ ∀ b g, (b = 0 ∨ b = 1) → Kn b μ ν g := by
  unfold tL_areRulesSo at h
  split at h
  · next r  => exact ⟨qix r, by rw [h.1], h.2⟩
  · exact h.elim
def tL_areCountedSo (a : List Value) (μ ν : zMS) (Kn : QK) : Prop := match a with
  | [.ref r, .int x, .int y, .int z] => qob (qix r) = r ∧ mOk (qM (qix r) μ ν) ∧ gSet3 (tn (mTg (qM (qix r) μ ν))) x y z = true ∧ ∀ b g, (b = 0 ∨ b = 1) → Kn b μ ν g
  | _ => False
theorem tL_areCountedSo_i {a : List Value} {μ ν : zMS} {Kn : QK} (h : tL_areCountedSo a μ ν Kn) : ∃ (i : Bool) (x y z : Int32), a = [.ref (qob i), .int x, .int y, .int z] ∧ mOk (qM i μ ν) ∧ gSet3 (tn (mTg (qM i μ ν))) x y z = true ∧ ∀ b g, (b = 0 ∨ b = 1) → Kn b μ ν g := by
  unfold tL_areCountedSo at h
  split at h
  · next r x y z => exact ⟨qix r, x, y, z, by rw [h.1], h.2⟩
  · exact h.elim
def tL_isUndoneSo (a : List Value) (μ ν : zMS) (Kn : QK) : Prop := match a with
  | [.ref r, .ref r2, .int x, .int y, .int k] => r = 0 ∧ r2 = 29 ∧ μ = ν ∧ mOk μ ∧ fOk x (mTh μ) = true ∧ fOk y (mTg μ) = true ∧ fOk k 3 = true ∧ ∀ b μ' ν', (b = 0 ∨ b = 1) → (b = 1 → μ' = ν' ∧ mOk μ' ∧ qSame μ μ') → Kn b μ' ν' 0
  | _ => False
/-! calls that read leave all as it was -/
section RO
variable {μ : zMS} {x y z : Int32}
theorem ro_tags : ∃ k, (gTags μ).2 = vThr μ k := ⟨0, rfl⟩
theorem ro_things : ∃ k, (gThings μ).2 = vThr μ k := ⟨0, rfl⟩
theorem ro_kept : ∃ k, (gKept μ).2 = vThr μ k := ⟨0, rfl⟩
theorem ro_letter : ∃ k, (gLetter μ x y).2 = vThr μ k := by
  unfold gLetter
  split
  · exact ⟨0, rfl⟩
  · exact ⟨1, rfl⟩
theorem ro_hand : ∃ k, (gHand μ x).2 = vThr μ k := ⟨_, ro_gH⟩
theorem ro_standing : ∃ k, (gStanding μ x).2 = vThr μ k := ⟨_, ro_gH⟩
theorem ro_couldPass : ∃ k, (gCouldPass μ x).2 = vThr μ k := ⟨_, ro_gH⟩
theorem ro_clashes : ∃ k, (gClashes μ x).2 = vThr μ k := ⟨_, ro_gH⟩
theorem ro_alias : ∃ k, (gAlias μ x).2 = vThr μ k := ⟨_, ro_gH⟩
theorem ro_end : ∃ k, (gEnd μ x).2 = vThr μ k := ⟨_, ro_gH⟩
theorem ro_implies : ∃ k, (gImplies μ x y).2 = vThr μ k := ⟨_, ro_gH⟩
theorem ro_shown : ∃ k, (gShown μ x).2 = vThr μ k := ⟨_, ro_gH⟩
theorem ro_shownByHand : ∃ k, (gShown μ x).2 = vThr μ k := ⟨_, ro_gH⟩
theorem ro_users : ∃ k, (gUsers μ x).2 = vThr μ k := ⟨_, ro_gH⟩
theorem ro_reason : ∃ k, (gReason μ x y).2 = vThr μ k := ⟨_, ro_gH⟩
theorem ro_count : ∃ k, (gCount μ x y z).2 = vThr μ k := ⟨_, ro_gH⟩
theorem ro_match {p : Int32} : ∃ k, (gMatch μ p x y z).2 = vThr μ k := ⟨_, ro_gH⟩
end RO
theorem w21_n : ∀ k, ¬ w21 k = 0 := fun k => by unfold w21; (repeat' split) <;> decide
theorem w01_n : ∀ k, ¬ w01 k = 0 := fun k => by unfold w01; (repeat' split) <;> decide
theorem w11_n : ∀ k, ¬ w11 k = 0 := fun k => by unfold w11; decide
theorem sim_vote2 {σ : zTS} {μ : zMS} {x y z : Int32} (h : zRel σ μ) (hz : z = 0 ∨ z = 1) : zSim w21 eX5_vote tX5_vote (qI [x, y, z]) σ (gVote μ x y (decide (z = 1))) := by
  rcases hz with rfl | rfl
  · exact sim_vote (b := false) h
  · exact sim_vote (b := true) h
