section S5
/-! THE RELATION of the class's state and the model's, and what a call must keep -/
def zsl (s k i : Nat) : Nat := (s + 20 - k + i) % 20
def zHd (n m k s : Nat) (η : zHS) (se ch be : Nat → Int32) : Prop :=
  η.1 = se ∧ (∀ j, m ≤ j → se j = 0) ∧ (∀ i b, bt (se i) b = true → b < n) ∧
  ∀ i, i < k → η.2.2.1 (zsl s k i) = ch i ∧ ∀ j, bt (ch i) j = true → j < m ∧ η.2.2.2.1 (zsl s k i * 20 + j) = be (20 * i + j) ∧ ∀ b, bt (be (20 * i + j)) b = true → b < n
def zUn (n : Nat) (le ln : Nat → Int32) : Prop := ∀ t1 t2, t1 < n → t2 < n → ¬ t1 = t2 → ∀ e, e ≤ 8 → ln t1 = nI e → ln t2 = nI e → ∃ i, i < e ∧ ¬ fPl (le (t1 * 8 + i)) = fPl (le (t2 * 8 + i))
def zRel9 (σ : zTS) (μ : zMS) (n m q k s d : Nat) : Prop := zInv σ n m q k s d ∧ mIn2 μ n m q k d ∧ σ.1 = (mLe μ, mLn μ, mDr μ, mTg μ, mDl μ) ∧ zUn n (mLe μ) (mLn μ) ∧ zRl n σ.2.1 (mAl μ) (mIm μ) ∧ σ.2.2.2.1 = (mKi μ, mSo μ, mTa μ, mSt μ, mVf μ, mVa μ, mRq μ) ∧ zHd n m k s (sK σ) (mSe μ) (mCh μ) (mBe μ) ∧ zWo n m (mAl μ) (mIm μ) (mSe μ) σ.2.2.2.2.2
def zRel (σ : zTS) (μ : zMS) : Prop := ∃ n m q k s d, zRel9 σ μ n m q k s d
theorem zRel.sh {σ : zTS} {μ : zMS} (h : zRel σ μ) (f : ZH) : zSh (pT σ f) := by
  obtain ⟨n, m, q, k, s, d, h1, -⟩ := h
  exact ⟨σ, f, n, m, q, k, s, d, rfl, h1⟩
theorem zRel.ok {σ : zTS} {μ : zMS} (h : zRel σ μ) : mOk μ := by
  obtain ⟨n, m, q, k, s, d, -, h1, -⟩ := h
  exact ⟨n, m, q, k, d, h1⟩
def zSim (wp : Nat → Int32) (e : List Value → ZH → Nat → Prop) (t : List Value → ZH → (Option Value → ZH → Prop) → Prop) (as : List Value) (σ : zTS) (g : zP) : Prop :=
  ∀ f : ZH, (∀ k, e (.ref 0 :: as) (pT σ f) k → g.2.1 = wp k ∧ zRel σ g.2) ∧
    ((∀ k, ¬ e (.ref 0 :: as) (pT σ f) k) → g.2.1 = 0 ∧ ∀ Kn : Option Value → ZH → Prop, (∀ σ', zRel σ' g.2 → Kn (some (.int g.1)) (pT σ' f)) → t (.ref 0 :: as) (pT σ f) Kn)
theorem gH_0 {μ : zMS} {r : zMS → zP} : gH μ 0 r = r (vThr μ 0) := if_pos rfl
theorem gH_n {μ : zMS} {p : Int32} {r : zMS → zP} (h : ¬ p = 0) : gH μ p r = (0, vThr μ p) := if_neg h
theorem fOk_ok {x n : Int32} : fOk x n = true ↔ okI x n := by
  unfold fOk okI
  rw [Bool.and_eq_true, decide_eq_true_iff, decide_eq_true_iff]
theorem fOk_no {x n : Int32} : fOk x n = false ↔ ¬ okI x n := by
  rw [← fOk_ok]; simp
theorem and_ff {x y : Bool} (h : (x && y) = false) : x = false ∨ y = false := by cases x <;> simp_all
/-- a call that throws at one place or goes on -/
theorem sim_1 {wp : Nat → Int32} {e : List Value → ZH → Nat → Prop} {t : List Value → ZH → (Option Value → ZH → Prop) → Prop} {as : List Value} {σ : zTS} {μ : zMS} {c : Bool} {r : zMS → zP} (h : zRel σ μ)
    (he : ∀ f k, e (.ref 0 :: as) (pT σ f) k → c = false ∧ wp k = 1) (hn : ∀ f, (∀ k, ¬ e (.ref 0 :: as) (pT σ f) k) → c = true) (h0 : (r (vThr μ 0)).2.1 = 0)
    (ht : c = true → ∀ (f : ZH) (Kn : Option Value → ZH → Prop), (∀ σ', zRel σ' (r (vThr μ 0)).2 → Kn (some (.int (r (vThr μ 0)).1)) (pT σ' f)) → t (.ref 0 :: as) (pT σ f) Kn) : zSim wp e t as σ (gH μ (gIs c) r) := by
  intro f
  refine ⟨fun k hk => ?_, fun hk => ?_⟩
  · obtain ⟨h1, h2⟩ := he f k hk
    rw [h1, h2, show gIs false = 1 from rfl, gH_n (by decide)]
    exact ⟨rfl, h⟩
  · have h1 := hn f hk
    rw [h1, show gIs true = 0 from rfl, gH_0]
    exact ⟨h0, fun Kn hK => ht h1 f Kn hK⟩
/-- a call that answers and throws nothing -/
theorem sim_0 {wp : Nat → Int32} {t : List Value → ZH → (Option Value → ZH → Prop) → Prop} {as : List Value} {σ : zTS} {g : zP} (h0 : g.2.1 = 0)
    (ht : ∀ (f : ZH) (Kn : Option Value → ZH → Prop), (∀ σ', zRel σ' g.2 → Kn (some (.int g.1)) (pT σ' f)) → t (.ref 0 :: as) (pT σ f) Kn) : zSim wp zno t as σ g :=
  fun f => ⟨fun k hk => hk.elim, fun _ => ⟨h0, fun Kn hK => ht f Kn hK⟩⟩
def w21 : Nat → Int32 := fun k => if k = 2 then 1 else if k = 0 then 2 else 3
def w01 : Nat → Int32 := fun k => if k = 0 then 1 else 2
def w11 : Nat → Int32 := fun _ => 1
variable {σ : zTS} {μ : zMS}
theorem sim_tags (h : zRel σ μ) : zSim w11 zno tX5_tags [] σ (gTags μ) := by
  refine sim_0 rfl (fun f Kn hK => ⟨h.sh f, rfl, ?_⟩)
  have h9 := hK σ h
  obtain ⟨n, m, q, k, s, d, hI, hM, hN, -⟩ := h
  rw [gT_pT, show sTags σ = (gTags μ).1 by show σ.1.2.2.2.1 = _; rw [hN]; rfl]
  exact h9
theorem sim_things (h : zRel σ μ) : zSim w11 zno tX5_things [] σ (gThings μ) := by
  refine sim_0 rfl (fun f Kn hK => ⟨h.sh f, rfl, ?_⟩)
  have h9 := hK σ h
  obtain ⟨n, m, q, k, s, d, hI, hM, hN, -⟩ := h
  rw [gT_pT, show sThings σ = (gThings μ).1 from hI.2.2.2.2.2.2.2.1.1.trans hM.1.1.2.2.1.symm]
  exact h9
theorem sim_kept (h : zRel σ μ) : zSim w11 zno tX5_kept [] σ (gKept μ) := by
  refine sim_0 rfl (fun f Kn hK => ⟨h.sh f, rfl, ?_⟩)
  have h9 := hK σ h
  obtain ⟨n, m, q, k, s, d, hI, hM, hN, -⟩ := h
  rw [gT_pT, show (sK σ).2.2.2.2.2.1 = (gKept μ).1 from hI.2.2.2.2.2.2.2.1.2.2.1.trans hM.1.1.2.2.2.2.2.2.1.symm]
  exact h9
/-- the numbers, on both sides -/
theorem zRel9.nums {n m q k s d : Nat} (h : zRel9 σ μ n m q k s d) : sTags σ = mTg μ ∧ sThings σ = mTh μ ∧ sReqs σ = mRq μ ∧ (sK σ).2.2.2.2.2.1 = mKp μ ∧ mTg μ = nI n ∧ n ≤ 24 ∧ mTh μ = nI m ∧ m ≤ 20 ∧ mRq μ = nI q ∧ q ≤ 40 ∧ mKp μ = nI k ∧ k ≤ 20 := by
  obtain ⟨hI, hM, hN, -⟩ := h
  refine ⟨hI.1.trans hM.1.1.1.symm, hI.2.2.2.2.2.2.2.1.1.trans hM.1.1.2.2.1.symm, hI.2.2.2.2.2.2.2.2.1.trans hM.1.1.2.2.2.2.1.symm, hI.2.2.2.2.2.2.2.1.2.2.1.trans hM.1.1.2.2.2.2.2.2.1.symm, hM.1.1.1, hM.1.1.2.1, hM.1.1.2.2.1, hM.1.1.2.2.2.1, hM.1.1.2.2.2.2.1, hM.1.1.2.2.2.2.2.1, hM.1.1.2.2.2.2.2.2.1, hM.1.1.2.2.2.2.2.2.2.1⟩
theorem zRel9.nums2 {n m q k s d : Nat} (h : zRel9 σ μ n m q k s d) : tn (sTags σ) = n ∧ tn (mTg μ) = n ∧ tn (sThings σ) = m ∧ tn (mTh μ) = m ∧ tn (sReqs σ) = q ∧ tn (mRq μ) = q ∧ tn (mKp μ) = k ∧ tn (sK σ).2.2.2.2.2.1 = k ∧ tn (sK σ).2.2.2.2.2.2 = s := by
  obtain ⟨e1, e2, e3, e4, h1, h2, h3, h4, h5, h6, h7, h8⟩ := h.nums
  have hs := h.1.2.2.2.2.2.2.2.1.2.2.2.2
  rw [e1, e2, e3, e4, h1, h3, h5, h7, hs.1]
  exact ⟨tn_nI (by omega), tn_nI (by omega), tn_nI (by omega), tn_nI (by omega), tn_nI (by omega), tn_nI (by omega), tn_nI (by omega), tn_nI (by omega), tn_nI (by omega)⟩
theorem sim_hand {x : Int32} (h : zRel σ μ) : zSim w21 eX5_hand tX5_hand [.int x] σ (gHand μ x) := by
  obtain ⟨n, m, q, k, s, d, h9⟩ := id h
  obtain ⟨e1, e2, e3, e4, -⟩ := h9.nums
  refine sim_1 h (fun f k hk => ?_) (fun f hk => ?_) rfl (fun hc f Kn hK => ⟨h.sh f, x, rfl, ?_⟩)
  · obtain ⟨-, x', e, rfl, h3⟩ := hk
    cases e
    rw [gT_pT, e2] at h3
    exact ⟨fOk_no.mpr h3, rfl⟩
  · cases hc : fOk x (mTh μ) with
    | true => rfl
    | false => exact absurd ⟨h.sh f, x, rfl, rfl, by rw [gT_pT, e2]; exact fOk_no.mp hc⟩ (hk 2)
  · have h8 := hK σ h
    rw [gT_pT, show sHand σ = mSe μ from h9.2.2.2.2.2.2.1.1]
    exact h8
theorem sim_standing {x : Int32} (h : zRel σ μ) : zSim w21 eX5_standing tX5_standing [.int x] σ (gStanding μ x) := by
  obtain ⟨n, m, q, k, s, d, h9⟩ := id h
  obtain ⟨e1, e2, e3, e4, -⟩ := h9.nums
  refine sim_1 h (fun f k hk => ?_) (fun f hk => ?_) rfl (fun hc f Kn hK => ⟨h.sh f, x, rfl, ?_⟩)
  · obtain ⟨-, x', e, rfl, h3⟩ := hk
    cases e
    rw [gT_pT, e3] at h3
    exact ⟨fOk_no.mpr h3, rfl⟩
  · cases hc : fOk x (mRq μ) with
    | true => rfl
    | false => exact absurd ⟨h.sh f, x, rfl, rfl, by rw [gT_pT, e3]; exact fOk_no.mp hc⟩ (hk 2)
  · have h8 := hK σ h
    rw [gT_pT, show qS σ.2.2.2.1 (tn x) = mSt μ (tn x) by rw [h9.2.2.2.2.2.1]]
    exact h8
theorem sim_alias {x : Int32} (h : zRel σ μ) : zSim w21 eX5_alias tX5_alias [.int x] σ (gAlias μ x) := by
  obtain ⟨n, m, q, k, s, d, h9⟩ := id h
  obtain ⟨e1, e2, e3, e4, h1, h2, -⟩ := h9.nums
  refine sim_1 h (fun f k hk => ?_) (fun f hk => ?_) rfl (fun hc f Kn hK => ⟨h.sh f, x, rfl, ?_⟩)
  · obtain ⟨-, x', e, rfl, h3⟩ := hk
    cases e
    rw [gT_pT, e1] at h3
    exact ⟨fOk_no.mpr h3, rfl⟩
  · cases hc : fOk x (mTg μ) with
    | true => rfl
    | false => exact absurd ⟨h.sh f, x, rfl, rfl, by rw [gT_pT, e1]; exact fOk_no.mp hc⟩ (hk 2)
  · have h8 := hK σ h
    rw [h1] at hc
    obtain ⟨i, hi, rfl⟩ := (fOk_n (by omega)).mp hc
    rw [gT_pT, show σ.2.1.1 (tn (nI i)) = mAl μ (tn (nI i)) from h9.2.2.2.2.1.1 _ (by rw [tn_nI (by omega)]; exact hi)]
    exact h8
theorem sim_end {x : Int32} (h : zRel σ μ) : zSim w21 eX5_end tX5_end [.int x] σ (gEnd μ x) := by
  obtain ⟨n, m, q, k, s, d, h9⟩ := id h
  obtain ⟨e1, e2, e3, e4, h1, h2, -⟩ := h9.nums
  obtain ⟨n1, n2, -⟩ := h9.nums2
  refine sim_1 h (fun f k hk => ?_) (fun f hk => ?_) rfl (fun hc f Kn hK => ⟨h.sh f, x, rfl, ?_⟩)
  · obtain ⟨-, x', e, rfl, h3⟩ := hk
    cases e
    rw [gT_pT, e1] at h3
    exact ⟨fOk_no.mpr h3, rfl⟩
  · cases hc : fOk x (mTg μ) with
    | true => rfl
    | false => exact absurd ⟨h.sh f, x, rfl, rfl, by rw [gT_pT, e1]; exact fOk_no.mp hc⟩ (hk 2)
  · have h8 : Kn (some (.int (nI (fE (mAl μ) (tn (mTg μ)) (tn (mTg μ)) (tn x))))) (pT σ f) := hK σ h
    rw [h1] at hc
    obtain ⟨i, hi, rfl⟩ := (fOk_n (by omega)).mp hc
    rw [n2, tn_nI (by omega)] at h8
    rw [gT_pT, n1, tn_nI (by omega), fE_congr (by omega) h9.2.2.2.2.1.1 n i hi]
    exact h8
theorem sim_implies {x y : Int32} (h : zRel σ μ) : zSim w21 eX5_implies tX5_implies [.int x, .int y] σ (gImplies μ x y) := by
  obtain ⟨n, m, q, k, s, d, h9⟩ := id h
  obtain ⟨e1, e2, e3, e4, h1, h2, -⟩ := h9.nums
  refine sim_1 h (fun f k hk => ?_) (fun f hk => ?_) rfl (fun hc f Kn hK => ⟨h.sh f, x, y, rfl, ?_⟩)
  · obtain ⟨-, x', y', e, rfl, h3⟩ := hk
    cases e
    rw [gT_pT, e1, ← fOk_no, ← fOk_no] at h3
    exact ⟨by rcases h3 with h3 | h3 <;> simp [h3], rfl⟩
  · cases hc : (fOk x (mTg μ) && fOk y (mTg μ)) with
    | true => rfl
    | false => exact absurd ⟨h.sh f, x, y, rfl, rfl, by
        rw [gT_pT, e1, ← fOk_no, ← fOk_no]
        exact and_ff hc⟩ (hk 2)
  · have h8 := hK σ h
    rw [gT_pT, show σ.2.1.2.1 = mIm μ from h9.2.2.2.2.1.2.1]
    exact h8
theorem sim_shown {x : Int32} (h : zRel σ μ) : zSim w21 eX5_shown tX5_shown [.int x] σ (gShown μ x) := by
  obtain ⟨n, m, q, k, s, d, h9⟩ := id h
  obtain ⟨e1, e2, e3, e4, h1, h2, h3', h4', -⟩ := h9.nums
  obtain ⟨n1, n2, -⟩ := h9.nums2
  refine sim_1 h (fun f k hk => ?_) (fun f hk => ?_) rfl (fun hc f Kn hK => ⟨h.sh f, x, rfl, ?_⟩)
  · obtain ⟨-, x', e, rfl, h3⟩ := hk
    cases e
    rw [gT_pT, e2] at h3
    exact ⟨fOk_no.mpr h3, rfl⟩
  · cases hc : fOk x (mTh μ) with
    | true => rfl
    | false => exact absurd ⟨h.sh f, x, rfl, rfl, by rw [gT_pT, e2]; exact fOk_no.mp hc⟩ (hk 2)
  · have h8 : Kn (some (.int (gSh μ (tn (mTg μ)) (tn x)))) (pT σ f) := hK σ h
    rw [h3'] at hc
    obtain ⟨i, hi, rfl⟩ := (fOk_n (by omega)).mp hc
    rw [n2, tn_nI (by omega)] at h8
    rw [gT_pT, n1, tn_nI (by omega), zWo_col h2 h9.2.2.2.2.2.2.2 hi h4']
    exact h8
theorem sim_shownByHand {x : Int32} (h : zRel σ μ) : zSim w21 eX5_shownByHand tX5_shownByHand [.int x] σ (gShown μ x) := by
  obtain ⟨n, m, q, k, s, d, h9⟩ := id h
  obtain ⟨e1, e2, e3, e4, h1, h2, h3', h4', -⟩ := h9.nums
  obtain ⟨n1, n2, -⟩ := h9.nums2
  refine sim_1 h (fun f k hk => ?_) (fun f hk => ?_) rfl (fun hc f Kn hK => ⟨h.sh f, x, rfl, ?_⟩)
  · obtain ⟨-, x', e, rfl, h3⟩ := hk
    cases e
    rw [gT_pT, e2] at h3
    exact ⟨fOk_no.mpr h3, rfl⟩
  · cases hc : fOk x (mTh μ) with
    | true => rfl
    | false => exact absurd ⟨h.sh f, x, rfl, rfl, by rw [gT_pT, e2]; exact fOk_no.mp hc⟩ (hk 2)
  · have h8 : Kn (some (.int (gSh μ (tn (mTg μ)) (tn x)))) (pT σ f) := hK σ h
    rw [n2] at h8
    obtain ⟨a1, a2, ⟨nx, re, a3, a4⟩, -⟩ := h9.2.2.2.2.1
    rw [gT_pT, n1, a3, fSp_sho h2, show sHand σ = mSe μ from h9.2.2.2.2.2.2.1.1, fSho_congr (by omega) a1 eqn_rf, a2]
    exact h8
theorem sim_users {x : Int32} (h : zRel σ μ) : zSim w21 eX5_users tX5_users [.int x] σ (gUsers μ x) := by
  obtain ⟨n, m, q, k, s, d, h9⟩ := id h
  obtain ⟨e1, e2, e3, e4, h1, h2, h3', h4', -⟩ := h9.nums
  obtain ⟨n1, n2, n3, n4, -⟩ := h9.nums2
  refine sim_1 h (fun f k hk => ?_) (fun f hk => ?_) rfl (fun hc f Kn hK => ⟨h.sh f, x, rfl, ?_⟩)
  · obtain ⟨-, x', e, rfl, h3⟩ := hk
    cases e
    rw [gT_pT, e1] at h3
    exact ⟨fOk_no.mpr h3, rfl⟩
  · cases hc : fOk x (mTg μ) with
    | true => rfl
    | false => exact absurd ⟨h.sh f, x, rfl, rfl, by rw [gT_pT, e1]; exact fOk_no.mp hc⟩ (hk 2)
  · have h8 : Kn (some (.int (nI (gUs (vThr μ 0) (tn (mTg μ)) (tn x) (tn (mTh μ)))))) (pT σ f) := hK σ h
    rw [h1] at hc
    obtain ⟨i, hi, rfl⟩ := (fOk_n (by omega)).mp hc
    rw [n2, n4, tn_nI (by omega), gUs_thr] at h8
    rw [gT_pT, tn_nI (by omega), zWo_us h2 h4' h9.2.2.2.2.2.2.2 hi]
    exact h8
theorem gSh_thr {x : Int32} {n i : Nat} : gSh (vThr μ x) n i = gSh μ n i := rfl
theorem gRe_thr {x : Int32} {n i t : Nat} : ∀ j, gRe (vThr μ x) n i t j = gRe μ n i t j
  | 0 => rfl
  | j + 1 => by
    unfold gRe
    rw [gRe_thr j]
    rfl
theorem sim_reason {x y : Int32} (h : zRel σ μ) : zSim w21 eX5_reason tX5_reason [.int x, .int y] σ (gReason μ x y) := by
  obtain ⟨n, m, q, k, s, d, h9⟩ := id h
  obtain ⟨e1, e2, e3, e4, h1, h2, h3', h4', -⟩ := h9.nums
  obtain ⟨n1, n2, n3, n4, -⟩ := h9.nums2
  refine sim_1 h (fun f k hk => ?_) (fun f hk => ?_) rfl (fun hc f Kn hK => ⟨h.sh f, x, y, rfl, ?_⟩)
  · obtain ⟨-, x', y', e, rfl, h3⟩ := hk
    cases e
    rw [gT_pT, e1, e2, ← fOk_no, ← fOk_no] at h3
    exact ⟨by unfold gThe; rcases h3 with h3 | h3 <;> simp [h3], rfl⟩
  · cases hc : gThe μ x y with
    | true => rfl
    | false => exact absurd ⟨h.sh f, x, y, rfl, rfl, by
        rw [gT_pT, e1, e2, ← fOk_no, ← fOk_no]
        unfold gThe at hc
        exact and_ff hc⟩ (hk 2)
  · have h8 : Kn (some (.int (if bt (gSh μ (tn (mTg μ)) (tn x)) (tn y) then gRe (vThr μ 0) (tn (mTg μ)) (tn x) (tn y) (tn (mTg μ)) else -1))) (pT σ f) := hK σ h
    unfold gThe at hc
    rw [h1, h3', Bool.and_eq_true] at hc
    obtain ⟨i, hi, rfl⟩ := (fOk_n (by omega)).mp hc.1
    obtain ⟨j, hj, rfl⟩ := (fOk_n (by omega)).mp hc.2
    rw [n2, tn_nI (by omega), tn_nI (by omega), gRe_thr] at h8
    rw [gT_pT, n1, tn_nI (by omega), tn_nI (by omega), show sHand σ = mSe μ from h9.2.2.2.2.2.2.1.1, reason_eq h2 hj h9.2.2.2.2.1]
    exact h8
end S5
