/-! ===== what an act does to the numbers ===== -/
def qG (r : Nat) (μ μ' : zMS) : Prop := mOk μ' ∧ (zLn μ → zLn μ') ∧ tn (mTg μ) ≤ tn (mTg μ') ∧ tn (mTh μ) ≤ tn (mTh μ') ∧ tn (mRq μ') ≤ tn (mRq μ) + r
theorem qG_same {μ μ' : zMS} {r : Nat} (hm : mOk μ') (h : qSame μ μ') : qG r μ μ' :=
  ⟨hm, fun hl t ht => by rw [h.2.2.2]; exact hl t (by rw [← h.1]; exact ht), by rw [h.1]; exact Nat.le_refl _, by rw [h.2.1]; exact Nat.le_refl _, by rw [h.2.2.1]; omega⟩
theorem qG_rf {μ : zMS} {r : Nat} (hm : mOk μ) : qG r μ μ := qG_same hm qs_rf
theorem qG_tr {μ ν ρ : zMS} {r r' : Nat} (h : qG r μ ν) (h' : qG r' ν ρ) : qG (r + r') μ ρ := by
  obtain ⟨a1, a2, a3, a4, a5⟩ := h
  obtain ⟨b1, b2, b3, b4, b5⟩ := h'
  exact ⟨b1, fun h => b2 (a2 h), by omega, by omega, by omega⟩
theorem gH_inv {μ : zMS} {p : Int32} {r : zMS → zP} (h : (gH μ p r).2.1 = 0) : p = 0 ∧ gH μ p r = r (vThr μ 0) := by
  unfold gH at h ⊢
  split at h
  · next e => exact ⟨e, if_pos e⟩
  · next e => exact absurd h e
theorem nn_nI {a : Nat} (h : a < 2 ^ 31) : (0 : Int32) ≤ nI a := nI_pos' h
theorem P_type {μ : zMS} {x : Int32} (hm : mOk μ) (h : (gType μ x).2.1 = 0) : 0 ≤ (gType μ x).1 := by
  obtain ⟨n, m, q, k, d, ⟨⟨e1, e2, e3, e4, e5, e6, e7, e8, e9, e10, -⟩, -⟩, -⟩ := hm
  obtain ⟨-, e⟩ := gH_inv h
  rw [show gType μ x = _ from e]
  show 0 ≤ mDl μ + 1
  rw [e9, nI_1]
  exact nn_nI (by omega)
theorem qs_type {μ : zMS} {x : Int32} : qSame μ (gType μ x).2 := qs_gH (fun _ => ⟨rfl, rfl, rfl, rfl⟩)
theorem gFd_form {μ : zMS} {d : Nat} : ∀ t, gFd μ d t = -1 ∨ ∃ j, j < t ∧ gFd μ d t = nI j
  | 0 => Or.inl rfl
  | t + 1 => by
    unfold gFd
    split
    · exact Or.inr ⟨t, by omega, rfl⟩
    · rcases gFd_form (μ := μ) (d := d) t with h | ⟨j, h1, h2⟩
      · exact Or.inl h
      · exact Or.inr ⟨j, by omega, h2⟩
theorem P_enter {μ : zMS} (hm : mOk μ) (h : (gEnter μ).2.1 = 0) : ∃ j, (gEnter μ).1 = nI j ∧ j < tn (mTg (gEnter μ).2) ∧ j < 2 ^ 31 ∧ qG 0 μ (gEnter μ).2 := by
  have hm' := mOk_enter hm
  obtain ⟨n, m, q, k, d, ⟨⟨e1, e2, e3, e4, e5, e6, e7, e8, e9, e10, -⟩, -⟩, -⟩ := hm
  obtain ⟨hp, e⟩ := gH_inv h
  have e : gEnter μ = (if gFd (vThr μ 0) (tn (mDl μ)) (tn (mTg μ)) = -1 then (mTg μ, vNew (vThr μ 0) 0 (mTg μ + 1) (gEnL (vThr μ 0) (tn (mDl μ))) (upd (mLn μ) (tn (mTg μ)) (mDl μ))) else (gFd (vThr μ 0) (tn (mDl μ)) (tn (mTg μ)), vDr (vThr μ 0) (mDr μ) 0)) := e
  rw [e] at hm' ⊢
  rw [gFd_thr] at hm' ⊢
  have hd : ¬ mDl μ = 0 := fun q => by rw [if_pos q] at hp; exact absurd hp (by decide)
  rw [if_neg hd] at hp
  have hn : tn (mTg μ) = n := by rw [e1, tn_nI (by omega)]
  split
  · next h1 =>
    rw [if_pos h1] at hp hm'
    have h24 : ¬ mTg μ = 24 := fun q => by rw [if_pos q] at hp; exact absurd hp (by decide)
    have hn24 : ¬ n = 24 := fun q => h24 (by rw [e1, q]; rfl)
    have ht : tn (mTg μ + 1) = n + 1 := by rw [e1, nI_1, tn_nI (by omega)]
    refine ⟨n, e1, ?_, by omega, hm', fun hl t h9 => ?_, ?_, Nat.le_refl _, by show tn (mRq μ) ≤ tn (mRq μ) + 0; omega⟩
    · show n < tn (mTg μ + 1)
      omega
    · have h9 : t < tn (mTg μ + 1) := h9
      show 0 < upd (mLn μ) (tn (mTg μ)) (mDl μ) t
      unfold upd
      split
      · have hd0 : ¬ d = 0 := fun q => hd (by rw [e9, q]; rfl)
        rw [e9]
        exact (nI_ltI (a := 0) (by omega) (by omega)).mpr (by omega)
      · next q => exact hl t (by omega)
    · show tn (mTg μ) ≤ tn (mTg μ + 1)
      omega
  · next h1 =>
    rw [if_neg h1] at hm'
    rcases gFd_form (μ := μ) (d := tn (mDl μ)) (tn (mTg μ)) with h2 | ⟨j, h2, h3⟩
    · exact absurd h2 h1
    · exact ⟨j, h3, h2, by omega, qG_same hm' ⟨rfl, rfl, rfl, rfl⟩⟩
theorem P_addThing {μ : zMS} (hm : mOk μ) (h : (gAddThing μ).2.1 = 0) : ∃ j, (gAddThing μ).1 = nI j ∧ j < 2 ^ 31 ∧ tn (mTh (gAddThing μ).2) = j + 1 ∧ qG 0 μ (gAddThing μ).2 := by
  have hm' := mOk_addThing hm
  obtain ⟨n, m, q, k, d, ⟨⟨e1, e2, e3, e4, -⟩, -⟩, -⟩ := hm
  obtain ⟨hp, e⟩ := gH_inv h
  have e : gAddThing μ = (mTh μ, vTh (vThr μ 0) (mTh μ + 1)) := e
  rw [e] at hm' ⊢
  have ht : tn (mTh μ + 1) = m + 1 := by rw [e3, nI_1, tn_nI (by omega)]
  have ht2 : tn (mTh μ) = m := by rw [e3, tn_nI (by omega)]
  exact ⟨m, e3, by omega, ht, hm', fun hl => hl, Nat.le_refl _, by show tn (mTh μ) ≤ tn (mTh μ + 1); omega, by show tn (mRq μ) ≤ tn (mRq μ) + 0; omega⟩
theorem P_bl {g : zP} : 0 ≤ (gBl g).1 := by
  unfold gBl
  show 0 ≤ if g.1 = 0 then (0 : Int32) else 1
  split <;> decide
theorem P_mass {μ : zMS} {k x y : Int32} (hm : mOk μ) (h : (gMass μ k x y).2.1 = 0) : 0 ≤ (gMass μ k x y).1 := by
  obtain ⟨n, m, q, kp, d, ⟨⟨e1, e2, e3, e4, -⟩, -⟩, -⟩ := hm
  obtain ⟨-, e⟩ := gH_inv h
  rw [show gMass μ k x y = _ from e]
  have h9 := (kp_ms (μ := vThr μ 0) (n := tn (mTg μ)) (k := k) (t := tn x) (o := tn y) (tn (mTh μ))).1
  have h8 : tn (mTh μ) = m := by rw [e3, tn_nI (by omega)]
  exact nn_nI (by show (gMs (vThr μ 0) (tn (mTg μ)) k (tn x) (tn y) (tn (mTh μ))).1 < 2 ^ 31; omega)
theorem P_undo {μ : zMS} (h : (gUndo μ).2.1 = 0) : 0 ≤ (gUndo μ).1 := by
  obtain ⟨-, e⟩ := gH_inv h
  rw [show gUndo μ = _ from e]
  have h9 := fb_ct_le (bt (mCh μ (tn (mKp μ) - 1))) 32
  exact nn_nI (by show fb_ct (bt (mCh μ (tn (mKp μ) - 1))) 32 < 2 ^ 31; omega)
theorem P_ask {μ : zMS} {k x y : Int32} (hm : mOk μ) (h : (gAsk μ k x y).2.1 = 0) : 0 ≤ (gAsk μ k x y).1 ∧ qG 1 μ (gAsk μ k x y).2 := by
  have hm' := mOk_ask (k := k) (x := x) (y := y) hm
  obtain ⟨n, m, q, kp, d, ⟨⟨e1, e2, e3, e4, e5, e6, -⟩, -⟩, -⟩ := hm
  obtain ⟨-, e⟩ := gH_inv h
  have e : gAsk μ k x y = (mRq μ, vRq (vThr μ 0) (mRq μ + 1) (upd (mKi μ) (tn (mRq μ)) k) (upd (mSo μ) (tn (mRq μ)) x) (upd (mTa μ) (tn (mRq μ)) y)) := e
  rw [e] at hm' ⊢
  have ht : tn (mRq μ + 1) = q + 1 := by rw [e5, nI_1, tn_nI (by omega)]
  have ht2 : tn (mRq μ) = q := by rw [e5, tn_nI (by omega)]
  refine ⟨?_, hm', fun hl => hl, Nat.le_refl _, Nat.le_refl _, by show tn (mRq μ + 1) ≤ tn (mRq μ) + 1; omega⟩
  show 0 ≤ mRq μ
  rw [e5]
  exact nn_nI (by omega)
theorem upd_at {f : Nat → Int32} {i : Nat} {x : Int32} : upd f i x i = x := if_pos rfl
theorem P_voE {μ : zMS} {n i : Nat} (h : mSt μ i = 0) : 0 ≤ mSt (gVoE μ n i) i ∧ qSame μ (gVoE μ n i) := by
  unfold gVoE
  split
  · split
    · refine ⟨?_, ⟨rfl, rfl, rfl, rfl⟩⟩
      show 0 ≤ upd (mSt μ) i 1 i
      rw [upd_at]; decide
    · refine ⟨?_, ⟨rfl, rfl, rfl, rfl⟩⟩
      show 0 ≤ upd (mSt μ) i 2 i
      rw [upd_at]; decide
  · split
    · refine ⟨?_, ⟨rfl, rfl, rfl, rfl⟩⟩
      show 0 ≤ upd (mSt μ) i 2 i
      rw [upd_at]; decide
    · exact ⟨by rw [h]; decide, qs_rf⟩
theorem P_vote {μ : zMS} {x y : Int32} {b : Bool} (h : (gVote μ x y b).2.1 = 0) : 0 ≤ (gVote μ x y b).1 ∧ qSame μ (gVote μ x y b).2 := by
  obtain ⟨hp, e⟩ := gH_inv h
  have h0 : mSt μ (tn x) = 0 := by
    by_cases q1 : fOk x (mRq μ) = true
    · rw [if_pos q1] at hp
      by_cases q2 : fOk y 10 = true
      · rw [if_pos q2] at hp
        by_cases q3 : mSt μ (tn x) = 0
        · exact q3
        · rw [if_neg q3] at hp; exact absurd hp (by decide)
      · rw [if_neg q2] at hp; exact absurd hp (by decide)
    · rw [if_neg q1] at hp; exact absurd hp (by decide)
  rw [show gVote μ x y b = _ from e]
  obtain ⟨h1, h2⟩ := P_voE (μ := gVoS (vThr μ 0) (tn x) (tn y) b) (n := tn (mTg μ)) (i := tn x) h0
  exact ⟨h1, qs_tr (ν := gVoS (vThr μ 0) (tn x) (tn y) b) ⟨rfl, rfl, rfl, rfl⟩ h2⟩
/-- a call in a try: thrown, and all as it was; or an answer that is no less than 0 -/
def qA (r : Nat) (μ : zMS) (g : zP) : Prop := g = (-99999, μ) ∨ (0 ≤ g.1 ∧ qG r μ g.2)
theorem qA_X {μ : zMS} {g : zP} {r : Nat} (h : g.2.1 = 0 → 0 ≤ g.1 ∧ qG r μ g.2) : qA r μ (gX μ g) := by
  by_cases e : g.2.1 = 0
  · rw [gX_0 e]; exact Or.inr (h e)
  · rw [gX_n e]; exact Or.inl rfl
theorem qG_w {μ ν : zMS} {r r' : Nat} (h : qG r μ ν) (hr : r ≤ r') : qG r' μ ν := ⟨h.1, h.2.1, h.2.2.1, h.2.2.2.1, by have := h.2.2.2.2; omega⟩
theorem does_a {μ : zMS} {h a b c : Int32} (hm : mOk μ) : qA (if h = 5 then 1 else 0) μ (gDoes μ h a b c) := by
  unfold gDoes
  refine qA_X (fun h0 => ?_)
  by_cases c0 : h = 0
  · simp only [if_pos c0] at h0 ⊢
    obtain ⟨j, h1, h2, -, h4⟩ := P_addThing hm h0
    exact ⟨by rw [h1]; exact nn_nI h2, qG_w h4 (Nat.zero_le _)⟩
  · simp only [if_neg c0] at h0 ⊢
    by_cases c1 : h = 1
    · simp only [if_pos c1] at h0 ⊢
      exact ⟨P_bl, qG_same (mOk_tag hm) qs_tag⟩
    · simp only [if_neg c1] at h0 ⊢
      by_cases c2 : h = 2
      · simp only [if_pos c2] at h0 ⊢
        exact ⟨P_bl, qG_same (mOk_untag hm) qs_untag⟩
      · simp only [if_neg c2] at h0 ⊢
        by_cases c3 : h = 3
        · simp only [if_pos c3] at h0 ⊢
          exact ⟨P_mass hm h0, qG_same (mOk_mass hm) qs_mass⟩
        · simp only [if_neg c3] at h0 ⊢
          by_cases c4 : h = 4
          · simp only [if_pos c4] at h0 ⊢
            exact ⟨P_undo h0, qG_same (mOk_undo hm) qs_undo⟩
          · simp only [if_neg c4] at h0 ⊢
            by_cases c5 : h = 5
            · simp only [if_pos c5] at h0 ⊢
              exact P_ask hm h0
            · simp only [if_neg c5] at h0 ⊢
              by_cases c8 : h < 8
              · simp only [if_pos c8] at h0 ⊢
                obtain ⟨h1, h2⟩ := P_vote h0
                exact ⟨h1, qG_same (mOk_vote hm) h2⟩
              · simp only [if_neg c8] at h0 ⊢
                obtain ⟨j, h1, -, h2, h4⟩ := P_enter hm h0
                exact ⟨by rw [h1]; exact nn_nI h2, h4⟩
theorem typ_a {μ : zMS} {x : Int32} (hm : mOk μ) (hx : isCh x) : qA 0 μ (gTyp μ x) := qA_X (fun h0 => ⟨P_type hm h0, qG_same (mOk_type hm hx) qs_type⟩)
/-- what is told of an act: -99999 says that all is as it was -/
def qB (r : Nat) (μ : zMS) (g : zP) : Prop := qG r μ g.2 ∧ (g.1 = -99999 → g.2 = μ)
theorem qB_A {μ : zMS} {g : zP} {r : Nat} (hm : mOk μ) (h : qA r μ g) : qB r μ g := by
  rcases h with rfl | ⟨h1, h2⟩
  · exact ⟨qG_rf hm, fun _ => rfl⟩
  · exact ⟨h2, fun h => absurd (by rw [h] at h1; exact h1) (show ¬ (0 : Int32) ≤ -99999 by decide)⟩
theorem qB_w {μ : zMS} {g : zP} {r r' : Nat} (h : qB r μ g) (hr : r ≤ r') : qB r' μ g := ⟨qG_w h.1 hr, h.2⟩
theorem qA_G {μ : zMS} {g : zP} {r : Nat} (hm : mOk μ) (h : qA r μ g) : qG r μ g.2 := (qB_A hm h).1
theorem ask2_b {μ : zMS} {q : zP} (hm : mOk μ) (h : qA 1 μ q) : qB 1 μ (gAsk2 q) := by
  have hq := qA_G hm h
  have h1 := qA_G hq.1 (does_a (h := 6) (a := q.1) (b := 0) (c := 0) hq.1)
  have h2 := qA_G h1.1 (does_a (h := 6) (a := q.1) (b := 1) (c := 0) h1.1)
  unfold gAsk2
  split
  · exact qB_A hm h
  · next h0 =>
    split
    · split
      · refine ⟨qG_tr hq (qG_tr h1 h2), fun h9 => ?_⟩
        have h9 : q.1 = -99999 := h9
        exact absurd (by rw [h9]; decide) h0
      · exact ⟨qG_tr hq (qG_tr h1 h2), fun h9 => absurd h9 (show ¬ (-77777 : Int32) = -99999 by decide)⟩
    · exact ⟨qG_tr hq h1, fun h9 => absurd h9 (show ¬ (-77777 : Int32) = -99999 by decide)⟩
theorem act_b {μ : zMS} {v : Int32} (hm : mOk μ) : qB 1 μ (gAct μ v) := by
  have hd : ∀ (h a b c : Int32), ¬ h = 5 → qB 1 μ (gDoes μ h a b c) := fun h a b c h5 => by
    have h9 := does_a (h := h) (a := a) (b := b) (c := c) hm
    rw [if_neg h5] at h9
    exact qB_w (qB_A hm h9) (by omega)
  have h5 : ∀ (a b c : Int32), qA 1 μ (gDoes μ 5 a b c) := fun a b c => does_a (h := 5) hm
  unfold gAct
  split
  · split
    · exact qB_w (qB_A hm (typ_a hm (isCh_c _))) (by omega)
    · split
      · exact hd _ _ _ _ (by decide)
      · exact hd _ _ _ _ (by decide)
  · split
    · refine hd _ _ _ _ ?_
      split <;> decide
    · split
      · split
        · exact hd _ _ _ _ (by decide)
        · exact hd _ _ _ _ (by decide)
      · split
        · exact ask2_b hm (h5 _ _ _)
        · refine hd _ _ _ _ ?_
          split <;> decide
