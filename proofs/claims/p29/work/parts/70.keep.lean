section K1
/-! every call of the model keeps what the walks ask of it -/
def mIn2 (μ : zMS) (n m q k d : Nat) : Prop := mInw μ n m q k d ∧ (∀ j, n ≤ j → j < 24 → mAl μ j = -1) ∧ ∀ j, q ≤ j → mSt μ j = 0
def mOk (μ : zMS) : Prop := ∃ n m q k d, mIn2 μ n m q k d
theorem mOk_thr {μ : zMS} {x : Int32} (h : mOk μ) : mOk (vThr μ x) := h
theorem mOk_gH {μ : zMS} {p : Int32} {r : zMS → zP} (h : mOk μ) (hr : p = 0 → mOk (r (vThr μ 0)).2) : mOk (gH μ p r).2 := by
  unfold gH
  by_cases e : p = 0
  · rw [if_pos e]; exact hr e
  · rw [if_neg e]; exact h
theorem mOk_beg {μ : zMS} (h : mOk μ) : mOk (gBeg μ) := by
  obtain ⟨n, m, q, k, d, ⟨⟨h1, h2, h3, h4, h5, h6, h7, h8, h9⟩, h10⟩, h11⟩ := h
  unfold gBeg
  by_cases e : mKp μ = 20
  · rw [if_pos e]
    exact ⟨n, m, q, 20, d, ⟨⟨h1, h2, h3, h4, h5, h6, rfl, by decide, h9⟩, h10⟩, h11⟩
  · rw [if_neg e]
    refine ⟨n, m, q, k + 1, d, ⟨⟨h1, h2, h3, h4, h5, h6, ?_, ?_, h9⟩, h10⟩, h11⟩
    · show mKp μ + 1 = nI (k + 1)
      rw [h7, nI_1]
    · rcases Nat.lt_or_ge k 20 with q9 | q9
      · exact q9
      · exact absurd (by rw [h7, show k = 20 by omega]; rfl) e
theorem mOk_sets {μ : zMS} {i : Nat} {x : Int32} (h : mOk μ) : mOk (gSets μ i x) := by
  obtain ⟨n, m, q, k, d, h1, h2⟩ := h
  exact ⟨n, m, q, k, d, h1, h2⟩
theorem mOk_s1 {μ : zMS} {i : Nat} {x : Int32} (h : mOk μ) : mOk (gS1 μ i x).2 := by
  unfold gS1
  split
  · exact h
  · exact mOk_sets (mOk_beg h)
theorem mOk_type {μ : zMS} {x : Int32} (h : mOk μ) (hx : isCh x) : mOk (gType μ x).2 := by
  obtain ⟨n, m, q, k, d, ⟨⟨h1, h2, h3, h4, h5, h6, h7, h8, h9, h10, h11, h12, h13⟩, h14⟩, h15⟩ := h
  refine mOk_gH ⟨n, m, q, k, d, ⟨⟨h1, h2, h3, h4, h5, h6, h7, h8, h9, h10, h11, h12, h13⟩, h14⟩, h15⟩ (fun hp => ?_)
  refine ⟨n, m, q, k, d + 1, ⟨⟨h1, h2, h3, h4, h5, h6, h7, h8, ?_, ?_, h11, ?_, h13⟩, h14⟩, h15⟩
  · show mDl μ + 1 = nI (d + 1)
    rw [h9, nI_1]
  · rcases Nat.lt_or_ge d 8 with q9 | q9
    · exact q9
    · rw [h9, show d = 8 by omega] at hp
      cases hs : fSi x with
      | true => rw [hs, if_pos rfl, if_pos (show nI 8 = 8 from rfl)] at hp; exact absurd hp (by decide)
      | false => rw [hs] at hp; exact absurd hp (by decide)
  · intro j
    show isCh (upd (mDr μ) (tn (mDl μ)) x j)
    unfold upd
    split
    · exact hx
    · exact h12 j
theorem mOk_addThing {μ : zMS} (h : mOk μ) : mOk (gAddThing μ).2 := by
  obtain ⟨n, m, q, k, d, ⟨⟨h1, h2, h3, h4, h5⟩, h14⟩, h15⟩ := h
  refine mOk_gH ⟨n, m, q, k, d, ⟨⟨h1, h2, h3, h4, h5⟩, h14⟩, h15⟩ (fun hp => ?_)
  refine ⟨n, m + 1, q, k, d, ⟨⟨h1, h2, ?_, ?_, h5⟩, h14⟩, h15⟩
  · show mTh μ + 1 = nI (m + 1)
    rw [h3, nI_1]
  · rcases Nat.lt_or_ge m 20 with q9 | q9
    · exact q9
    · rw [h3, show m = 20 by omega, if_pos (show nI 20 = 20 from rfl)] at hp
      exact absurd hp (by decide)
theorem mOk_tag {μ : zMS} {x y : Int32} (h : mOk μ) : mOk (gTag μ x y).2 := mOk_gH h (fun _ => mOk_s1 (mOk_thr h))
theorem mOk_untag {μ : zMS} {x y : Int32} (h : mOk μ) : mOk (gUntag μ x y).2 := mOk_gH h (fun _ => mOk_s1 (mOk_thr h))
theorem mOk_ms {μ : zMS} {n : Nat} {k : Int32} {t o : Nat} (h : mOk μ) : ∀ i, mOk (gMs μ n k t o i).2
  | 0 => h
  | i + 1 => by
    have ih := mOk_ms (n := n) (k := k) (t := t) (o := o) h i
    unfold gMs
    split
    · exact ih
    · refine mOk_sets ?_
      split
      · exact mOk_beg ih
      · exact ih
theorem mOk_mass {μ : zMS} {k x y : Int32} (h : mOk μ) : mOk (gMass μ k x y).2 := mOk_gH h (fun _ => mOk_ms (mOk_thr h) _)
theorem mOk_undo {μ : zMS} (h : mOk μ) : mOk (gUndo μ).2 := by
  obtain ⟨n, m, q, k, d, ⟨⟨h1, h2, h3, h4, h5, h6, h7, h8, h9⟩, h14⟩, h15⟩ := h
  refine mOk_gH ⟨n, m, q, k, d, ⟨⟨h1, h2, h3, h4, h5, h6, h7, h8, h9⟩, h14⟩, h15⟩ (fun hp => ?_)
  cases k with
  | zero => rw [h7, if_pos (show nI 0 = 0 from rfl)] at hp; exact absurd hp (by decide)
  | succ k =>
    refine ⟨n, m, q, k, d, ⟨⟨h1, h2, h3, h4, h5, h6, ?_, by omega, h9⟩, h14⟩, h15⟩
    show mKp μ - 1 = nI k
    rw [h7, nI_pred]
theorem mOk_ask {μ : zMS} {k x y : Int32} (h : mOk μ) : mOk (gAsk μ k x y).2 := by
  obtain ⟨n, m, q, kk, d, ⟨⟨h1, h2, h3, h4, h5, h6, h7, h8, h9, h10, h11, h12, h13, h14, h15⟩, h16⟩, h17, h18⟩ := h
  refine mOk_gH ⟨n, m, q, kk, d, ⟨⟨h1, h2, h3, h4, h5, h6, h7, h8, h9, h10, h11, h12, h13, h14, h15⟩, h16⟩, h17, h18⟩ (fun hp => ?_)
  rw [h1, h5] at hp
  cases hxy : (fOk x (nI n) && fOk y (nI n)) with
  | false => rw [hxy, if_neg (show ¬ false = true by decide)] at hp; exact absurd hp (by decide)
  | true =>
    rw [hxy, if_pos rfl] at hp
    cases hk4 : fOk k 4 with
    | false => rw [hk4, if_neg (show ¬ false = true by decide)] at hp; exact absurd hp (by decide)
    | true =>
      rw [hk4, if_pos rfl] at hp
      by_cases e1 : x = y
      · rw [if_pos e1] at hp; exact absurd hp (by decide)
      · rw [if_neg e1] at hp
        by_cases e2 : nI q = 40
        · rw [if_pos e2] at hp; exact absurd hp (by decide)
        · have hq9 : q < 40 := by
            rcases Nat.lt_or_ge q 40 with q9 | q9
            · exact q9
            · exact absurd (by rw [show q = 40 by omega]; rfl) e2
          rw [Bool.and_eq_true] at hxy
          obtain ⟨t, ht, rfl⟩ := (fOk_n (by omega)).mp hxy.1
          obtain ⟨o, ho, rfl⟩ := (fOk_n (by omega)).mp hxy.2
          have eq9 : tn (mRq μ) = q := by rw [h5]; exact tn_nI (by omega)
          refine ⟨n, m, q + 1, kk, d, ⟨⟨h1, h2, h3, h4, ?_, hq9, h7, h8, h9, h10, h11, h12, h13, h14, ?_⟩, ?_⟩, h17, fun j hj => h18 j (by omega)⟩
          · show mRq μ + 1 = nI (q + 1)
            rw [h5, nI_1]
          · intro i hi
            show ∃ t1 o1, upd (mSo μ) (tn (mRq μ)) (nI t) i = nI t1 ∧ upd (mTa μ) (tn (mRq μ)) (nI o) i = nI o1 ∧ t1 < n ∧ o1 < n
            rw [eq9]
            by_cases e : i = q
            · exact ⟨t, o, by simp [upd, e], by simp [upd, e], ht, ho⟩
            · simp only [upd, if_neg e]
              exact h15 i (by omega)
          · intro i hi
            show okI (upd (mKi μ) (tn (mRq μ)) k i) 4 ∧ ¬ upd (mSo μ) (tn (mRq μ)) (nI t) i = upd (mTa μ) (tn (mRq μ)) (nI o) i
            rw [eq9]
            by_cases e : i = q
            · simp only [upd, if_pos e]
              refine ⟨?_, e1⟩
              unfold fOk at hk4
              rw [Bool.and_eq_true] at hk4
              exact ⟨of_decide_eq_true hk4.1, of_decide_eq_true hk4.2⟩
            · simp only [upd, if_neg e]
              exact h16 i (by omega)
theorem mOk_do {μ : zMS} {n m q k d i : Nat} {x : Int32} (h : mIn2 μ n m q k d) (hi : i < q) (hc : gCo μ n i = true) : mIn2 (gDo (vSt μ i x) i) n m q k d := by
  obtain ⟨⟨⟨h1, h2, h3, h4, h5, h6, h7, h8, h9, h10, h11, h12, h13, h14, h15⟩, h16⟩, h17, h18⟩ := h
  obtain ⟨t, o, ht, ho, htn, hon⟩ := h15 i hi
  have eg : gCo μ n i = (decide (mSt μ i = 0) && fMay (mAl μ) (mIm μ) n (mKi μ i) t o) := by
    unfold gCo
    rw [ht, ho, tn_nI (by omega), tn_nI (by omega)]
  rw [eg, Bool.and_eq_true] at hc
  have hac := fMay_ac (by omega) h14 htn hon hc.2
  have ea : mAl (gDo (vSt μ i x) i) = fDoA (mAl μ) (mKi μ i) t o := by
    show fDoA (mAl μ) (mKi μ i) (tn (mSo μ i)) (tn (mTa μ i)) = _
    rw [ht, ho, tn_nI (by omega), tn_nI (by omega)]
  refine ⟨⟨⟨h1, h2, h3, h4, h5, h6, h7, h8, h9, h10, h11, h12, h13, by rw [ea]; exact hac, h15⟩, h16⟩, fun j hj hj2 => ?_, fun j hj => ?_⟩
  · rw [ea]
    unfold fDoA
    rw [show upd (mAl μ) t _ j = mAl μ j from if_neg (by omega)]
    exact h17 j hj hj2
  · show upd (mSt μ) i x j = 0
    rw [show upd (mSt μ) i x j = mSt μ j from if_neg (by omega)]
    exact h18 j hj
theorem mOk_st {μ : zMS} {n m q k d i : Nat} {x : Int32} (h : mIn2 μ n m q k d) (hi : i < q) : mIn2 (vSt μ i x) n m q k d := by
  refine ⟨h.1, h.2.1, fun j hj => ?_⟩
  show upd (mSt μ) i x j = 0
  rw [show upd (mSt μ) i x j = mSt μ j from if_neg (by omega)]
  exact h.2.2 j hj
theorem mOk_vote {μ : zMS} {x y : Int32} {b : Bool} (h : mOk μ) : mOk (gVote μ x y b).2 := by
  obtain ⟨n, m, q, k, d, h⟩ := h
  refine mOk_gH ⟨n, m, q, k, d, h⟩ (fun hp => ?_)
  have hq := h.1.1.2.2.2.2.1
  have hq40 := h.1.1.2.2.2.2.2.1
  have hn := h.1.1.1
  have hn24 := h.1.1.2.1
  rw [hq] at hp
  cases hx : fOk x (nI q) with
  | false => rw [hx, if_neg (show ¬ false = true by decide)] at hp; exact absurd hp (by decide)
  | true =>
    obtain ⟨i, hi, rfl⟩ := (fOk_n (by omega)).mp hx
    show mOk (gVoE (gVoS (vThr μ 0) (tn (nI i)) (tn y) b) (tn (mTg μ)) (tn (nI i)))
    rw [hn, tn_nI (by omega), tn_nI (by omega)]
    have h2 : mIn2 (gVoS (vThr μ 0) i (tn y) b) n m q k d := h
    generalize gVoS (vThr μ 0) i (tn y) b = ν at *
    unfold gVoE
    split
    · split
      · next hc => exact ⟨n, m, q, k, d, mOk_do h2 hi hc⟩
      · exact ⟨n, m, q, k, d, mOk_st h2 hi⟩
    · split
      · exact ⟨n, m, q, k, d, mOk_st h2 hi⟩
      · exact ⟨n, m, q, k, d, h2⟩
theorem mOk_enter {μ : zMS} (h : mOk μ) : mOk (gEnter μ).2 := by
  obtain ⟨n, m, q, k, d, ⟨⟨h1, h2, h3, h4, h5, h6, h7, h8, h9, h10, h11, h12, h13, h14, h15⟩, h16⟩, h17, h18⟩ := h
  refine mOk_gH ⟨n, m, q, k, d, ⟨⟨h1, h2, h3, h4, h5, h6, h7, h8, h9, h10, h11, h12, h13, h14, h15⟩, h16⟩, h17, h18⟩ (fun hp => ?_)
  by_cases e0 : mDl μ = 0
  · rw [if_pos e0] at hp; exact absurd hp (by decide)
  · rw [if_neg e0] at hp
    show mOk (if gFd (vThr μ 0) (tn (mDl μ)) (tn (mTg μ)) = -1 then _ else _ : zP).2
    rw [gFd_thr]
    by_cases e1 : gFd μ (tn (mDl μ)) (tn (mTg μ)) = -1
    · rw [if_pos e1] at hp ⊢
      have hn9 : n < 24 := by
        rcases Nat.lt_or_ge n 24 with q9 | q9
        · exact q9
        · rw [h1, show n = 24 by omega, if_pos (show nI 24 = 24 from rfl)] at hp
          exact absurd hp (by decide)
      have en : tn (mTg μ) = n := by rw [h1]; exact tn_nI (by omega)
      refine ⟨n + 1, m, q, k, 0, ⟨⟨?_, hn9, h3, h4, h5, h6, h7, h8, rfl, by omega, ?_, h12, ?_, zAc_more (by omega) h14 (h17 n (by omega) hn9), ?_⟩, h16⟩, fun j hj hj2 => h17 j (by omega) hj2, h18⟩
      · show mTg μ + 1 = nI (n + 1)
        rw [h1, nI_1]
      · intro j
        show isCh (gEnL (vThr μ 0) (tn (mDl μ)) j)
        unfold gEnL
        split
        · exact h12 _
        · exact h11 _
      · intro t ht
        show ∃ e, e ≤ 8 ∧ upd (mLn μ) (tn (mTg μ)) (mDl μ) t = nI e
        rw [en]
        by_cases e : t = n
        · exact ⟨d, h10, by simp [upd, e, h9]⟩
        · simp only [upd, if_neg e]
          exact h13 t (by omega)
      · intro i hi
        obtain ⟨t, o, ht, ho, htn, hon⟩ := h15 i hi
        exact ⟨t, o, ht, ho, by omega, by omega⟩
    · rw [if_neg e1]
      exact ⟨n, m, q, k, 0, ⟨⟨h1, h2, h3, h4, h5, h6, h7, h8, rfl, by omega, h11, h12, h13, h14, h15⟩, h16⟩, h17, h18⟩
end K1
