section S6
variable {σ : zTS} {μ : zMS}
theorem mOk_at {n m q k d : Nat} (h : mOk μ) (h1 : mTg μ = nI n) (b1 : n ≤ 24) (h2 : mTh μ = nI m) (b2 : m ≤ 20) (h3 : mRq μ = nI q) (b3 : q ≤ 40) (h4 : mKp μ = nI k) (b4 : k ≤ 20) (h5 : mDl μ = nI d) (b5 : d ≤ 8) : mIn2 μ n m q k d := by
  obtain ⟨n', m', q', k', d', h⟩ := h
  obtain ⟨⟨⟨g1, c1, g2, c2, g3, c3, g4, c4, g5, c5, -⟩, -⟩, -⟩ := id h
  have e1 : n' = n := nI_ne (by omega) (by omega) (g1.symm.trans h1)
  have e2 : m' = m := nI_ne (by omega) (by omega) (g2.symm.trans h2)
  have e3 : q' = q := nI_ne (by omega) (by omega) (g3.symm.trans h3)
  have e4 : k' = k := nI_ne (by omega) (by omega) (g4.symm.trans h4)
  have e5 : d' = d := nI_ne (by omega) (by omega) (g5.symm.trans h5)
  subst e1; subst e2; subst e3; subst e4; subst e5
  exact h
theorem mkRel {n m q k s d : Nat} (hM : mIn2 μ n m q k d) (hN : σ.1 = (mLe μ, mLn μ, mDr μ, mTg μ, mDl μ)) (hU : zUn n (mLe μ) (mLn μ)) (hR : zRl n σ.2.1 (mAl μ) (mIm μ)) (hr : zR σ.2.1 n) (hQ : σ.2.2.2.1 = (mKi μ, mSo μ, mTa μ, mSt μ, mVf μ, mVa μ, mRq μ)) (hH : zHd n m k s (sK σ) (mSe μ) (mCh μ) (mBe μ)) (hh : zH (sK σ) m k s) (hW : zWo n m (mAl μ) (mIm μ) (mSe μ) σ.2.2.2.2.2) : zRel σ μ := by
  obtain ⟨⟨⟨g1, c1, g2, c2, g3, c3, g4, c4, g5, c5, g6, g7, g8, g9, g10⟩, g11⟩, g12⟩ := id hM
  refine ⟨n, m, q, k, s, d, ⟨by rw [hN]; exact g1, c1, by rw [hN]; exact g5, c5, by rw [hN]; exact ⟨g6, g7⟩, by rw [hN]; exact g8, hr, hh, by rw [hQ]; exact g3, c3, by rw [hQ]; exact g10⟩, hM, hN, hU, hR, hQ, hH, hW⟩
theorem fSg_Si (x : Int32) : fSg x = fSi x := by
  by_cases h : 65 ≤ x ∧ x ≤ 90
  · obtain ⟨j, hj, rfl⟩ := nI_of2 (M := 90) (n := 90) (by decide) (Int32.not_lt.mpr (Int32.le_trans (by decide) h.1)) h.2
    exact (by decide +kernel : ∀ j, j < 91 → (65 ≤ nI j ∧ nI j ≤ 90) → fSg (nI j) = fSi (nI j)) j (by omega) h
  · unfold fSi fPl
    rw [if_neg h]
    by_cases h2 : x = 45
    · subst h2; rfl
    · rw [if_neg h2]
      unfold fSg
      have h3 : (decide (65 ≤ x) && decide (x ≤ 90)) = false := by
        cases hc : (decide (65 ≤ x) && decide (x ≤ 90)) with
        | false => rfl
        | true =>
          rw [Bool.and_eq_true, decide_eq_true_iff, decide_eq_true_iff] at hc
          exact absurd hc h
      rw [h3, decide_eq_false h2, Bool.false_or, Bool.false_or]
theorem sim_type {x : Int32} (h : zRel σ μ) (hx : isCh x) : zSim w01 eX5_type tX5_type [.int x] σ (gType μ x) := by
  obtain ⟨n, m, q, k, s, d, h9⟩ := id h
  obtain ⟨hI, hM, hN, hU, hR, hQ, hH, hW⟩ := h9
  have hd : σ.1.2.2.2.2 = mDl μ := by rw [hN]
  have hdd := hM.1.1.2.2.2.2.2.2.2.2.1
  have hd8 := hM.1.1.2.2.2.2.2.2.2.2.2.1
  intro f
  constructor
  · rintro k' ⟨-, x', e, -, h3⟩
    cases e
    rw [gT_pT, hd, fSg_Si] at h3
    rcases h3 with ⟨h1, rfl⟩ | ⟨h1, h2, rfl⟩
    · unfold gType
      rw [h1, if_neg (by decide), gH_n (by decide)]
      exact ⟨rfl, h⟩
    · have : mDl μ = 8 := by
        rw [hdd] at h2 ⊢
        have := (nI_leI (a := 8) (by omega) (by omega)).mp h2
        rw [show d = 8 by omega]; rfl
      unfold gType
      rw [h1, if_pos rfl, if_pos this, gH_n (by decide)]
      exact ⟨rfl, h⟩
  · intro hk
    have h1 : fSi x = true := by
      cases hc : fSi x with
      | true => rfl
      | false => exact absurd ⟨h.sh f, x, rfl, hx, Or.inl ⟨by rw [fSg_Si]; exact hc, rfl⟩⟩ (hk 0)
    have h2 : ¬ mDl μ = 8 := fun hc => absurd ⟨h.sh f, x, rfl, hx, Or.inr ⟨by rw [fSg_Si]; exact h1, by rw [gT_pT, hd, hc]; decide, rfl⟩⟩ (hk 1)
    have hlt : d < 8 := by
      rcases Nat.lt_or_ge d 8 with q9 | q9
      · exact q9
      · exact absurd (by rw [hdd, show d = 8 by omega]; rfl) h2
    have eg : gType μ x = (mDl μ + 1, vDr (vThr μ 0) (upd (mDr μ) (tn (mDl μ)) x) (mDl μ + 1)) := by
      unfold gType
      rw [h1, if_pos rfl, if_neg h2, gH_0]
      rfl
    have hok := mOk_type (x := x) h.ok hx
    rw [eg] at hok ⊢
    refine ⟨rfl, fun Kn hK => ⟨h.sh f, x, rfl, hx, ?_⟩⟩
    rw [gT_pT, pT_pT, hd]
    refine hK _ ?_
    refine mkRel (n := n) (m := m) (q := q) (k := k) (s := s) (d := d + 1) (mOk_at hok hM.1.1.1 hM.1.1.2.1 hM.1.1.2.2.1 hM.1.1.2.2.2.1 hM.1.1.2.2.2.2.1 hM.1.1.2.2.2.2.2.1 hM.1.1.2.2.2.2.2.2.1 hM.1.1.2.2.2.2.2.2.2.1 (by show mDl μ + 1 = nI (d + 1); rw [hdd, nI_1]) hlt) ?_ hU hR hI.2.2.2.2.2.2.1 hQ hH hI.2.2.2.2.2.2.2.1 hW
    show (σ.1.1, σ.1.2.1, upd σ.1.2.2.1 (tn (mDl μ)) x, σ.1.2.2.2.1, mDl μ + 1) = _
    rw [hN]
    rfl
theorem sim_letter {x y : Int32} (h : zRel σ μ) : zSim w21 eX5_letter tX5_letter [.int x, .int y] σ (gLetter μ x y) := by
  obtain ⟨n, m, q, k, s, d, h9⟩ := id h
  obtain ⟨e1, e2, e3, e4, h1, h2, h3', h4', -⟩ := h9.nums
  have eL : σ.1.2.1 = mLn μ := by rw [h9.2.2.1]
  have eE : σ.1.1 = mLe μ := by rw [h9.2.2.1]
  intro f
  constructor
  · rintro k' ⟨-, x', y', e, rfl, h3⟩
    cases e
    rw [gT_pT, e1, eL, ← fOk_no, ← fOk_no] at h3
    have hc : (fOk x (mTg μ) && fOk y (mLn μ (tn x))) = false := by rcases h3 with h3 | h3 <;> simp [h3]
    unfold gLetter
    rw [hc, if_neg (by decide)]
    exact ⟨rfl, h⟩
  · intro hk
    have hc : (fOk x (mTg μ) && fOk y (mLn μ (tn x))) = true := by
      cases hc : (fOk x (mTg μ) && fOk y (mLn μ (tn x))) with
      | true => rfl
      | false => exact absurd ⟨h.sh f, x, y, rfl, rfl, by
          rw [gT_pT, e1, eL, ← fOk_no, ← fOk_no]
          exact and_ff hc⟩ (hk 2)
    unfold gLetter
    rw [hc, if_pos rfl]
    refine ⟨rfl, fun Kn hK => ⟨h.sh f, x, y, rfl, ?_⟩⟩
    have h8 := hK σ h
    rw [gT_pT, eE, Nat.mul_comm (tn x) 8]
    exact h8
theorem sim_addThing (h : zRel σ μ) : zSim w11 eX5_addThing tX5_addThing [] σ (gAddThing μ) := by
  obtain ⟨n, m, q, k, s, d, h9⟩ := id h
  obtain ⟨e1, e2, e3, e4, h1, h2, h3', h4', -⟩ := h9.nums
  obtain ⟨hI, hM, hN, hU, hR, hQ, hH, hW⟩ := h9
  intro f
  constructor
  · rintro k' ⟨-, e, rfl, h3⟩
    rw [gT_pT, e2, h3'] at h3
    have := (nI_leI (a := 20) (by omega) (by omega)).mp h3
    unfold gAddThing
    rw [if_pos (show mTh μ = 20 by rw [h3', show m = 20 by omega]; rfl), gH_n (by decide)]
    exact ⟨rfl, h⟩
  · intro hk
    have hlt : m < 20 := by
      rcases Nat.lt_or_ge m 20 with q9 | q9
      · exact q9
      · exact absurd ⟨h.sh f, rfl, rfl, by rw [gT_pT, e2, h3', show m = 20 by omega]; decide⟩ (hk 1)
    have hne : ¬ mTh μ = 20 := fun q9 => by
      rw [h3'] at q9
      have := nI_ne (b := 20) (by omega) (by omega) q9
      omega
    have hok := mOk_addThing h.ok
    have eg : gAddThing μ = (mTh μ, vTh (vThr μ 0) (mTh μ + 1)) := by
      unfold gAddThing
      rw [if_neg hne, gH_0]
      rfl
    rw [eg] at hok ⊢
    refine ⟨rfl, fun Kn hK => ⟨h.sh f, rfl, ?_⟩⟩
    rw [gT_pT, pT_pT, e2]
    refine hK _ ?_
    obtain ⟨g1, g2, g3, g4⟩ := hH
    obtain ⟨z1, z2, z3, z4, z5, z6⟩ := hI.2.2.2.2.2.2.2.1
    refine mkRel (n := n) (m := m + 1) (q := q) (k := k) (s := s) (d := d) (mOk_at hok hM.1.1.1 hM.1.1.2.1 (by show mTh μ + 1 = nI (m + 1); rw [h3', nI_1]) hlt hM.1.1.2.2.2.2.1 hM.1.1.2.2.2.2.2.1 hM.1.1.2.2.2.2.2.2.1 hM.1.1.2.2.2.2.2.2.2.1 hM.1.1.2.2.2.2.2.2.2.2.1 hM.1.1.2.2.2.2.2.2.2.2.2.1) hN hU hR hI.2.2.2.2.2.2.1 hQ ⟨g1, fun j hj => g2 j (by omega), g3, fun i hi => ⟨(g4 i hi).1, fun j hj => ⟨by have := ((g4 i hi).2 j hj).1; omega, ((g4 i hi).2 j hj).2⟩⟩⟩ ⟨?_, hlt, z3, z4, z5, z6⟩ (zWo_thing h2 hW (g2 m (Nat.le_refl _)))
    show mTh μ + 1 = nI (m + 1)
    rw [h3', nI_1]
theorem sim_count {x y z : Int32} (h : zRel σ μ) : zSim w01 eX5_count tX5_count [.int x, .int y, .int z] σ (gCount μ x y z) := by
  obtain ⟨n, m, q, k, s, d, h9⟩ := id h
  obtain ⟨e1, e2, e3, e4, h1, h2, h3', h4', -⟩ := h9.nums
  obtain ⟨n1, n2, n3, n4, -⟩ := h9.nums2
  have eS : gSet3 (tn (mTg μ)) x y z = fTs3 (mTg μ) x y z := by rw [n2, h1]; rfl
  refine sim_1 h (fun f k hk => ?_) (fun f hk => ?_) rfl (fun hc f Kn hK => ⟨h.sh f, x, y, z, rfl, ?_⟩)
  · obtain ⟨-, x', y', z', e, rfl, h3⟩ := hk
    cases e
    rw [gT_pT, e1] at h3
    exact ⟨eS.trans h3, rfl⟩
  · cases hc : gSet3 (tn (mTg μ)) x y z with
    | true => rfl
    | false => exact absurd ⟨h.sh f, x, y, z, rfl, rfl, by rw [gT_pT, e1]; exact eS.symm.trans hc⟩ (hk 0)
  · have h8 : Kn (some (.int (nI (gMm μ (tn (mTg μ)) x y z (tn (mTh μ)))))) (pT σ f) := by
      have h7 := hK σ h
      have : gMm (vThr μ 0) (tn (mTg μ)) x y z (tn (mTh μ)) = gMm μ (tn (mTg μ)) x y z (tn (mTh μ)) := by rw [gMm_ct, gMm_ct]; rfl
      rw [← this]
      exact h7
    rw [n2, n4] at h8
    rw [gT_pT, fMt_ct h2 h4' (e1.trans h1) (e2.trans h3') h9.2.2.2.2.1.1 h9.2.2.2.2.2.2.2]
    exact h8
theorem gAt_thr {v : Int32} {n p : Nat} {x y z : Int32} : ∀ f i, gAt (vThr μ v) n x y z p f i = gAt μ n x y z p f i
  | 0, _ => rfl
  | f + 1, i => by
    unfold gAt
    rw [gAt_thr f (i + 1), gMm_ct, gMm_ct]
    rfl
theorem sim_match {p x y z : Int32} (h : zRel σ μ) : zSim w21 eX5_match tX5_match [.int p, .int x, .int y, .int z] σ (gMatch μ p x y z) := by
  obtain ⟨n, m, q, k, s, d, h9⟩ := id h
  obtain ⟨e1, e2, e3, e4, h1, h2, h3', h4', -⟩ := h9.nums
  obtain ⟨n1, n2, n3, n4, -⟩ := h9.nums2
  have eS : gSet3 (tn (mTg μ)) x y z = fTs3 (mTg μ) x y z := by rw [n2, h1]; rfl
  have eF : ∀ j : Nat, j < 2 ^ 31 → fMem (fMt σ x y z) (nI j) 20 0 0 = if j < gMm μ n x y z m then nI (gAt μ n x y z j m 0) else -1 := fun j hj => fMem_at h2 h4' (e1.trans h1) (e2.trans h3') h9.2.2.2.2.1.1 h9.2.2.2.2.2.2.2 x y z hj
  have hmm : gMm μ n x y z m ≤ m := by rw [gMm_ct]; exact fb_ct_le _ _
  intro f
  by_cases hp : p < 0
  · have eg : gMatch μ p x y z = (0, vThr μ 1) := by
      unfold gMatch
      rw [if_pos hp, gH_n (by decide)]
    rw [eg]
    refine ⟨?_, fun hk => absurd ⟨h.sh f, p, x, y, z, rfl, Or.inl ⟨hp, rfl⟩⟩ (hk 2)⟩
    rintro k' ⟨-, p', x', y', z', e, h3⟩
    cases e
    rcases h3 with ⟨-, rfl⟩ | ⟨h3, -⟩ | ⟨h3, -⟩
    · exact ⟨rfl, h⟩
    · exact absurd hp h3
    · exact absurd hp h3
  · obtain ⟨j, hj, rfl⟩ := nI_of hp
    cases hS : fTs3 (mTg μ) x y z with
    | false =>
      have eg : gMatch μ (nI j) x y z = (0, vThr μ 2) := by
        unfold gMatch
        rw [if_neg hp, eS, hS, if_neg (by decide), gH_n (by decide)]
      rw [eg]
      refine ⟨?_, fun hk => absurd ⟨h.sh f, nI j, x, y, z, rfl, Or.inr (Or.inl ⟨hp, by rw [gT_pT, e1]; exact hS, rfl⟩)⟩ (hk 0)⟩
      rintro k' ⟨-, p', x', y', z', e, h3⟩
      cases e
      rw [gT_pT, e1, hS] at h3
      rcases h3 with ⟨h3, -⟩ | ⟨-, -, rfl⟩ | ⟨-, h3, -⟩
      · exact absurd h3 hp
      · exact ⟨rfl, h⟩
      · exact absurd h3 (by decide)
    | true =>
      have hlt : nI j < nI (gMm μ (tn (mTg μ)) x y z (tn (mTh μ))) ↔ j < gMm μ n x y z m := by
        rw [n2, n4, nI_ltI hj (by omega)]
      by_cases hq : j < gMm μ n x y z m
      · have eg : gMatch μ (nI j) x y z = (nI (gAt μ n x y z j m 0), vThr μ 0) := by
          unfold gMatch
          rw [if_neg hp, eS, hS, if_pos rfl, if_pos (hlt.mpr hq), gH_0]
          show (nI (gAt (vThr μ 0) (tn (mTg μ)) x y z (tn (nI j)) (tn (mTh μ)) 0), vThr μ 0) = _
          rw [gAt_thr, n2, n4, tn_nI hj]
        have hne : ¬ nI (gAt μ n x y z j m 0) = -1 := by
          have h6 := eF j hj
          rw [if_pos hq] at h6
          rw [← h6]
          intro h7
          obtain ⟨i, hi, a1, a2⟩ := fb_ct_kth (by rw [gMm_ct] at hq; exact hq)
          rw [← gMm_ct] at a2
          rw [h6, gAt_hit a1 a2 m 0 (by omega) (by omega)] at h7
          exact nI_ne1 (by omega) h7
        rw [eg]
        constructor
        · rintro k' ⟨-, p', x', y', z', e, h3⟩
          cases e
          rw [gT_pT, e1, hS] at h3
          rcases h3 with ⟨h3, -⟩ | ⟨-, h3, -⟩ | ⟨-, -, h3, -⟩
          · exact absurd h3 hp
          · exact absurd h3 (by decide)
          · rw [eF j hj, if_pos hq] at h3
            exact absurd h3 hne
        · intro hk
          refine ⟨rfl, fun Kn hK => ⟨h.sh f, nI j, x, y, z, rfl, ?_⟩⟩
          have h8 := hK σ h
          rw [gT_pT, eF j hj, if_pos hq]
          exact h8
      · have eg : gMatch μ (nI j) x y z = (0, vThr μ 1) := by
          unfold gMatch
          rw [if_neg hp, eS, hS, if_pos rfl, if_neg (fun w => hq (hlt.mp w)), gH_n (by decide)]
        rw [eg]
        refine ⟨?_, fun hk => absurd ⟨h.sh f, nI j, x, y, z, rfl, Or.inr (Or.inr ⟨hp, by rw [gT_pT, e1]; exact hS, by rw [gT_pT, eF j hj, if_neg hq], rfl⟩)⟩ (hk 2)⟩
        rintro k' ⟨-, p', x', y', z', e, h3⟩
        cases e
        rw [gT_pT, e1, hS] at h3
        rcases h3 with ⟨h3, -⟩ | ⟨-, h3, -⟩ | ⟨-, -, -, rfl⟩
        · exact absurd h3 hp
        · exact absurd h3 (by decide)
        · exact ⟨rfl, h⟩
end S6
