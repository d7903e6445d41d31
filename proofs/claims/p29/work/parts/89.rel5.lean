section S8
variable {σ : zTS} {μ : zMS}
theorem mkRel9 {n m q k s d : Nat} (hM : mIn2 μ n m q k d) (hN : σ.1 = (mLe μ, mLn μ, mDr μ, mTg μ, mDl μ)) (hU : zUn n (mLe μ) (mLn μ)) (hR : zRl n σ.2.1 (mAl μ) (mIm μ)) (hr : zR σ.2.1 n) (hQ : σ.2.2.2.1 = (mKi μ, mSo μ, mTa μ, mSt μ, mVf μ, mVa μ, mRq μ)) (hH : zHd n m k s (sK σ) (mSe μ) (mCh μ) (mBe μ)) (hh : zH (sK σ) m k s) (hW : zWo n m (mAl μ) (mIm μ) (mSe μ) σ.2.2.2.2.2) : zRel9 σ μ n m q k s d := by
  obtain ⟨⟨⟨g1, c1, g2, c2, g3, c3, g4, c4, g5, c5, g6, g7, g8, g9, g10⟩, g11⟩, g12⟩ := id hM
  exact ⟨⟨by rw [hN]; exact g1, c1, by rw [hN]; exact g5, c5, by rw [hN]; exact ⟨g6, g7⟩, by rw [hN]; exact g8, hr, hh, by rw [hQ]; exact g3, c3, by rw [hQ]; exact g10⟩, hM, hN, hU, hR, hQ, hH, hW⟩
theorem sim_ask {k0 x y : Int32} (h : zRel σ μ) : zSim w21 eX5_ask tX5_ask [.int k0, .int x, .int y] σ (gAsk μ k0 x y) := by
  obtain ⟨n, m, q, k, s, d, h9⟩ := id h
  obtain ⟨e1, e2, e3, e4, h1, h2, h3', h4', h5', h6', -⟩ := h9.nums
  obtain ⟨n1, n2, n3, n4, n5, n6, -⟩ := h9.nums2
  obtain ⟨hI, hM, hN, hU, hR, hQ, hH, hW⟩ := h9
  have hok := mOk_ask (k := k0) (x := x) (y := y) h.ok
  intro f
  cases hc : (fOk x (mTg μ) && fOk y (mTg μ)) with
  | false =>
    have eg : gAsk μ k0 x y = (0, vThr μ 1) := by
      unfold gAsk
      rw [hc, if_neg (by decide), gH_n (by decide)]
    have hb : ¬ okI x (mTg μ) ∨ ¬ okI y (mTg μ) := by
      rw [← fOk_no, ← fOk_no]; exact and_ff hc
    rw [eg]
    refine ⟨?_, fun hk => absurd ⟨h.sh f, k0, x, y, rfl, Or.inl ⟨by rw [gT_pT, e1]; exact hb, rfl⟩⟩ (hk 2)⟩
    rintro k' ⟨-, k1, x', y', e, h3⟩
    cases e
    rw [gT_pT, e1] at h3
    rcases h3 with ⟨-, rfl⟩ | ⟨a1, a2, -⟩ | ⟨a1, a2, -⟩
    · exact ⟨rfl, h⟩
    · exact absurd hb (fun w => w.elim (fun w => w a1) (fun w => w a2))
    · exact absurd hb (fun w => w.elim (fun w => w a1) (fun w => w a2))
  | true =>
    have hb : okI x (mTg μ) ∧ okI y (mTg μ) := by
      rw [← fOk_ok, ← fOk_ok, ← Bool.and_eq_true]; exact hc
    have hb' : ¬ (¬ okI x (mTg μ) ∨ ¬ okI y (mTg μ)) := fun w => w.elim (fun w => w hb.1) (fun w => w hb.2)
    by_cases h4 : ¬ okI k0 4 ∨ x = y
    · have eg : gAsk μ k0 x y = (0, vThr μ 2) := by
        unfold gAsk
        rw [hc, if_pos rfl]
        rcases h4 with h4 | h4
        · rw [fOk_no.mpr h4, if_neg (by decide), gH_n (by decide)]
        · cases hk4 : fOk k0 4 with
          | false => rw [if_neg (by decide), gH_n (by decide)]
          | true => rw [if_pos rfl, if_pos h4, gH_n (by decide)]
      rw [eg]
      refine ⟨?_, fun hk => absurd ⟨h.sh f, k0, x, y, rfl, Or.inr (Or.inl ⟨by rw [gT_pT, e1]; exact hb.1, by rw [gT_pT, e1]; exact hb.2, h4, rfl⟩)⟩ (hk 0)⟩
      rintro k' ⟨-, k1, x', y', e, h3⟩
      cases e
      rw [gT_pT, e1] at h3
      rcases h3 with ⟨a1, -⟩ | ⟨-, -, -, rfl⟩ | ⟨-, -, a1, a2, -⟩
      · exact absurd a1 hb'
      · exact ⟨rfl, h⟩
      · exact absurd h4 (fun w => w.elim (fun w => w a1) a2)
    · have hk4 : okI k0 4 := Classical.byContradiction fun w => h4 (Or.inl w)
      have hne : ¬ x = y := fun w => h4 (Or.inr w)
      by_cases h5 : q = 40
      · have eg : gAsk μ k0 x y = (0, vThr μ 3) := by
          unfold gAsk
          rw [hc, if_pos rfl, fOk_ok.mpr hk4, if_pos rfl, if_neg hne, if_pos (show mRq μ = 40 by rw [h5', h5]; rfl), gH_n (by decide)]
        rw [eg]
        refine ⟨?_, fun hk => absurd ⟨h.sh f, k0, x, y, rfl, Or.inr (Or.inr ⟨by rw [gT_pT, e1]; exact hb.1, by rw [gT_pT, e1]; exact hb.2, hk4, hne, by rw [gT_pT, e3, h5', h5]; decide, rfl⟩)⟩ (hk 1)⟩
        rintro k' ⟨-, k1, x', y', e, h3⟩
        cases e
        rw [gT_pT, e1] at h3
        rcases h3 with ⟨a1, -⟩ | ⟨-, -, a1, -⟩ | ⟨-, -, -, -, -, rfl⟩
        · exact absurd a1 hb'
        · exact absurd a1 h4
        · exact ⟨rfl, h⟩
      · have hq : q < 40 := by omega
        have hne40 : ¬ mRq μ = 40 := fun q9 => by
          rw [h5'] at q9
          have := nI_ne (b := 40) (by omega) (by omega) q9
          omega
        have eg : gAsk μ k0 x y = (mRq μ, vRq (vThr μ 0) (mRq μ + 1) (upd (mKi μ) q k0) (upd (mSo μ) q x) (upd (mTa μ) q y)) := by
          unfold gAsk
          rw [hc, if_pos rfl, fOk_ok.mpr hk4, if_pos rfl, if_neg hne, if_neg hne40, gH_0]
          show (mRq μ, vRq (vThr μ 0) (mRq μ + 1) (upd (mKi μ) (tn (mRq μ)) k0) (upd (mSo μ) (tn (mRq μ)) x) (upd (mTa μ) (tn (mRq μ)) y)) = _
          rw [n6]
        rw [eg] at hok ⊢
        refine ⟨?_, fun hk => ⟨rfl, fun Kn hK => ⟨h.sh f, k0, x, y, rfl, ?_⟩⟩⟩
        · rintro k' ⟨-, k1, x', y', e, h3⟩
          cases e
          rw [gT_pT, e1, e3, h5'] at h3
          rcases h3 with ⟨a1, -⟩ | ⟨-, -, a1, -⟩ | ⟨-, -, -, -, a1, -⟩
          · exact absurd a1 hb'
          · exact absurd a1 h4
          · have := (nI_leI (a := 40) (by omega) (by omega)).mp a1
            omega
        · rw [gT_pT, pT_pT, e3]
          refine hK _ ?_
          have h0 : upd (mSt μ) q 0 = mSt μ := by
            have w := upd_id (al := mSt μ) (t := q)
            rw [hM.2.2 q (Nat.le_refl _)] at w
            exact w
          refine ⟨n, m, q + 1, k, s, d, mkRel9 (mOk_at hok hM.1.1.1 hM.1.1.2.1 hM.1.1.2.2.1 hM.1.1.2.2.2.1 (by show mRq μ + 1 = nI (q + 1); rw [h5', nI_1]) hq hM.1.1.2.2.2.2.2.2.1 hM.1.1.2.2.2.2.2.2.2.1 hM.1.1.2.2.2.2.2.2.2.2.1 hM.1.1.2.2.2.2.2.2.2.2.2.1) hN hU hR hI.2.2.2.2.2.2.1 ?_ hH hI.2.2.2.2.2.2.2.1 hW⟩
          show (upd σ.2.2.2.1.1 (tn (sReqs σ)) k0, upd σ.2.2.2.1.2.1 (tn (sReqs σ)) x, upd σ.2.2.2.1.2.2.1 (tn (sReqs σ)) y, upd σ.2.2.2.1.2.2.2.1 (tn (sReqs σ)) 0, σ.2.2.2.1.2.2.2.2.1, σ.2.2.2.1.2.2.2.2.2.1, nI (tn (sReqs σ) + 1)) = (upd (mKi μ) q k0, upd (mSo μ) q x, upd (mTa μ) q y, mSt μ, mVf μ, mVa μ, mRq μ + 1)
          rw [n5, hQ, h5', nI_1]
          show (_, _, _, upd (mSt μ) q 0, _, _, _) = _
          rw [h0]
/-- what a request names -/
theorem zRel9.req {n m q k s d i : Nat} (h : zRel9 σ μ n m q k s d) (hi : i < q) : okI (mKi μ i) 4 ∧ tn (mSo μ i) < n ∧ tn (mTa μ i) < n := by
  obtain ⟨hI, hM, -⟩ := h
  obtain ⟨t, o, h1, h2, h3, h4⟩ := hM.1.1.2.2.2.2.2.2.2.2.2.2.2.2.2.2 i hi
  have hn := hM.1.1.2.1
  rw [h1, h2, tn_nI (by omega), tn_nI (by omega)]
  exact ⟨(hM.1.2 i hi).1, h3, h4⟩
theorem zRel9.ac {n m q k s d : Nat} (h : zRel9 σ μ n m q k s d) : zAc (mAl μ) n := h.2.1.1.1.2.2.2.2.2.2.2.2.2.2.2.2.2.1
theorem fAlw_may {n m q k s d i : Nat} (h : zRel9 σ μ n m q k s d) (hi : i < q) : fAlw σ.2.1 n σ.2.2.2.1 i = fMay (mAl μ) (mIm μ) n (mKi μ i) (tn (mSo μ i)) (tn (mTa μ i)) := by
  obtain ⟨h1, h2, h3⟩ := h.req hi
  have hac := h.ac
  have hn := h.2.1.1.1.2.1
  unfold fAlw
  rw [h.2.2.2.2.2.1]
  exact zRl_allow hn hac h.2.2.2.2.1 h1 h2 h3
theorem fOa_co {n m q k s d i : Nat} (h : zRel9 σ μ n m q k s d) (hi : i < q) : fOa σ i = gCo μ n i := by
  obtain ⟨n1, -⟩ := h.nums2
  unfold fOa gCo
  rw [n1, fAlw_may h hi, h.2.2.2.2.2.1]
theorem sim_couldPass {x : Int32} (h : zRel σ μ) : zSim w21 eX5_couldPass tX5_couldPass [.int x] σ (gCouldPass μ x) := by
  obtain ⟨n, m, q, k, s, d, h9⟩ := id h
  obtain ⟨e1, e2, e3, e4, h1, h2, h3', h4', h5', h6', -⟩ := h9.nums
  obtain ⟨n1, n2, -⟩ := h9.nums2
  refine sim_1 h (fun f k hk => ?_) (fun f hk => ?_) rfl (fun hc f Kn hK => ⟨h.sh f, x, rfl, ?_⟩)
  · obtain ⟨-, x', e, rfl, h3⟩ := hk
    cases e
    rw [gT_pT, e3] at h3
    exact ⟨fOk_no.mpr h3, rfl⟩
  · cases hc : fOk x (mRq μ) with
    | true => rfl
    | false => exact absurd ⟨h.sh f, x, rfl, rfl, by rw [gT_pT, e3]; exact fOk_no.mp hc⟩ (hk 2)
  · have h8 : Kn (some (.int (zb (gCo μ (tn (mTg μ)) (tn x))))) (pT σ f) := hK σ h
    rw [h5'] at hc
    obtain ⟨i, hi, rfl⟩ := (fOk_n (by omega)).mp hc
    rw [n2, tn_nI (by omega)] at h8
    rw [gT_pT, tn_nI (by omega), fOa_co h9 hi]
    exact h8
theorem gCl_ct {n i : Nat} : ∀ j, gCl μ n i j = fb_ct (fun j => decide (j ≠ i) && gCo μ n j && (!gBd μ n i j || !gBd μ n j i)) j
  | 0 => rfl
  | j + 1 => by
    unfold gCl
    rw [gCl_ct j, fb_ct_succ]
/-- a request behind another one that could pass -/
theorem fBeh_bd {n m q k s d i j : Nat} (h : zRel9 σ μ n m q k s d) (hi : i < q) (hj : j < q) (hci : gCo μ n i = true) (hcj : mSt μ j = 0) : fAlw (fBeh σ i j) n σ.2.2.2.1 j = gBd μ n j i := by
  obtain ⟨a1, a2, a3⟩ := h.req hi
  obtain ⟨b1, b2, b3⟩ := h.req hj
  have hn := h.2.1.1.1.2.1
  rw [fAlw_beh h.1 (ρ := σ.2.1) ⟨fun _ _ => rfl, fun _ _ => rfl⟩ hj]
  unfold gCo at hci
  rw [Bool.and_eq_true] at hci
  have hac := fMay_ac (by omega) h.ac a2 a3 hci.2
  have hR := zRl_carry hn h.ac h.2.2.2.2.1 a1 a2 a3 hci.2
  unfold fAlw gBd gCo
  rw [h.2.2.2.2.2.1]
  show fAllow (fWork (fCarry σ.2.1 (mKi μ i) (tn (mSo μ i)) (tn (mTa μ i))) n) n (mKi μ j) (tn (mSo μ j)) (tn (mTa μ j)) = (decide (mSt μ j = 0) && fMay (fDoA (mAl μ) (mKi μ i) (tn (mSo μ i)) (tn (mTa μ i))) (fDoI (mIm μ) (mKi μ i) (tn (mSo μ i)) (tn (mTa μ i))) n (mKi μ j) (tn (mSo μ j)) (tn (mTa μ j)))
  rw [zRl_allow hn hac hR b1 b2 b3, decide_eq_true hcj, Bool.true_and]
theorem gCo_open {n i : Nat} (h : gCo μ n i = true) : mSt μ i = 0 := by
  unfold gCo at h
  rw [Bool.and_eq_true] at h
  exact of_decide_eq_true h.1
theorem sim_clashes {x : Int32} (h : zRel σ μ) : zSim w21 eX5_clashes tX5_clashes [.int x] σ (gClashes μ x) := by
  obtain ⟨n, m, q, k, s, d, h9⟩ := id h
  obtain ⟨e1, e2, e3, e4, h1, h2, h3', h4', h5', h6', -⟩ := h9.nums
  obtain ⟨n1, n2, n3, n4, n5, n6, -⟩ := h9.nums2
  refine sim_1 h (fun f k hk => ?_) (fun f hk => ?_) rfl (fun hc f Kn hK => ⟨h.sh f, x, rfl, fun τ => ?_⟩)
  · obtain ⟨-, x', e, rfl, h3⟩ := hk
    cases e
    rw [gT_pT, e3] at h3
    exact ⟨fOk_no.mpr h3, rfl⟩
  · cases hc : fOk x (mRq μ) with
    | true => rfl
    | false => exact absurd ⟨h.sh f, x, rfl, rfl, by rw [gT_pT, e3]; exact fOk_no.mp hc⟩ (hk 2)
  · have h7 : zRel (wU σ τ) (vThr μ 0) := h
    have h8 : Kn (some (.int (if gCo μ (tn (mTg μ)) (tn x) then nI (gCl (vThr μ 0) (tn (mTg μ)) (tn x) (tn (mRq μ))) else 0))) (pT (wU σ τ) f) := hK _ h7
    rw [h5'] at hc
    obtain ⟨i, hi, rfl⟩ := (fOk_n (by omega)).mp hc
    have e9 : gCl (vThr μ 0) n i q = gCl μ n i q := by rw [gCl_ct, gCl_ct]; rfl
    rw [n2, n6, tn_nI (by omega), e9] at h8
    rw [gT_pT, pT_pT, tn_nI (by omega)]
    have e8 : fCla σ i = if gCo μ n i then nI (gCl μ n i q) else 0 := by
      unfold fCla
      rw [fOa_co h9 hi, n5]
      by_cases hci : gCo μ n i = true
      · rw [if_pos hci, if_pos hci, gCl_ct]
        apply congrArg
        refine fb_ct_cong fun j hj => ?_
        unfold fClP
        rw [fOa_co h9 hj, n1, Bool.and_assoc]
        cases hcj : gCo μ n j with
        | false => simp
        | true =>
          rw [fBeh_bd h9 hi hj hci (gCo_open hcj), fBeh_bd h9 hj hi hcj (gCo_open hci), Bool.or_comm (!gBd μ n j i)]
      · rw [if_neg hci, if_neg hci]
    rw [e8]
    exact h8
theorem abs3 : ∀ a, a < 33 → ∀ b, b < 33 → ((3 ≤ fAbs (nI a - nI b)) ↔ (3 ≤ nI a - nI b ∨ nI a - nI b ≤ -3)) := by decide +kernel
theorem rel_vote {n m q k s d i : Nat} (h : zRel9 σ μ n m q k s d) (hi : i < q) (h0 : mSt μ i = 0) : zRel (fDec σ i (fLead σ i)) (gVoE μ n i) := by
  obtain ⟨a1, a2, a3⟩ := h.req hi
  obtain ⟨n1, n2, n3, n4, n5, n6, -⟩ := h.nums2
  have hn := h.2.1.1.1.2.1
  have hm := h.2.1.1.1.2.2.2.1
  have hac := h.ac
  have hal := fAlw_may h hi
  have hco : gCo μ n i = fMay (mAl μ) (mIm μ) n (mKi μ i) (tn (mSo μ i)) (tn (mTa μ i)) := by
    unfold gCo
    rw [decide_eq_true h0, Bool.true_and]
  obtain ⟨hI, hM, hN, hU, hR, hQ, hH, hW⟩ := id h
  have hL : fLead σ i = gVoL μ i := by
    unfold fLead gVoL
    rw [fBc_count, fBc_count, hQ]
  have h3 : (3 ≤ fAbs (gVoL μ i)) ↔ (3 ≤ gVoL μ i ∨ gVoL μ i ≤ -3) := by
    unfold gVoL
    exact abs3 _ (by have := fb_ct_le (bt (mVf μ i)) 32; omega) _ (by have := fb_ct_le (bt (mVa μ i)) 32; omega)
  have hst : ∀ x, zRel (wS σ i x) (vSt μ i x) := fun x => ⟨n, m, q, k, s, d, mkRel9 (mOk_st hM hi) hN hU hR hI.2.2.2.2.2.2.1 (by
    show (σ.2.2.2.1.1, σ.2.2.2.1.2.1, σ.2.2.2.1.2.2.1, upd σ.2.2.2.1.2.2.2.1 i x, σ.2.2.2.1.2.2.2.2) = (mKi μ, mSo μ, mTa μ, upd (mSt μ) i x, mVf μ, mVa μ, mRq μ)
    rw [hQ]) hH hI.2.2.2.2.2.2.2.1 hW⟩
  unfold fDec gVoE
  rw [n1, hal, hL, ← hco]
  by_cases q3 : 3 ≤ gVoL μ i
  · cases hc : gCo μ n i with
    | true =>
      rw [if_pos ⟨q3, rfl⟩, if_pos q3, if_pos rfl]
      have hma : fMay (mAl μ) (mIm μ) n (mKi μ i) (tn (mSo μ i)) (tn (mTa μ i)) = true := hco.symm.trans hc
      have hM2 := mOk_do (x := 1) hM hi hc
      have hR2 := zRl_carry hn hac hR a1 a2 a3 hma
      have eQ : (fWork (fCarry σ.2.1 (qK σ.2.2.2.1 i) (qT σ.2.2.2.1 i) (qO σ.2.2.2.1 i)) n) = fWork (fCarry σ.2.1 (mKi μ i) (tn (mSo μ i)) (tn (mTa μ i))) n := by rw [hQ]
      rw [eQ]
      have eS : fRef (wR (wS σ i 1) (fWork (fCarry σ.2.1 (mKi μ i) (tn (mSo μ i)) (tn (mTa μ i))) n)) = wV (wR (wS σ i 1) (fWork (fCarry σ.2.1 (mKi μ i) (tn (mSo μ i)) (tn (mTa μ i))) n)) (fSh (fWork (fCarry σ.2.1 (mKi μ i) (tn (mSo μ i)) (tn (mTa μ i))) n).1 (fWork (fCarry σ.2.1 (mKi μ i) (tn (mSo μ i)) (tn (mTa μ i))) n).2.2.2.1 n (sHand σ) σ.2.2.2.2.2 m) := by
        show wV _ (fSh _ _ (tn (sTags σ)) _ _ (tn (sThings σ))) = _
        rw [n1, n3]
        rfl
      rw [eS]
      refine ⟨n, m, q, k, s, d, mkRel9 hM2 hN hU hR2 ?_ ?_ hH hI.2.2.2.2.2.2.2.1 ?_⟩
      · have : (fWork (fCarry σ.2.1 (mKi μ i) (tn (mSo μ i)) (tn (mTa μ i))) n).2.2.2.2 = σ.2.1.2.2.2.2 := by
          show (fCarry σ.2.1 (mKi μ i) (tn (mSo μ i)) (tn (mTa μ i))).2.2.2.2 = _
          unfold fCarry
          split
          · rfl
          · split
            · rfl
            · split <;> rfl
        exact ⟨this.trans hI.2.2.2.2.2.2.1.1, hn⟩
      · show (σ.2.2.2.1.1, σ.2.2.2.1.2.1, σ.2.2.2.1.2.2.1, upd σ.2.2.2.1.2.2.2.1 i 1, σ.2.2.2.1.2.2.2.2) = (mKi μ, mSo μ, mTa μ, upd (mSt μ) i 1, mVf μ, mVa μ, mRq μ)
        rw [hQ]
      · show zWo n m (fDoA (mAl μ) (mKi μ i) (tn (mSo μ i)) (tn (mTa μ i))) (fDoI (mIm μ) (mKi μ i) (tn (mSo μ i)) (tn (mTa μ i))) (mSe μ) (fSh _ _ n (sHand σ) σ.2.2.2.2.2 m)
        rw [show sHand σ = mSe μ from hH.1]
        exact zWo_ref hn hm hR2 (zWo_0 hW)
    | false =>
      rw [if_neg (fun w => absurd w.2 (by decide)), if_pos (h3.mpr (Or.inl q3)), if_pos q3, if_neg (by decide)]
      exact hst 2
  · rw [if_neg (fun w => q3 w.1), if_neg q3]
    by_cases q4 : gVoL μ i ≤ -3
    · rw [if_pos (h3.mpr (Or.inr q4)), if_pos q4]
      exact hst 2
    · rw [if_neg (fun w => (h3.mp w).elim q3 q4), if_neg q4]
      exact ⟨n, m, q, k, s, d, h⟩
theorem sim_vote {x y : Int32} {b : Bool} (h : zRel σ μ) : zSim w21 eX5_vote tX5_vote [.int x, .int y, .int (zb b)] σ (gVote μ x y b) := by
  obtain ⟨n, m, q, k, s, d, h9⟩ := id h
  obtain ⟨e1, e2, e3, e4, h1, h2, h3', h4', h5', h6', -⟩ := h9.nums
  obtain ⟨n1, n2, n3, n4, n5, n6, -⟩ := h9.nums2
  have eS : ∀ i, qS σ.2.2.2.1 i = mSt μ i := fun i => by rw [h9.2.2.2.2.2.1]
  intro f
  cases hx : fOk x (mRq μ) with
  | false =>
    have eg : gVote μ x y b = (0, vThr μ 1) := by
      unfold gVote
      rw [hx, if_neg (by decide), gH_n (by decide)]
    rw [eg]
    refine ⟨?_, fun hk => absurd ⟨h.sh f, x, y, b, rfl, Or.inl ⟨by rw [gT_pT, e3]; exact fOk_no.mp hx, rfl⟩⟩ (hk 2)⟩
    rintro k' ⟨-, x', y', z', e, h3⟩
    injection e with e5 e; injection e with e5 e; injection e with e6 e; injection e with e7 e
    injection e5 with e5; injection e6 with e6
    subst e5; subst e6
    rw [gT_pT, e3] at h3
    rcases h3 with ⟨-, rfl⟩ | ⟨a1, -⟩ | ⟨a1, -⟩
    · exact ⟨rfl, h⟩
    · exact absurd a1 (fOk_no.mp hx)
    · exact absurd a1 (fOk_no.mp hx)
  | true =>
    cases hy : fOk y 10 with
    | false =>
      have eg : gVote μ x y b = (0, vThr μ 2) := by
        unfold gVote
        rw [hx, if_pos rfl, hy, if_neg (by decide), gH_n (by decide)]
      rw [eg]
      refine ⟨?_, fun hk => absurd ⟨h.sh f, x, y, b, rfl, Or.inr (Or.inl ⟨by rw [gT_pT, e3]; exact fOk_ok.mp hx, fOk_no.mp hy, rfl⟩)⟩ (hk 0)⟩
      rintro k' ⟨-, x', y', z', e, h3⟩
      injection e with e5 e; injection e with e5 e; injection e with e6 e; injection e with e7 e
      injection e5 with e5; injection e6 with e6
      subst e5; subst e6
      rw [gT_pT, e3] at h3
      rcases h3 with ⟨a1, -⟩ | ⟨-, -, rfl⟩ | ⟨-, a1, -⟩
      · exact absurd (fOk_ok.mp hx) a1
      · exact ⟨rfl, h⟩
      · exact absurd a1 (fOk_no.mp hy)
    | true =>
      by_cases h0 : mSt μ (tn x) = 0
      · have eg : gVote μ x y b = (mSt (gVoE (gVoS (vThr μ 0) (tn x) (tn y) b) n (tn x)) (tn x), gVoE (gVoS (vThr μ 0) (tn x) (tn y) b) n (tn x)) := by
          unfold gVote
          rw [hx, if_pos rfl, hy, if_pos rfl, if_pos h0, gH_0]
          show (mSt (gVoE (gVoS (vThr μ 0) (tn x) (tn y) b) (tn (mTg μ)) (tn x)) (tn x), gVoE (gVoS (vThr μ 0) (tn x) (tn y) b) (tn (mTg μ)) (tn x)) = _
          rw [n2]
        have e0 : (gVote μ x y b).2.1 = 0 := by
          rw [eg]
          show (gVoE (gVoS (vThr μ 0) (tn x) (tn y) b) n (tn x)).1 = 0
          unfold gVoE
          split
          · split <;> rfl
          · split <;> rfl
        rw [h5'] at hx
        obtain ⟨i, hi, rfl⟩ := (fOk_n (by omega)).mp hx
        rw [tn_nI (by omega)] at eg h0
        have hV : zRel9 (fSetV σ i (tn y) b) (gVoS (vThr μ 0) i (tn y) b) n m q k s d := by
          obtain ⟨hI, hM, hN, hU, hR, hQ, hH, hW⟩ := id h9
          refine mkRel9 (μ := gVoS (vThr μ 0) i (tn y) b) hM hN hU hR hI.2.2.2.2.2.2.1 ?_ hH hI.2.2.2.2.2.2.2.1 hW
          show (σ.2.2.2.1.1, σ.2.2.2.1.2.1, σ.2.2.2.1.2.2.1, σ.2.2.2.1.2.2.2.1, upd σ.2.2.2.1.2.2.2.2.1 i (if b then σ.2.2.2.1.2.2.2.2.1 i ||| sh1 (tn y) else σ.2.2.2.1.2.2.2.2.1 i &&& (sh1 (tn y) ^^^ (-1))), upd σ.2.2.2.1.2.2.2.2.2.1 i (if b then σ.2.2.2.1.2.2.2.2.2.1 i &&& (sh1 (tn y) ^^^ (-1)) else σ.2.2.2.1.2.2.2.2.2.1 i ||| sh1 (tn y)), σ.2.2.2.1.2.2.2.2.2.2) = _
          rw [hQ]
          rfl
        have hE : zRel (fVot σ i (tn y) b) (gVoE (gVoS (vThr μ 0) i (tn y) b) n i) := rel_vote hV hi h0
        refine ⟨?_, fun hk => ⟨e0, fun Kn hK => ⟨h.sh f, nI i, y, b, rfl, ?_⟩⟩⟩
        · rintro k' ⟨-, x', y', z', e, h3⟩
          injection e with e5 e; injection e with e5 e; injection e with e6 e; injection e with e7 e
          injection e5 with e5; injection e6 with e6
          subst e5; subst e6
          rw [gT_pT, e3, eS, tn_nI (by omega)] at h3
          rcases h3 with ⟨a1, -⟩ | ⟨-, a1, -⟩ | ⟨-, -, a1, -⟩
          · rw [h5'] at a1; exact absurd (fOk_ok.mp hx) a1
          · exact absurd (fOk_ok.mp hy) a1
          · exact absurd h0 a1
        · rw [gT_pT, pT_pT, tn_nI (by omega)]
          rw [eg] at hK
          have h8 := hK _ hE
          obtain ⟨_, _, _, _, _, _, hE9⟩ := hE
          rw [show qS (fVot σ i (tn y) b).2.2.2.1 i = mSt (gVoE (gVoS (vThr μ 0) i (tn y) b) n i) i by rw [hE9.2.2.2.2.2.1]]
          exact h8
      · have eg : gVote μ x y b = (0, vThr μ 3) := by
          unfold gVote
          rw [hx, if_pos rfl, hy, if_pos rfl, if_neg h0, gH_n (by decide)]
        rw [eg]
        refine ⟨?_, fun hk => absurd ⟨h.sh f, x, y, b, rfl, Or.inr (Or.inr ⟨by rw [gT_pT, e3]; exact fOk_ok.mp hx, fOk_ok.mp hy, by rw [gT_pT, eS]; exact h0, rfl⟩)⟩ (hk 1)⟩
        rintro k' ⟨-, x', y', z', e, h3⟩
        injection e with e5 e; injection e with e5 e; injection e with e6 e; injection e with e7 e
        injection e5 with e5; injection e6 with e6
        subst e5; subst e6
        rw [gT_pT, e3] at h3
        rcases h3 with ⟨a1, -⟩ | ⟨-, a1, -⟩ | ⟨-, -, -, rfl⟩
        · exact absurd (fOk_ok.mp hx) a1
        · exact absurd (fOk_ok.mp hy) a1
        · exact ⟨rfl, h⟩
end S8
