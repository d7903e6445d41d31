section M14
variable {l : Launch} {z0 b N : Nat} {D : va_G} {cA : Nat → ClassId}
theorem gBeg_in (μ : zMS) {k : Nat} (hk : mKp μ = nI k) (hk20 : k ≤ 20) : mAl (gBeg μ) = mAl μ ∧ mIm (gBeg μ) = mIm μ ∧ mTg (gBeg μ) = mTg μ ∧ mTh (gBeg μ) = mTh μ ∧ mSe (gBeg μ) = mSe μ ∧ ∃ k', mKp (gBeg μ) = nI (k' + 1) ∧ k' < 20 := by
  unfold gBeg
  by_cases h9 : mKp μ = 20
  · rw [if_pos h9]; exact ⟨rfl, rfl, rfl, rfl, rfl, 19, rfl, by decide⟩
  · rw [if_neg h9, hk, nI_1]
    refine ⟨rfl, rfl, rfl, rfl, rfl, k, rfl, ?_⟩
    rcases Nat.lt_or_ge k 20 with q | q
    · exact q
    · exact absurd (by rw [hk]; rw [show k = 20 by omega]; rfl) h9
theorem gMs_in (μ : zMS) {n kk : Nat} {k : Int32} {t o : Nat} (hkp : mKp μ = nI kk) (hk20 : kk ≤ 20) : ∀ i, mAl (gMs μ n k t o i).2 = mAl μ ∧ mIm (gMs μ n k t o i).2 = mIm μ ∧ mTg (gMs μ n k t o i).2 = mTg μ ∧ mTh (gMs μ n k t o i).2 = mTh μ ∧ (gMs μ n k t o i).1 ≤ i ∧ ∃ k', mKp (gMs μ n k t o i).2 = nI k' ∧ k' ≤ 20 ∧ (¬ (gMs μ n k t o i).1 = 0 → 1 ≤ k')
  | 0 => ⟨rfl, rfl, rfl, rfl, Nat.le_refl _, kk, hkp, hk20, fun h => absurd rfl h⟩
  | i + 1 => by
    obtain ⟨h1, h2, h3, h4, h5, k', h6, h7, h8⟩ := gMs_in (n := n) (k := k) (t := t) (o := o) μ hkp hk20 i
    unfold gMs
    generalize gMs μ n k t o i = S at *
    by_cases hc : gEdi (mAl μ) (mIm μ) n k t o (mSe S.2 i) = mSe S.2 i
    · rw [if_pos hc]
      exact ⟨h1, h2, h3, h4, by omega, k', h6, h7, h8⟩
    · rw [if_neg hc]
      by_cases h0 : S.1 = 0
      · rw [if_pos h0]
        obtain ⟨g1, g2, g3, g4, g5, k2, g6, g7⟩ := gBeg_in S.2 h6 h7
        exact ⟨g1.trans h1, g2.trans h2, g3.trans h3, g4.trans h4, by show S.1 + 1 ≤ i + 1; omega, k2 + 1, g6, by omega, fun _ => by omega⟩
      · rw [if_neg h0]
        exact ⟨h1, h2, h3, h4, by show S.1 + 1 ≤ i + 1; omega, k', h6, h7, fun _ => h8 h0⟩
set_option maxHeartbeats 1000000 in
set_option maxRecDepth 20000 in
theorem mX6_mass (hlt : l.stackTraces = false) : Sem l z0 b N D cA yX6_mass cX6_mass 7 (some .int) 6 138 4 zno tX6_mass := uX6_mass hlt (mX6_isTag hlt) (mX6_in hlt) (mX6_holds hlt) (mX6_edited hlt) (mX6_begins hlt) (mX6_sets hlt) (fun M a h Kn Kx hok hN A h49 => by
  obtain ⟨μ, f, n, m, q, kk, d, k, x, y, rfl, rfl, hI, hk⟩ := hN
  have hI' := hI
  obtain ⟨⟨hn, hn24, hm, hm20, hq, hq40, hkp, hk20, hd, hd8, hch1, hch2, hln, hac, hrq⟩, hrk⟩ := hI'
  unfold gMass gH at hk
  rw [hn] at hk
  have bad : ∀ (c : Int32), ¬ c = 0 → Kn (some (.int 0)) (pM (vThr μ c) f) → bX6_mass_35 M Kn Kx (pM μ f) (A 49) [some (.ref 29), some (.int k), some (.int x), some (.int y), none, none, none] [.int c, .ref 29] (pM μ f) := by
    intro c hc hk
    simp only [pM_0, pM_1, pM_2, pM_3, pM_4, pM_5, pM_6, pM_7, pM_8, pM_9, pM_10, pM_11, pM_12, pM_13, pM_14, bX6_mass_35, o_iload, o_aload, o_ic, o_lc, o_istore, o_astore, o_iinc, o_bin, o_idiv, o_ineg, o_i2c, o_i2l, o_lcmp, o_if1, o_if2, o_dup, o_dup2, o_getf, o_puti, o_ald, o_iast, o_cast, o_lald, o_last, o_mmin, o_mabs, o_ret, o_vret, o_throw, o_lsw01, o_callS0, o_callS1, o_callS2, o_callS3, o_callS4, o_callS5, o_callV0, o_callV1, o_callV2, o_callV3, o_callV4, o_callV5, zcall_no, zok_nil, zok_ref, zok_int, zE, List.map_cons, List.map_nil, List.length_cons, List.length_nil, List.replicate_succ, List.replicate_zero, List.cons_append, List.nil_append, List.append_nil, List.getElem?_cons_zero, List.getElem?_cons_succ, List.set_cons_zero, List.set_cons_succ, Option.toList_some, Option.toList_none, vp_nar_int, znar_b, zb_0, ne_eq, Bool.not_eq_false, Classical.not_not, nI_1, sh1_def, true_and, and_true, Nat.reduceAdd, Nat.reduceSub, Nat.reduceLT, Nat.reduceLeDiff, Value.category, Nat.zero_add, Nat.add_zero]
    refine ⟨μ, f, c, rfl, rfl, ?_⟩
    simp only [pM_0, pM_1, pM_2, pM_3, pM_4, pM_5, pM_6, pM_7, pM_8, pM_9, pM_10, pM_11, pM_12, pM_13, pM_14, bX6_mass_35, o_iload, o_aload, o_ic, o_lc, o_istore, o_astore, o_iinc, o_bin, o_idiv, o_ineg, o_i2c, o_i2l, o_lcmp, o_if1, o_if2, o_dup, o_dup2, o_getf, o_puti, o_ald, o_iast, o_cast, o_lald, o_last, o_mmin, o_mabs, o_ret, o_vret, o_throw, o_lsw01, o_callS0, o_callS1, o_callS2, o_callS3, o_callS4, o_callS5, o_callV0, o_callV1, o_callV2, o_callV3, o_callV4, o_callV5, zcall_no, zok_nil, zok_ref, zok_int, zE, List.map_cons, List.map_nil, List.length_cons, List.length_nil, List.replicate_succ, List.replicate_zero, List.cons_append, List.nil_append, List.append_nil, List.getElem?_cons_zero, List.getElem?_cons_succ, List.set_cons_zero, List.set_cons_succ, Option.toList_some, Option.toList_none, vp_nar_int, znar_b, zb_0, ne_eq, Bool.not_eq_false, Classical.not_not, nI_1, sh1_def, true_and, and_true, Nat.reduceAdd, Nat.reduceSub, Nat.reduceLT, Nat.reduceLeDiff, Value.category, Nat.zero_add, Nat.add_zero]
    exact ⟨fun h9 => absurd (of_decide_eq_true h9) hc, fun _ => hk⟩
  simp only [pM_0, pM_1, pM_2, pM_3, pM_4, pM_5, pM_6, pM_7, pM_8, pM_9, pM_10, pM_11, pM_12, pM_13, pM_14, bX6_mass_0, bX6_mass_17, o_iload, o_aload, o_ic, o_lc, o_istore, o_astore, o_iinc, o_bin, o_idiv, o_ineg, o_i2c, o_i2l, o_lcmp, o_if1, o_if2, o_dup, o_dup2, o_getf, o_puti, o_ald, o_iast, o_cast, o_lald, o_last, o_mmin, o_mabs, o_ret, o_vret, o_throw, o_lsw01, o_callS0, o_callS1, o_callS2, o_callS3, o_callS4, o_callS5, o_callV0, o_callV1, o_callV2, o_callV3, o_callV4, o_callV5, zcall_no, zok_nil, zok_ref, zok_int, zE, List.map_cons, List.map_nil, List.length_cons, List.length_nil, List.replicate_succ, List.replicate_zero, List.cons_append, List.nil_append, List.append_nil, List.getElem?_cons_zero, List.getElem?_cons_succ, List.set_cons_zero, List.set_cons_succ, Option.toList_some, Option.toList_none, vp_nar_int, znar_b, zb_0, ne_eq, Bool.not_eq_false, Classical.not_not, nI_1, sh1_def, true_and, and_true, Nat.reduceAdd, Nat.reduceSub, Nat.reduceLT, Nat.reduceLeDiff, Value.category, Nat.zero_add, Nat.add_zero]
  refine ⟨μ, f, n, x, rfl, rfl, hn, hn24, ?_⟩
  simp only [pM_0, pM_1, pM_2, pM_3, pM_4, pM_5, pM_6, pM_7, pM_8, pM_9, pM_10, pM_11, pM_12, pM_13, pM_14, bX6_mass_0, bX6_mass_17, o_iload, o_aload, o_ic, o_lc, o_istore, o_astore, o_iinc, o_bin, o_idiv, o_ineg, o_i2c, o_i2l, o_lcmp, o_if1, o_if2, o_dup, o_dup2, o_getf, o_puti, o_ald, o_iast, o_cast, o_lald, o_last, o_mmin, o_mabs, o_ret, o_vret, o_throw, o_lsw01, o_callS0, o_callS1, o_callS2, o_callS3, o_callS4, o_callS5, o_callV0, o_callV1, o_callV2, o_callV3, o_callV4, o_callV5, zcall_no, zok_nil, zok_ref, zok_int, zE, List.map_cons, List.map_nil, List.length_cons, List.length_nil, List.replicate_succ, List.replicate_zero, List.cons_append, List.nil_append, List.append_nil, List.getElem?_cons_zero, List.getElem?_cons_succ, List.set_cons_zero, List.set_cons_succ, Option.toList_some, Option.toList_none, vp_nar_int, znar_b, zb_0, ne_eq, Bool.not_eq_false, Classical.not_not, nI_1, sh1_def, true_and, and_true, Nat.reduceAdd, Nat.reduceSub, Nat.reduceLT, Nat.reduceLeDiff, Value.category, Nat.zero_add, Nat.add_zero]
  refine ⟨fun hb => ?_, fun hb => ⟨μ, f, n, y, rfl, rfl, hn, hn24, ?_⟩⟩
  · rw [show fOk x (nI n) = false from hb, Bool.false_and] at hk
    exact bad 1 (by decide) hk
  · rw [show fOk x (nI n) = true from hb, Bool.true_and] at hk
    simp only [pM_0, pM_1, pM_2, pM_3, pM_4, pM_5, pM_6, pM_7, pM_8, pM_9, pM_10, pM_11, pM_12, pM_13, pM_14, bX6_mass_0, bX6_mass_17, o_iload, o_aload, o_ic, o_lc, o_istore, o_astore, o_iinc, o_bin, o_idiv, o_ineg, o_i2c, o_i2l, o_lcmp, o_if1, o_if2, o_dup, o_dup2, o_getf, o_puti, o_ald, o_iast, o_cast, o_lald, o_last, o_mmin, o_mabs, o_ret, o_vret, o_throw, o_lsw01, o_callS0, o_callS1, o_callS2, o_callS3, o_callS4, o_callS5, o_callV0, o_callV1, o_callV2, o_callV3, o_callV4, o_callV5, zcall_no, zok_nil, zok_ref, zok_int, zE, List.map_cons, List.map_nil, List.length_cons, List.length_nil, List.replicate_succ, List.replicate_zero, List.cons_append, List.nil_append, List.append_nil, List.getElem?_cons_zero, List.getElem?_cons_succ, List.set_cons_zero, List.set_cons_succ, Option.toList_some, Option.toList_none, vp_nar_int, znar_b, zb_0, ne_eq, Bool.not_eq_false, Classical.not_not, nI_1, sh1_def, true_and, and_true, Nat.reduceAdd, Nat.reduceSub, Nat.reduceLT, Nat.reduceLeDiff, Value.category, Nat.zero_add, Nat.add_zero]
    refine ⟨fun hb2 => ⟨k, 0, 2, rfl, ?_⟩, fun hb2 => ?_⟩
    · rw [show fOk y (nI n) = true from hb2, if_pos rfl] at hk
      simp only [pM_0, pM_1, pM_2, pM_3, pM_4, pM_5, pM_6, pM_7, pM_8, pM_9, pM_10, pM_11, pM_12, pM_13, pM_14, bX6_mass_0, bX6_mass_17, o_iload, o_aload, o_ic, o_lc, o_istore, o_astore, o_iinc, o_bin, o_idiv, o_ineg, o_i2c, o_i2l, o_lcmp, o_if1, o_if2, o_dup, o_dup2, o_getf, o_puti, o_ald, o_iast, o_cast, o_lald, o_last, o_mmin, o_mabs, o_ret, o_vret, o_throw, o_lsw01, o_callS0, o_callS1, o_callS2, o_callS3, o_callS4, o_callS5, o_callV0, o_callV1, o_callV2, o_callV3, o_callV4, o_callV5, zcall_no, zok_nil, zok_ref, zok_int, zE, List.map_cons, List.map_nil, List.length_cons, List.length_nil, List.replicate_succ, List.replicate_zero, List.cons_append, List.nil_append, List.append_nil, List.getElem?_cons_zero, List.getElem?_cons_succ, List.set_cons_zero, List.set_cons_succ, Option.toList_some, Option.toList_none, vp_nar_int, znar_b, zb_0, ne_eq, Bool.not_eq_false, Classical.not_not, nI_1, sh1_def, true_and, and_true, Nat.reduceAdd, Nat.reduceSub, Nat.reduceLT, Nat.reduceLeDiff, Value.category, Nat.zero_add, Nat.add_zero]
      have e3 : fIn k 0 2 = fOk k 3 := fIn_n (n := 3) (by decide)
      rw [e3]
      refine ⟨fun hb3 => ?_, fun hb3 => ?_⟩
      · rw [hb3] at hk
        exact bad 2 (by decide) hk
      · rw [hb3] at hk
        obtain ⟨t, ht, rfl⟩ := (fOk_n (by omega)).mp (show fOk x (nI n) = true from hb)
        obtain ⟨o, ho, rfl⟩ := (fOk_n (by omega)).mp (show fOk y (nI n) = true from hb2)
        rw [tn_nI (by omega), tn_nI (by omega)] at hk
        obtain ⟨μ', hμ⟩ : ∃ μ', μ' = vThr μ 0 := ⟨_, rfl⟩
        have hI2 : mInw μ' n m q kk d := by rw [hμ]; exact hI
        have hn2 : tn (mTg μ') = n := by rw [hI2.1.1]; exact tn_nI (by omega)
        have hm2 : tn (mTh μ') = m := by rw [hI2.1.2.2.1]; exact tn_nI (by omega)
        have hk2 : Kn (some (.int (nI (gMs μ' (tn (mTg μ')) k t o (tn (mTh μ'))).1))) (pM (gMs μ' (tn (mTg μ')) k t o (tn (mTh μ'))).2 f) := by rw [hμ]; exact hk
        rw [hn2, hm2] at hk2
        clear hk bad
        obtain ⟨⟨jn, -, jm, -, -, -, jkp, -, -, -, -, -, -, jac, -⟩, -⟩ := hI2
        have hin := gMs_in (n := n) (k := k) (t := t) (o := o) μ' jkp hk20
        have loop : ∀ (r i : Nat) (w : Option Value), i + r = m → A 49 [some (.ref 29), some (.int k), some (.int (nI t)), some (.int (nI o)), some (.int (nI (gMs μ' n k t o i).1)), some (.int (nI i)), w] [] (pM (gMs μ' n k t o i).2 f) := by
          intro r
          induction r with
          | zero =>
            intro i w hi
            obtain ⟨h1, h2, h3, h4, h5, k', h6, h7, h8⟩ := hin i
            have hm' : (gMs μ' n k t o i).2.2.2.2.2.2.2.2.2.1 = nI m := h4.trans jm
            apply h49
            have hi9 : i = m := by omega
            subst hi9
            simp only [pM_0, pM_1, pM_2, pM_3, pM_4, pM_5, pM_6, pM_7, pM_8, pM_9, pM_10, pM_11, pM_12, pM_13, pM_14, bX6_mass_49, hm', o_iload, o_aload, o_ic, o_lc, o_istore, o_astore, o_iinc, o_bin, o_idiv, o_ineg, o_i2c, o_i2l, o_lcmp, o_if1, o_if2, o_dup, o_dup2, o_getf, o_puti, o_ald, o_iast, o_cast, o_lald, o_last, o_mmin, o_mabs, o_ret, o_vret, o_throw, o_lsw01, o_callS0, o_callS1, o_callS2, o_callS3, o_callS4, o_callS5, o_callV0, o_callV1, o_callV2, o_callV3, o_callV4, o_callV5, zcall_no, zok_nil, zok_ref, zok_int, zE, List.map_cons, List.map_nil, List.length_cons, List.length_nil, List.replicate_succ, List.replicate_zero, List.cons_append, List.nil_append, List.append_nil, List.getElem?_cons_zero, List.getElem?_cons_succ, List.set_cons_zero, List.set_cons_succ, Option.toList_some, Option.toList_none, vp_nar_int, znar_b, zb_0, ne_eq, Bool.not_eq_false, Classical.not_not, nI_1, sh1_def, true_and, and_true, Nat.reduceAdd, Nat.reduceSub, Nat.reduceLT, Nat.reduceLeDiff, Value.category, Nat.zero_add, Nat.add_zero]
            exact ⟨fun _ => hk2, fun hc => absurd (Int32.le_refl _) hc⟩
          | succ r ih =>
            intro i w hi
            have hct := nI_clamp (show i < 2 ^ 31 by omega)
            have ih' := ih (i + 1)
            obtain ⟨h1, h2, h3, h4, h5, k', h6, h7, h8⟩ := hin i
            have stp : gMs μ' n k t o (i + 1) = if gEdi (mAl μ') (mIm μ') n k t o (mSe (gMs μ' n k t o i).2 i) = mSe (gMs μ' n k t o i).2 i then gMs μ' n k t o i
              else ((gMs μ' n k t o i).1 + 1, gSets (if (gMs μ' n k t o i).1 = 0 then gBeg (gMs μ' n k t o i).2 else (gMs μ' n k t o i).2) i (gEdi (mAl μ') (mIm μ') n k t o (mSe (gMs μ' n k t o i).2 i))) := rfl
            rw [stp] at ih'
            rw [← h1, ← h2] at ih'
            have hR2 : mRu (gMs μ' n k t o i).2 n := ⟨h3.trans jn, hn24, by rw [h1]; exact jac⟩
            have hm' : (gMs μ' n k t o i).2.2.2.2.2.2.2.2.2.1 = nI m := h4.trans jm
            apply h49
            generalize gMs μ' n k t o i = S at *
            simp only [pM_0, pM_1, pM_2, pM_3, pM_4, pM_5, pM_6, pM_7, pM_8, pM_9, pM_10, pM_11, pM_12, pM_13, pM_14, bX6_mass_49, bX6_mass_101, hm', hct, o_iload, o_aload, o_ic, o_lc, o_istore, o_astore, o_iinc, o_bin, o_idiv, o_ineg, o_i2c, o_i2l, o_lcmp, o_if1, o_if2, o_dup, o_dup2, o_getf, o_puti, o_ald, o_iast, o_cast, o_lald, o_last, o_mmin, o_mabs, o_ret, o_vret, o_throw, o_lsw01, o_callS0, o_callS1, o_callS2, o_callS3, o_callS4, o_callS5, o_callV0, o_callV1, o_callV2, o_callV3, o_callV4, o_callV5, zcall_no, zok_nil, zok_ref, zok_int, zE, List.map_cons, List.map_nil, List.length_cons, List.length_nil, List.replicate_succ, List.replicate_zero, List.cons_append, List.nil_append, List.append_nil, List.getElem?_cons_zero, List.getElem?_cons_succ, List.set_cons_zero, List.set_cons_succ, Option.toList_some, Option.toList_none, vp_nar_int, znar_b, zb_0, ne_eq, Bool.not_eq_false, Classical.not_not, nI_1, sh1_def, true_and, and_true, Nat.reduceAdd, Nat.reduceSub, Nat.reduceLT, Nat.reduceLeDiff, Value.category, Nat.zero_add, Nat.add_zero]
            refine ⟨fun hc => absurd (nI_le_le (by omega) (by omega) hc) (by omega), fun _ => ⟨S.2, f, n, i, t, o, k, rfl, rfl, hR2, by omega, ht, ho, ?_⟩⟩
            simp only [pM_0, pM_1, pM_2, pM_3, pM_4, pM_5, pM_6, pM_7, pM_8, pM_9, pM_10, pM_11, pM_12, pM_13, pM_14, bX6_mass_49, bX6_mass_101, hm', hct, o_iload, o_aload, o_ic, o_lc, o_istore, o_astore, o_iinc, o_bin, o_idiv, o_ineg, o_i2c, o_i2l, o_lcmp, o_if1, o_if2, o_dup, o_dup2, o_getf, o_puti, o_ald, o_iast, o_cast, o_lald, o_last, o_mmin, o_mabs, o_ret, o_vret, o_throw, o_lsw01, o_callS0, o_callS1, o_callS2, o_callS3, o_callS4, o_callS5, o_callV0, o_callV1, o_callV2, o_callV3, o_callV4, o_callV5, zcall_no, zok_nil, zok_ref, zok_int, zE, List.map_cons, List.map_nil, List.length_cons, List.length_nil, List.replicate_succ, List.replicate_zero, List.cons_append, List.nil_append, List.append_nil, List.getElem?_cons_zero, List.getElem?_cons_succ, List.set_cons_zero, List.set_cons_succ, Option.toList_some, Option.toList_none, vp_nar_int, znar_b, zb_0, ne_eq, Bool.not_eq_false, Classical.not_not, nI_1, sh1_def, true_and, and_true, Nat.reduceAdd, Nat.reduceSub, Nat.reduceLT, Nat.reduceLeDiff, Value.category, Nat.zero_add, Nat.add_zero]
            refine ⟨vpin (by omega) (by omega), fun h9 => ?_, fun h9 => ⟨fun h10 => ?_, fun h10 => ?_⟩⟩
            · have := ih' (some (.int (gEdi (mAl S.2) (mIm S.2) n k t o (mSe S.2 i)))) (by omega)
              rw [if_pos h9] at this
              exact this
            · have := ih' (some (.int (gEdi (mAl S.2) (mIm S.2) n k t o (mSe S.2 i)))) (by omega)
              have h11 : ¬ S.1 = 0 := fun e => h10 (by rw [e]; rfl)
              rw [if_neg h9, if_neg h11] at this
              obtain ⟨k2, rfl⟩ : ∃ k2, k' = k2 + 1 := ⟨k' - 1, by have := h8 h11; omega⟩
              simp only [pM_0, pM_1, pM_2, pM_3, pM_4, pM_5, pM_6, pM_7, pM_8, pM_9, pM_10, pM_11, pM_12, pM_13, pM_14, bX6_mass_90, bX6_mass_101, o_iload, o_aload, o_ic, o_lc, o_istore, o_astore, o_iinc, o_bin, o_idiv, o_ineg, o_i2c, o_i2l, o_lcmp, o_if1, o_if2, o_dup, o_dup2, o_getf, o_puti, o_ald, o_iast, o_cast, o_lald, o_last, o_mmin, o_mabs, o_ret, o_vret, o_throw, o_lsw01, o_callS0, o_callS1, o_callS2, o_callS3, o_callS4, o_callS5, o_callV0, o_callV1, o_callV2, o_callV3, o_callV4, o_callV5, zcall_no, zok_nil, zok_ref, zok_int, zE, List.map_cons, List.map_nil, List.length_cons, List.length_nil, List.replicate_succ, List.replicate_zero, List.cons_append, List.nil_append, List.append_nil, List.getElem?_cons_zero, List.getElem?_cons_succ, List.set_cons_zero, List.set_cons_succ, Option.toList_some, Option.toList_none, vp_nar_int, znar_b, zb_0, ne_eq, Bool.not_eq_false, Classical.not_not, nI_1, sh1_def, true_and, and_true, Nat.reduceAdd, Nat.reduceSub, Nat.reduceLT, Nat.reduceLeDiff, Value.category, Nat.zero_add, Nat.add_zero]
              refine ⟨S.2, f, k2, i, _, rfl, rfl, h6, by omega, by omega, ?_⟩
              simp only [pM_0, pM_1, pM_2, pM_3, pM_4, pM_5, pM_6, pM_7, pM_8, pM_9, pM_10, pM_11, pM_12, pM_13, pM_14, bX6_mass_90, bX6_mass_101, o_iload, o_aload, o_ic, o_lc, o_istore, o_astore, o_iinc, o_bin, o_idiv, o_ineg, o_i2c, o_i2l, o_lcmp, o_if1, o_if2, o_dup, o_dup2, o_getf, o_puti, o_ald, o_iast, o_cast, o_lald, o_last, o_mmin, o_mabs, o_ret, o_vret, o_throw, o_lsw01, o_callS0, o_callS1, o_callS2, o_callS3, o_callS4, o_callS5, o_callV0, o_callV1, o_callV2, o_callV3, o_callV4, o_callV5, zcall_no, zok_nil, zok_ref, zok_int, zE, List.map_cons, List.map_nil, List.length_cons, List.length_nil, List.replicate_succ, List.replicate_zero, List.cons_append, List.nil_append, List.append_nil, List.getElem?_cons_zero, List.getElem?_cons_succ, List.set_cons_zero, List.set_cons_succ, Option.toList_some, Option.toList_none, vp_nar_int, znar_b, zb_0, ne_eq, Bool.not_eq_false, Classical.not_not, nI_1, sh1_def, true_and, and_true, Nat.reduceAdd, Nat.reduceSub, Nat.reduceLT, Nat.reduceLeDiff, Value.category, Nat.zero_add, Nat.add_zero]
              exact this
            · have := ih' (some (.int (gEdi (mAl S.2) (mIm S.2) n k t o (mSe S.2 i)))) (by omega)
              have h11 : S.1 = 0 := nI_ne (by omega) (by decide) h10
              rw [if_neg h9, if_pos h11] at this
              obtain ⟨g1, g2, g3, g4, g5, k2, g6, g7⟩ := gBeg_in S.2 h6 h7
              refine ⟨S.2, f, k', rfl, rfl, h6, h7, ?_⟩
              simp only [pM_0, pM_1, pM_2, pM_3, pM_4, pM_5, pM_6, pM_7, pM_8, pM_9, pM_10, pM_11, pM_12, pM_13, pM_14, bX6_mass_90, bX6_mass_101, o_iload, o_aload, o_ic, o_lc, o_istore, o_astore, o_iinc, o_bin, o_idiv, o_ineg, o_i2c, o_i2l, o_lcmp, o_if1, o_if2, o_dup, o_dup2, o_getf, o_puti, o_ald, o_iast, o_cast, o_lald, o_last, o_mmin, o_mabs, o_ret, o_vret, o_throw, o_lsw01, o_callS0, o_callS1, o_callS2, o_callS3, o_callS4, o_callS5, o_callV0, o_callV1, o_callV2, o_callV3, o_callV4, o_callV5, zcall_no, zok_nil, zok_ref, zok_int, zE, List.map_cons, List.map_nil, List.length_cons, List.length_nil, List.replicate_succ, List.replicate_zero, List.cons_append, List.nil_append, List.append_nil, List.getElem?_cons_zero, List.getElem?_cons_succ, List.set_cons_zero, List.set_cons_succ, Option.toList_some, Option.toList_none, vp_nar_int, znar_b, zb_0, ne_eq, Bool.not_eq_false, Classical.not_not, nI_1, sh1_def, true_and, and_true, Nat.reduceAdd, Nat.reduceSub, Nat.reduceLT, Nat.reduceLeDiff, Value.category, Nat.zero_add, Nat.add_zero]
              refine ⟨_, f, k2, i, _, rfl, rfl, g6, g7, by omega, ?_⟩
              simp only [pM_0, pM_1, pM_2, pM_3, pM_4, pM_5, pM_6, pM_7, pM_8, pM_9, pM_10, pM_11, pM_12, pM_13, pM_14, bX6_mass_90, bX6_mass_101, o_iload, o_aload, o_ic, o_lc, o_istore, o_astore, o_iinc, o_bin, o_idiv, o_ineg, o_i2c, o_i2l, o_lcmp, o_if1, o_if2, o_dup, o_dup2, o_getf, o_puti, o_ald, o_iast, o_cast, o_lald, o_last, o_mmin, o_mabs, o_ret, o_vret, o_throw, o_lsw01, o_callS0, o_callS1, o_callS2, o_callS3, o_callS4, o_callS5, o_callV0, o_callV1, o_callV2, o_callV3, o_callV4, o_callV5, zcall_no, zok_nil, zok_ref, zok_int, zE, List.map_cons, List.map_nil, List.length_cons, List.length_nil, List.replicate_succ, List.replicate_zero, List.cons_append, List.nil_append, List.append_nil, List.getElem?_cons_zero, List.getElem?_cons_succ, List.set_cons_zero, List.set_cons_succ, Option.toList_some, Option.toList_none, vp_nar_int, znar_b, zb_0, ne_eq, Bool.not_eq_false, Classical.not_not, nI_1, sh1_def, true_and, and_true, Nat.reduceAdd, Nat.reduceSub, Nat.reduceLT, Nat.reduceLeDiff, Value.category, Nat.zero_add, Nat.add_zero]
              exact this
        simp only [pM_0, pM_1, pM_2, pM_3, pM_4, pM_5, pM_6, pM_7, pM_8, pM_9, pM_10, pM_11, pM_12, pM_13, pM_14, bX6_mass_35, o_iload, o_aload, o_ic, o_lc, o_istore, o_astore, o_iinc, o_bin, o_idiv, o_ineg, o_i2c, o_i2l, o_lcmp, o_if1, o_if2, o_dup, o_dup2, o_getf, o_puti, o_ald, o_iast, o_cast, o_lald, o_last, o_mmin, o_mabs, o_ret, o_vret, o_throw, o_lsw01, o_callS0, o_callS1, o_callS2, o_callS3, o_callS4, o_callS5, o_callV0, o_callV1, o_callV2, o_callV3, o_callV4, o_callV5, zcall_no, zok_nil, zok_ref, zok_int, zE, List.map_cons, List.map_nil, List.length_cons, List.length_nil, List.replicate_succ, List.replicate_zero, List.cons_append, List.nil_append, List.append_nil, List.getElem?_cons_zero, List.getElem?_cons_succ, List.set_cons_zero, List.set_cons_succ, Option.toList_some, Option.toList_none, vp_nar_int, znar_b, zb_0, ne_eq, Bool.not_eq_false, Classical.not_not, nI_1, sh1_def, true_and, and_true, Nat.reduceAdd, Nat.reduceSub, Nat.reduceLT, Nat.reduceLeDiff, Value.category, Nat.zero_add, Nat.add_zero]
        refine ⟨μ, f, 0, rfl, rfl, ?_⟩
        rw [← hμ]
        simp only [pM_0, pM_1, pM_2, pM_3, pM_4, pM_5, pM_6, pM_7, pM_8, pM_9, pM_10, pM_11, pM_12, pM_13, pM_14, bX6_mass_35, o_iload, o_aload, o_ic, o_lc, o_istore, o_astore, o_iinc, o_bin, o_idiv, o_ineg, o_i2c, o_i2l, o_lcmp, o_if1, o_if2, o_dup, o_dup2, o_getf, o_puti, o_ald, o_iast, o_cast, o_lald, o_last, o_mmin, o_mabs, o_ret, o_vret, o_throw, o_lsw01, o_callS0, o_callS1, o_callS2, o_callS3, o_callS4, o_callS5, o_callV0, o_callV1, o_callV2, o_callV3, o_callV4, o_callV5, zcall_no, zok_nil, zok_ref, zok_int, zE, List.map_cons, List.map_nil, List.length_cons, List.length_nil, List.replicate_succ, List.replicate_zero, List.cons_append, List.nil_append, List.append_nil, List.getElem?_cons_zero, List.getElem?_cons_succ, List.set_cons_zero, List.set_cons_succ, Option.toList_some, Option.toList_none, vp_nar_int, znar_b, zb_0, ne_eq, Bool.not_eq_false, Classical.not_not, nI_1, sh1_def, true_and, and_true, Nat.reduceAdd, Nat.reduceSub, Nat.reduceLT, Nat.reduceLeDiff, Value.category, Nat.zero_add, Nat.add_zero]
        refine ⟨fun _ => ?_, fun h9 => absurd h9 (by decide)⟩
        exact loop m 0 _ (by omega)
    · rw [show fOk y (nI n) = false from hb2] at hk
      exact bad 1 (by decide) hk)
end M14
