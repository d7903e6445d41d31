section M18
variable {l : Launch} {z0 b N : Nat} {D : va_G} {cA : Nat → ClassId}
theorem fFar_le (al im : Nat → Int32) (n t : Nat) : ∀ k i (x : Int32), fFar al im n t k i x ≤ i + k
  | 0, i, _ => by unfold fFar; omega
  | k + 1, i, x => by
    unfold fFar
    split
    · omega
    · have := fFar_le al im n t k (i + 1) (x ||| fOn al im n x n)
      omega
set_option maxHeartbeats 1000000 in
set_option maxRecDepth 20000 in
theorem mX6_reason (hlt : l.stackTraces = false) : Sem l z0 b N D cA yX6_reason cX6_reason 7 (some .int) 5 112 3 zno tX6_reason := uX6_reason hlt (mX6_areThere hlt) (mX6_shownOf hlt) (mX6_has hlt) (mX6_endOf hlt) (mX6_far hlt) (fun M a h Kn Kx hok hN A h39 => by
  obtain ⟨μ, f, n, m, q, kk, d, x, y, rfl, rfl, hI, hk⟩ := hN
  have hI' := hI
  obtain ⟨⟨hn, hn24, hm, hm20, hq, hq40, hkp, hk20, hd, hd8, hch1, hch2, hln, hac, hrq⟩, hrk⟩ := hI'
  unfold gReason gH at hk
  simp only [pM_0, pM_1, pM_2, pM_3, pM_4, pM_5, pM_6, pM_7, pM_8, pM_9, pM_10, pM_11, pM_12, pM_13, pM_14, bX6_reason_0, bX6_reason_21, bX6_reason_33, o_iload, o_aload, o_ic, o_lc, o_istore, o_astore, o_iinc, o_bin, o_idiv, o_ineg, o_i2c, o_i2l, o_lcmp, o_if1, o_if2, o_dup, o_dup2, o_getf, o_puti, o_ald, o_iast, o_cast, o_lald, o_last, o_mmin, o_mabs, o_ret, o_vret, o_throw, o_lsw01, o_callS0, o_callS1, o_callS2, o_callS3, o_callS4, o_callS5, o_callV0, o_callV1, o_callV2, o_callV3, o_callV4, o_callV5, zcall_no, zok_nil, zok_ref, zok_int, zE, List.map_cons, List.map_nil, List.length_cons, List.length_nil, List.replicate_succ, List.replicate_zero, List.cons_append, List.nil_append, List.append_nil, List.getElem?_cons_zero, List.getElem?_cons_succ, List.set_cons_zero, List.set_cons_succ, Option.toList_some, Option.toList_none, vp_nar_int, znar_b, zb_0, ne_eq, Bool.not_eq_false, Classical.not_not, nI_1, sh1_def, true_and, and_true, Nat.reduceAdd, Nat.reduceSub, Nat.reduceLT, Nat.reduceLeDiff, Value.category, Nat.zero_add, Nat.add_zero]
  refine ⟨μ, f, n, m, q, kk, d, x, y, rfl, rfl, hI, ?_⟩
  simp only [pM_0, pM_1, pM_2, pM_3, pM_4, pM_5, pM_6, pM_7, pM_8, pM_9, pM_10, pM_11, pM_12, pM_13, pM_14, bX6_reason_0, bX6_reason_21, bX6_reason_33, o_iload, o_aload, o_ic, o_lc, o_istore, o_astore, o_iinc, o_bin, o_idiv, o_ineg, o_i2c, o_i2l, o_lcmp, o_if1, o_if2, o_dup, o_dup2, o_getf, o_puti, o_ald, o_iast, o_cast, o_lald, o_last, o_mmin, o_mabs, o_ret, o_vret, o_throw, o_lsw01, o_callS0, o_callS1, o_callS2, o_callS3, o_callS4, o_callS5, o_callV0, o_callV1, o_callV2, o_callV3, o_callV4, o_callV5, zcall_no, zok_nil, zok_ref, zok_int, zE, List.map_cons, List.map_nil, List.length_cons, List.length_nil, List.replicate_succ, List.replicate_zero, List.cons_append, List.nil_append, List.append_nil, List.getElem?_cons_zero, List.getElem?_cons_succ, List.set_cons_zero, List.set_cons_succ, Option.toList_some, Option.toList_none, vp_nar_int, znar_b, zb_0, ne_eq, Bool.not_eq_false, Classical.not_not, nI_1, sh1_def, true_and, and_true, Nat.reduceAdd, Nat.reduceSub, Nat.reduceLT, Nat.reduceLeDiff, Value.category, Nat.zero_add, Nat.add_zero]
  have e0 : gThe μ x y = (fOk x (nI m) && fOk y (nI n)) := by unfold gThe; rw [hm, hn]
  refine ⟨fun hb => ⟨fun h1 => ?_, fun h1 => ?_⟩, fun hb => ?_⟩
  · rw [hb] at hk ⊢
    exact hk
  · rw [hb] at h1
    exact absurd (show (1 : Int32) = 0 from h1) (by decide)
  · have hb' := hb
    rw [e0, Bool.and_eq_true] at hb'
    obtain ⟨i, hi, rfl⟩ := (fOk_n (by omega)).mp hb'.1
    obtain ⟨t, ht, rfl⟩ := (fOk_n (by omega)).mp hb'.2
    have hct := nI_clamp (show i < 2 ^ 31 by omega)
    rw [hb, if_pos (show gIs true = 0 from rfl)] at hk
    rw [hb]
    obtain ⟨μ', hμ⟩ : ∃ μ', μ' = vThr μ 0 := ⟨_, rfl⟩
    have e9 : vThr μ (gIs true) = μ' := by rw [hμ]; rfl
    rw [e9]
    have jI : mInw μ' n m q kk d := by rw [hμ]; exact hI
    have jR : mRu μ' n := by rw [hμ]; exact ⟨hn, hn24, hac⟩
    have jn : tn (mTg μ') = n := by rw [jI.1.1]; exact tn_nI (by omega)
    have jn' : μ'.2.2.2.1 = nI n := jI.1.1
    have j0 : μ'.1 = 0 := by rw [hμ]; rfl
    have hk2 : Kn (some (.int (if bt (gSh μ' (tn (mTg μ')) (tn (nI i))) (tn (nI t)) then gRe μ' (tn (mTg μ')) (tn (nI i)) (tn (nI t)) (tn (mTg μ')) else -1))) (pM μ' f) := by rw [hμ]; rw [hμ] at *; exact hk
    rw [jn, tn_nI (by omega), tn_nI (by omega)] at hk2
    refine ⟨μ', f, n, i, rfl, rfl, jR, by omega, ?_⟩
    simp only [pM_0, pM_1, pM_2, pM_3, pM_4, pM_5, pM_6, pM_7, pM_8, pM_9, pM_10, pM_11, pM_12, pM_13, pM_14, bX6_reason_0, bX6_reason_21, bX6_reason_33, o_iload, o_aload, o_ic, o_lc, o_istore, o_astore, o_iinc, o_bin, o_idiv, o_ineg, o_i2c, o_i2l, o_lcmp, o_if1, o_if2, o_dup, o_dup2, o_getf, o_puti, o_ald, o_iast, o_cast, o_lald, o_last, o_mmin, o_mabs, o_ret, o_vret, o_throw, o_lsw01, o_callS0, o_callS1, o_callS2, o_callS3, o_callS4, o_callS5, o_callV0, o_callV1, o_callV2, o_callV3, o_callV4, o_callV5, zcall_no, zok_nil, zok_ref, zok_int, zE, List.map_cons, List.map_nil, List.length_cons, List.length_nil, List.replicate_succ, List.replicate_zero, List.cons_append, List.nil_append, List.append_nil, List.getElem?_cons_zero, List.getElem?_cons_succ, List.set_cons_zero, List.set_cons_succ, Option.toList_some, Option.toList_none, vp_nar_int, znar_b, zb_0, ne_eq, Bool.not_eq_false, Classical.not_not, nI_1, sh1_def, true_and, and_true, Nat.reduceAdd, Nat.reduceSub, Nat.reduceLT, Nat.reduceLeDiff, Value.category, Nat.zero_add, Nat.add_zero]
    refine ⟨_, t, rfl, by omega, ?_⟩
    simp only [pM_0, pM_1, pM_2, pM_3, pM_4, pM_5, pM_6, pM_7, pM_8, pM_9, pM_10, pM_11, pM_12, pM_13, pM_14, bX6_reason_0, bX6_reason_21, bX6_reason_33, j0, o_iload, o_aload, o_ic, o_lc, o_istore, o_astore, o_iinc, o_bin, o_idiv, o_ineg, o_i2c, o_i2l, o_lcmp, o_if1, o_if2, o_dup, o_dup2, o_getf, o_puti, o_ald, o_iast, o_cast, o_lald, o_last, o_mmin, o_mabs, o_ret, o_vret, o_throw, o_lsw01, o_callS0, o_callS1, o_callS2, o_callS3, o_callS4, o_callS5, o_callV0, o_callV1, o_callV2, o_callV3, o_callV4, o_callV5, zcall_no, zok_nil, zok_ref, zok_int, zE, List.map_cons, List.map_nil, List.length_cons, List.length_nil, List.replicate_succ, List.replicate_zero, List.cons_append, List.nil_append, List.append_nil, List.getElem?_cons_zero, List.getElem?_cons_succ, List.set_cons_zero, List.set_cons_succ, Option.toList_some, Option.toList_none, vp_nar_int, znar_b, zb_0, ne_eq, Bool.not_eq_false, Classical.not_not, nI_1, sh1_def, true_and, and_true, Nat.reduceAdd, Nat.reduceSub, Nat.reduceLT, Nat.reduceLeDiff, Value.category, Nat.zero_add, Nat.add_zero]
    have loop : bt (gSh μ' n i) t = true → ∀ (r j : Nat) (w5 w6 : Option Value), j + r = n → A 39 [some (.ref 29), some (.int (nI i)), some (.int (nI t)), some (.int (gRe μ' n i t j)), some (.int (nI j)), w5, w6] [] (pM μ' f) := by
      intro hs r
      rw [if_pos hs] at hk2
      induction r with
      | zero =>
        intro j w5 w6 hj
        apply h39
        have hj9 : j = n := by omega
        rw [hj9]
        simp only [pM_0, pM_1, pM_2, pM_3, pM_4, pM_5, pM_6, pM_7, pM_8, pM_9, pM_10, pM_11, pM_12, pM_13, pM_14, bX6_reason_39, jn', o_iload, o_aload, o_ic, o_lc, o_istore, o_astore, o_iinc, o_bin, o_idiv, o_ineg, o_i2c, o_i2l, o_lcmp, o_if1, o_if2, o_dup, o_dup2, o_getf, o_puti, o_ald, o_iast, o_cast, o_lald, o_last, o_mmin, o_mabs, o_ret, o_vret, o_throw, o_lsw01, o_callS0, o_callS1, o_callS2, o_callS3, o_callS4, o_callS5, o_callV0, o_callV1, o_callV2, o_callV3, o_callV4, o_callV5, zcall_no, zok_nil, zok_ref, zok_int, zE, List.map_cons, List.map_nil, List.length_cons, List.length_nil, List.replicate_succ, List.replicate_zero, List.cons_append, List.nil_append, List.append_nil, List.getElem?_cons_zero, List.getElem?_cons_succ, List.set_cons_zero, List.set_cons_succ, Option.toList_some, Option.toList_none, vp_nar_int, znar_b, zb_0, ne_eq, Bool.not_eq_false, Classical.not_not, nI_1, sh1_def, true_and, and_true, Nat.reduceAdd, Nat.reduceSub, Nat.reduceLT, Nat.reduceLeDiff, Value.category, Nat.zero_add, Nat.add_zero]
        exact ⟨fun _ => hk2, fun hc => absurd (Int32.le_refl _) hc⟩
      | succ r ih =>
        intro j w5 w6 hj
        have ih' := ih (j + 1)
        obtain ⟨F, hF⟩ : ∃ F, F = fFar (mAl μ') (mIm μ') n t 25 0 (sh1 (fE (mAl μ') n n j)) := ⟨_, rfl⟩
        have hF25 : F ≤ 25 := by rw [hF]; exact fFar_le _ _ _ _ _ _ _
        have stp : gRe μ' n i t (j + 1) = if bt (mSe μ' i) j && (decide (F ≤ 24) && (decide (gRe μ' n i t j = -1) || decide (nI F < gRe μ' n i t j / 100))) then nI (100 * F + j) else gRe μ' n i t j := by rw [hF]; rfl
        generalize gRe μ' n i t j = B at *
        have no : ∀ (w5 : Option Value), gRe μ' n i t (j + 1) = B → bX6_reason_105 M Kn Kx (pM μ f) (A 39) [some (.ref 29), some (.int (nI i)), some (.int (nI t)), some (.int B), some (.int (nI j)), w5, w6] [] (pM μ' f) := fun w5 e => by
          have := ih' w5 (some (.int 0)) (by omega)
          rw [e] at this
          simp only [pM_0, pM_1, pM_2, pM_3, pM_4, pM_5, pM_6, pM_7, pM_8, pM_9, pM_10, pM_11, pM_12, pM_13, pM_14, bX6_reason_105, bX6_reason_106, bX6_reason_125, o_iload, o_aload, o_ic, o_lc, o_istore, o_astore, o_iinc, o_bin, o_idiv, o_ineg, o_i2c, o_i2l, o_lcmp, o_if1, o_if2, o_dup, o_dup2, o_getf, o_puti, o_ald, o_iast, o_cast, o_lald, o_last, o_mmin, o_mabs, o_ret, o_vret, o_throw, o_lsw01, o_callS0, o_callS1, o_callS2, o_callS3, o_callS4, o_callS5, o_callV0, o_callV1, o_callV2, o_callV3, o_callV4, o_callV5, zcall_no, zok_nil, zok_ref, zok_int, zE, List.map_cons, List.map_nil, List.length_cons, List.length_nil, List.replicate_succ, List.replicate_zero, List.cons_append, List.nil_append, List.append_nil, List.getElem?_cons_zero, List.getElem?_cons_succ, List.set_cons_zero, List.set_cons_succ, Option.toList_some, Option.toList_none, vp_nar_int, znar_b, zb_0, ne_eq, Bool.not_eq_false, Classical.not_not, nI_1, sh1_def, true_and, and_true, Nat.reduceAdd, Nat.reduceSub, Nat.reduceLT, Nat.reduceLeDiff, Value.category, Nat.zero_add, Nat.add_zero]
          exact ⟨fun _ => this, fun h9 => absurd h9 (by decide)⟩
        have yes : gRe μ' n i t (j + 1) = nI (100 * F + j) → bX6_reason_101 M Kn Kx (pM μ f) (A 39) [some (.ref 29), some (.int (nI i)), some (.int (nI t)), some (.int B), some (.int (nI j)), some (.int (nI F)), w6] [] (pM μ' f) := fun e => by
          have := ih' (some (.int (nI F))) (some (.int 1)) (by omega)
          rw [e] at this
          have em : (100 : Int32) * nI F + nI j = nI (100 * F + j) := by rw [show (100 : Int32) = nI 100 from rfl, pk_mul, nI_add]
          simp only [pM_0, pM_1, pM_2, pM_3, pM_4, pM_5, pM_6, pM_7, pM_8, pM_9, pM_10, pM_11, pM_12, pM_13, pM_14, bX6_reason_101, bX6_reason_106, bX6_reason_125, em, o_iload, o_aload, o_ic, o_lc, o_istore, o_astore, o_iinc, o_bin, o_idiv, o_ineg, o_i2c, o_i2l, o_lcmp, o_if1, o_if2, o_dup, o_dup2, o_getf, o_puti, o_ald, o_iast, o_cast, o_lald, o_last, o_mmin, o_mabs, o_ret, o_vret, o_throw, o_lsw01, o_callS0, o_callS1, o_callS2, o_callS3, o_callS4, o_callS5, o_callV0, o_callV1, o_callV2, o_callV3, o_callV4, o_callV5, zcall_no, zok_nil, zok_ref, zok_int, zE, List.map_cons, List.map_nil, List.length_cons, List.length_nil, List.replicate_succ, List.replicate_zero, List.cons_append, List.nil_append, List.append_nil, List.getElem?_cons_zero, List.getElem?_cons_succ, List.set_cons_zero, List.set_cons_succ, Option.toList_some, Option.toList_none, vp_nar_int, znar_b, zb_0, ne_eq, Bool.not_eq_false, Classical.not_not, nI_1, sh1_def, true_and, and_true, Nat.reduceAdd, Nat.reduceSub, Nat.reduceLT, Nat.reduceLeDiff, Value.category, Nat.zero_add, Nat.add_zero]
          exact ⟨fun h9 => absurd h9 (by decide), fun _ => this⟩
        have h24 : ∀ a : Nat, a ≤ 25 → ((24 : Int32) < nI a ↔ 24 < a) := fun a ha => by
          rw [show (24 : Int32) = nI 24 from rfl, ← Int32.not_le, nI_leI (by omega) (by omega)]; omega
        apply h39
        simp only [pM_0, pM_1, pM_2, pM_3, pM_4, pM_5, pM_6, pM_7, pM_8, pM_9, pM_10, pM_11, pM_12, pM_13, pM_14, bX6_reason_39, bX6_reason_78, jn', hct, o_iload, o_aload, o_ic, o_lc, o_istore, o_astore, o_iinc, o_bin, o_idiv, o_ineg, o_i2c, o_i2l, o_lcmp, o_if1, o_if2, o_dup, o_dup2, o_getf, o_puti, o_ald, o_iast, o_cast, o_lald, o_last, o_mmin, o_mabs, o_ret, o_vret, o_throw, o_lsw01, o_callS0, o_callS1, o_callS2, o_callS3, o_callS4, o_callS5, o_callV0, o_callV1, o_callV2, o_callV3, o_callV4, o_callV5, zcall_no, zok_nil, zok_ref, zok_int, zE, List.map_cons, List.map_nil, List.length_cons, List.length_nil, List.replicate_succ, List.replicate_zero, List.cons_append, List.nil_append, List.append_nil, List.getElem?_cons_zero, List.getElem?_cons_succ, List.set_cons_zero, List.set_cons_succ, Option.toList_some, Option.toList_none, vp_nar_int, znar_b, zb_0, ne_eq, Bool.not_eq_false, Classical.not_not, nI_1, sh1_def, true_and, and_true, Nat.reduceAdd, Nat.reduceSub, Nat.reduceLT, Nat.reduceLeDiff, Value.category, Nat.zero_add, Nat.add_zero]
        refine ⟨fun hc => absurd (nI_le_le (by omega) (by omega) hc) (by omega), fun _ => ⟨vpin (by omega) (by omega), _, j, rfl, by omega, ?_⟩⟩
        simp only [pM_0, pM_1, pM_2, pM_3, pM_4, pM_5, pM_6, pM_7, pM_8, pM_9, pM_10, pM_11, pM_12, pM_13, pM_14, bX6_reason_39, bX6_reason_78, jn', hct, o_iload, o_aload, o_ic, o_lc, o_istore, o_astore, o_iinc, o_bin, o_idiv, o_ineg, o_i2c, o_i2l, o_lcmp, o_if1, o_if2, o_dup, o_dup2, o_getf, o_puti, o_ald, o_iast, o_cast, o_lald, o_last, o_mmin, o_mabs, o_ret, o_vret, o_throw, o_lsw01, o_callS0, o_callS1, o_callS2, o_callS3, o_callS4, o_callS5, o_callV0, o_callV1, o_callV2, o_callV3, o_callV4, o_callV5, zcall_no, zok_nil, zok_ref, zok_int, zE, List.map_cons, List.map_nil, List.length_cons, List.length_nil, List.replicate_succ, List.replicate_zero, List.cons_append, List.nil_append, List.append_nil, List.getElem?_cons_zero, List.getElem?_cons_succ, List.set_cons_zero, List.set_cons_succ, Option.toList_some, Option.toList_none, vp_nar_int, znar_b, zb_0, ne_eq, Bool.not_eq_false, Classical.not_not, nI_1, sh1_def, true_and, and_true, Nat.reduceAdd, Nat.reduceSub, Nat.reduceLT, Nat.reduceLeDiff, Value.category, Nat.zero_add, Nat.add_zero]
        refine ⟨fun h1 => ⟨fun _ => no _ ?_, fun h9 => absurd (by decide : (24 : Int32) < 25) h9⟩, fun h1 => ⟨μ', f, n, j, rfl, rfl, jR, by omega, ?_⟩⟩
        · rw [stp, show bt (mSe μ' i) j = false from h1, Bool.false_and, if_neg (by decide)]
        · rw [show bt (mSe μ' i) j = true from h1, Bool.true_and] at stp
          have hlt := fE_lt (al := mAl μ') (n := n) (by omega) n j (by omega)
          simp only [pM_0, pM_1, pM_2, pM_3, pM_4, pM_5, pM_6, pM_7, pM_8, pM_9, pM_10, pM_11, pM_12, pM_13, pM_14, bX6_reason_39, bX6_reason_78, jn', hct, o_iload, o_aload, o_ic, o_lc, o_istore, o_astore, o_iinc, o_bin, o_idiv, o_ineg, o_i2c, o_i2l, o_lcmp, o_if1, o_if2, o_dup, o_dup2, o_getf, o_puti, o_ald, o_iast, o_cast, o_lald, o_last, o_mmin, o_mabs, o_ret, o_vret, o_throw, o_lsw01, o_callS0, o_callS1, o_callS2, o_callS3, o_callS4, o_callS5, o_callV0, o_callV1, o_callV2, o_callV3, o_callV4, o_callV5, zcall_no, zok_nil, zok_ref, zok_int, zE, List.map_cons, List.map_nil, List.length_cons, List.length_nil, List.replicate_succ, List.replicate_zero, List.cons_append, List.nil_append, List.append_nil, List.getElem?_cons_zero, List.getElem?_cons_succ, List.set_cons_zero, List.set_cons_succ, Option.toList_some, Option.toList_none, vp_nar_int, znar_b, zb_0, ne_eq, Bool.not_eq_false, Classical.not_not, nI_1, sh1_def, true_and, and_true, Nat.reduceAdd, Nat.reduceSub, Nat.reduceLT, Nat.reduceLeDiff, Value.category, Nat.zero_add, Nat.add_zero]
          refine ⟨μ', f, n, _, t, rfl, rfl, jR, hlt, ht, ?_⟩
          rw [← hF]
          simp only [pM_0, pM_1, pM_2, pM_3, pM_4, pM_5, pM_6, pM_7, pM_8, pM_9, pM_10, pM_11, pM_12, pM_13, pM_14, bX6_reason_39, bX6_reason_78, jn', hct, o_iload, o_aload, o_ic, o_lc, o_istore, o_astore, o_iinc, o_bin, o_idiv, o_ineg, o_i2c, o_i2l, o_lcmp, o_if1, o_if2, o_dup, o_dup2, o_getf, o_puti, o_ald, o_iast, o_cast, o_lald, o_last, o_mmin, o_mabs, o_ret, o_vret, o_throw, o_lsw01, o_callS0, o_callS1, o_callS2, o_callS3, o_callS4, o_callS5, o_callV0, o_callV1, o_callV2, o_callV3, o_callV4, o_callV5, zcall_no, zok_nil, zok_ref, zok_int, zE, List.map_cons, List.map_nil, List.length_cons, List.length_nil, List.replicate_succ, List.replicate_zero, List.cons_append, List.nil_append, List.append_nil, List.getElem?_cons_zero, List.getElem?_cons_succ, List.set_cons_zero, List.set_cons_succ, Option.toList_some, Option.toList_none, vp_nar_int, znar_b, zb_0, ne_eq, Bool.not_eq_false, Classical.not_not, nI_1, sh1_def, true_and, and_true, Nat.reduceAdd, Nat.reduceSub, Nat.reduceLT, Nat.reduceLeDiff, Value.category, Nat.zero_add, Nat.add_zero]
          rw [h24 F hF25]
          refine ⟨fun h2 => no _ ?_, fun h2 => ⟨fun h3 => yes ?_, fun h3 => ⟨by decide, fun h4 => no _ ?_, fun h4 => yes ?_⟩⟩⟩
          · rw [stp, decide_eq_false (show ¬ F ≤ 24 by omega), Bool.false_and, if_neg (by decide)]
          · rw [stp, decide_eq_true (show F ≤ 24 by omega), decide_eq_true h3]; rfl
          · rw [stp, decide_eq_true (show F ≤ 24 by omega), decide_eq_false h3, decide_eq_false (Int32.not_lt.mpr h4)]; rfl
          · rw [stp, decide_eq_true (show F ≤ 24 by omega), decide_eq_false h3, decide_eq_true (Int32.not_le.mp h4)]; rfl
    refine ⟨fun h1 => loop h1 n 0 _ _ (by omega), fun h1 => ?_⟩
    rw [if_neg (by rw [show bt (gSh μ' n i) t = false from h1]; decide)] at hk2
    first
      | exact hk2
      | exact ⟨fun h9 => absurd rfl h9, fun _ => hk2⟩
      | exact ⟨fun h9 => absurd trivial h9, fun _ => hk2⟩)
end M18
