section M16
variable {l : Launch} {z0 b N : Nat} {D : va_G} {cA : Nat → ClassId}
set_option maxHeartbeats 1000000 in
set_option maxRecDepth 20000 in
theorem mX6_type (hlt : l.stackTraces = false) : Sem l z0 b N D cA yX6_type cX6_type 2 (some .int) 2 40 2 zno tX6_type := uX6_type hlt (mX6_isSign hlt) (mX6_holds hlt) (fun M a h Kn Kx hok hN => by
  obtain ⟨μ, f, n, m, q, kk, d, x, rfl, rfl, hI, hcx, hk⟩ := hN
  have hI' := hI
  obtain ⟨⟨hn, hn24, hm, hm20, hq, hq40, hkp, hk20, hd, hd8, hch1, hch2, hln, hac, hrq⟩, hrk⟩ := hI'
  have hd' : μ.2.2.1 = nI d := hd
  unfold gType gH at hk
  rw [hd] at hk
  have bad : ∀ (c : Int32), ¬ c = 0 → Kn (some (.int 0)) (pM (vThr μ c) f) → bX6_type_26 M Kn Kx (pM μ f) [some (.ref 29), some (.int x)] [.int c, .ref 29] (pM μ f) := by
    intro c hc hk
    simp only [pM_0, pM_1, pM_2, pM_3, pM_4, pM_5, pM_6, pM_7, pM_8, pM_9, pM_10, pM_11, pM_12, pM_13, pM_14, bX6_type_26, o_iload, o_aload, o_ic, o_lc, o_istore, o_astore, o_iinc, o_bin, o_idiv, o_ineg, o_i2c, o_i2l, o_lcmp, o_if1, o_if2, o_dup, o_dup2, o_getf, o_puti, o_ald, o_iast, o_cast, o_lald, o_last, o_mmin, o_mabs, o_ret, o_vret, o_throw, o_lsw01, o_callS0, o_callS1, o_callS2, o_callS3, o_callS4, o_callS5, o_callV0, o_callV1, o_callV2, o_callV3, o_callV4, o_callV5, zcall_no, zok_nil, zok_ref, zok_int, zE, List.map_cons, List.map_nil, List.length_cons, List.length_nil, List.replicate_succ, List.replicate_zero, List.cons_append, List.nil_append, List.append_nil, List.getElem?_cons_zero, List.getElem?_cons_succ, List.set_cons_zero, List.set_cons_succ, Option.toList_some, Option.toList_none, vp_nar_int, znar_b, zb_0, ne_eq, Bool.not_eq_false, Classical.not_not, nI_1, sh1_def, true_and, and_true, Nat.reduceAdd, Nat.reduceSub, Nat.reduceLT, Nat.reduceLeDiff, Value.category, Nat.zero_add, Nat.add_zero]
    refine ⟨μ, f, c, rfl, rfl, ?_⟩
    simp only [pM_0, pM_1, pM_2, pM_3, pM_4, pM_5, pM_6, pM_7, pM_8, pM_9, pM_10, pM_11, pM_12, pM_13, pM_14, bX6_type_26, o_iload, o_aload, o_ic, o_lc, o_istore, o_astore, o_iinc, o_bin, o_idiv, o_ineg, o_i2c, o_i2l, o_lcmp, o_if1, o_if2, o_dup, o_dup2, o_getf, o_puti, o_ald, o_iast, o_cast, o_lald, o_last, o_mmin, o_mabs, o_ret, o_vret, o_throw, o_lsw01, o_callS0, o_callS1, o_callS2, o_callS3, o_callS4, o_callS5, o_callV0, o_callV1, o_callV2, o_callV3, o_callV4, o_callV5, zcall_no, zok_nil, zok_ref, zok_int, zE, List.map_cons, List.map_nil, List.length_cons, List.length_nil, List.replicate_succ, List.replicate_zero, List.cons_append, List.nil_append, List.append_nil, List.getElem?_cons_zero, List.getElem?_cons_succ, List.set_cons_zero, List.set_cons_succ, Option.toList_some, Option.toList_none, vp_nar_int, znar_b, zb_0, ne_eq, Bool.not_eq_false, Classical.not_not, nI_1, sh1_def, true_and, and_true, Nat.reduceAdd, Nat.reduceSub, Nat.reduceLT, Nat.reduceLeDiff, Value.category, Nat.zero_add, Nat.add_zero]
    exact ⟨fun h9 => absurd (of_decide_eq_true h9) hc, fun _ => hk⟩
  simp only [pM_0, pM_1, pM_2, pM_3, pM_4, pM_5, pM_6, pM_7, pM_8, pM_9, pM_10, pM_11, pM_12, pM_13, pM_14, bX6_type_0, o_iload, o_aload, o_ic, o_lc, o_istore, o_astore, o_iinc, o_bin, o_idiv, o_ineg, o_i2c, o_i2l, o_lcmp, o_if1, o_if2, o_dup, o_dup2, o_getf, o_puti, o_ald, o_iast, o_cast, o_lald, o_last, o_mmin, o_mabs, o_ret, o_vret, o_throw, o_lsw01, o_callS0, o_callS1, o_callS2, o_callS3, o_callS4, o_callS5, o_callV0, o_callV1, o_callV2, o_callV3, o_callV4, o_callV5, zcall_no, zok_nil, zok_ref, zok_int, zE, List.map_cons, List.map_nil, List.length_cons, List.length_nil, List.replicate_succ, List.replicate_zero, List.cons_append, List.nil_append, List.append_nil, List.getElem?_cons_zero, List.getElem?_cons_succ, List.set_cons_zero, List.set_cons_succ, Option.toList_some, Option.toList_none, vp_nar_int, znar_b, zb_0, ne_eq, Bool.not_eq_false, Classical.not_not, nI_1, sh1_def, true_and, and_true, Nat.reduceAdd, Nat.reduceSub, Nat.reduceLT, Nat.reduceLeDiff, Value.category, Nat.zero_add, Nat.add_zero]
  refine ⟨x, rfl, hcx, ?_⟩
  simp only [pM_0, pM_1, pM_2, pM_3, pM_4, pM_5, pM_6, pM_7, pM_8, pM_9, pM_10, pM_11, pM_12, pM_13, pM_14, bX6_type_0, hd', o_iload, o_aload, o_ic, o_lc, o_istore, o_astore, o_iinc, o_bin, o_idiv, o_ineg, o_i2c, o_i2l, o_lcmp, o_if1, o_if2, o_dup, o_dup2, o_getf, o_puti, o_ald, o_iast, o_cast, o_lald, o_last, o_mmin, o_mabs, o_ret, o_vret, o_throw, o_lsw01, o_callS0, o_callS1, o_callS2, o_callS3, o_callS4, o_callS5, o_callV0, o_callV1, o_callV2, o_callV3, o_callV4, o_callV5, zcall_no, zok_nil, zok_ref, zok_int, zE, List.map_cons, List.map_nil, List.length_cons, List.length_nil, List.replicate_succ, List.replicate_zero, List.cons_append, List.nil_append, List.append_nil, List.getElem?_cons_zero, List.getElem?_cons_succ, List.set_cons_zero, List.set_cons_succ, Option.toList_some, Option.toList_none, vp_nar_int, znar_b, zb_0, ne_eq, Bool.not_eq_false, Classical.not_not, nI_1, sh1_def, true_and, and_true, Nat.reduceAdd, Nat.reduceSub, Nat.reduceLT, Nat.reduceLeDiff, Value.category, Nat.zero_add, Nat.add_zero]
  refine ⟨fun h1 => ⟨fun h2 => ?_, fun h2 => ?_⟩, fun h1 => ?_⟩
  · rw [h1, if_pos rfl, if_neg h2, if_pos rfl] at hk
    have hd9 : d < 8 := by
      rcases Nat.lt_or_ge d 8 with q9 | q9
      · exact q9
      · exact absurd (by rw [show d = 8 by omega]; rfl) h2
    have hcd := nI_clamp (show d < 2 ^ 31 by omega)
    have hk2 : Kn (some (.int (mDl μ + 1))) (pM (vDr (vThr μ 0) (upd (mDr μ) (tn (mDl μ)) x) (mDl μ + 1)) f) := hk
    rw [hd, tn_nI (by omega), nI_1] at hk2
    simp only [pM_0, pM_1, pM_2, pM_3, pM_4, pM_5, pM_6, pM_7, pM_8, pM_9, pM_10, pM_11, pM_12, pM_13, pM_14, bX6_type_26, o_iload, o_aload, o_ic, o_lc, o_istore, o_astore, o_iinc, o_bin, o_idiv, o_ineg, o_i2c, o_i2l, o_lcmp, o_if1, o_if2, o_dup, o_dup2, o_getf, o_puti, o_ald, o_iast, o_cast, o_lald, o_last, o_mmin, o_mabs, o_ret, o_vret, o_throw, o_lsw01, o_callS0, o_callS1, o_callS2, o_callS3, o_callS4, o_callS5, o_callV0, o_callV1, o_callV2, o_callV3, o_callV4, o_callV5, zcall_no, zok_nil, zok_ref, zok_int, zE, List.map_cons, List.map_nil, List.length_cons, List.length_nil, List.replicate_succ, List.replicate_zero, List.cons_append, List.nil_append, List.append_nil, List.getElem?_cons_zero, List.getElem?_cons_succ, List.set_cons_zero, List.set_cons_succ, Option.toList_some, Option.toList_none, vp_nar_int, znar_b, zb_0, ne_eq, Bool.not_eq_false, Classical.not_not, nI_1, sh1_def, true_and, and_true, Nat.reduceAdd, Nat.reduceSub, Nat.reduceLT, Nat.reduceLeDiff, Value.category, Nat.zero_add, Nat.add_zero]
    refine ⟨μ, f, 0, rfl, rfl, ?_⟩
    simp only [pM_0, pM_1, pM_2, pM_3, pM_4, pM_5, pM_6, pM_7, pM_8, pM_9, pM_10, pM_11, pM_12, pM_13, pM_14, bX6_type_26, vThr, hd', pM_s1, pM_s2, hcd, isCh_nar hcx, o_iload, o_aload, o_ic, o_lc, o_istore, o_astore, o_iinc, o_bin, o_idiv, o_ineg, o_i2c, o_i2l, o_lcmp, o_if1, o_if2, o_dup, o_dup2, o_getf, o_puti, o_ald, o_iast, o_cast, o_lald, o_last, o_mmin, o_mabs, o_ret, o_vret, o_throw, o_lsw01, o_callS0, o_callS1, o_callS2, o_callS3, o_callS4, o_callS5, o_callV0, o_callV1, o_callV2, o_callV3, o_callV4, o_callV5, zcall_no, zok_nil, zok_ref, zok_int, zE, List.map_cons, List.map_nil, List.length_cons, List.length_nil, List.replicate_succ, List.replicate_zero, List.cons_append, List.nil_append, List.append_nil, List.getElem?_cons_zero, List.getElem?_cons_succ, List.set_cons_zero, List.set_cons_succ, Option.toList_some, Option.toList_none, vp_nar_int, znar_b, zb_0, ne_eq, Bool.not_eq_false, Classical.not_not, nI_1, sh1_def, true_and, and_true, Nat.reduceAdd, Nat.reduceSub, Nat.reduceLT, Nat.reduceLeDiff, Value.category, Nat.zero_add, Nat.add_zero]
    exact ⟨fun _ => ⟨vpin (by omega) (by omega), hk2⟩, fun h9 => absurd h9 (by decide)⟩
  · rw [h1, if_pos rfl, if_pos h2] at hk
    exact bad 2 (by decide) hk
  · rw [h1] at hk
    exact bad 1 (by decide) hk)
set_option maxHeartbeats 1000000 in
set_option maxRecDepth 20000 in
theorem mX6_letter (hlt : l.stackTraces = false) : Sem l z0 b N D cA yX6_letter cX6_letter 3 (some .char) 2 43 3 zno tX6_letter := uX6_letter hlt (mX6_isTag hlt) (mX6_in hlt) (mX6_holds hlt) (fun M a h Kn Kx hok hN => by
  obtain ⟨μ, f, n, m, q, kk, d, x, y, rfl, rfl, hI, hk⟩ := hN
  have hI' := hI
  obtain ⟨⟨hn, hn24, hm, hm20, hq, hq40, hkp, hk20, hd, hd8, hch1, hch2, hln, hac, hrq⟩, hrk⟩ := hI'
  unfold gLetter at hk
  rw [hn] at hk
  have bad : Kn (some (.int 32)) (pM (vThr μ 1) f) → bX6_letter_30 M Kn Kx (pM μ f) [some (.ref 29), some (.int x), some (.int y)] [.int 1, .ref 29] (pM μ f) := by
    intro hk
    simp only [pM_0, pM_1, pM_2, pM_3, pM_4, pM_5, pM_6, pM_7, pM_8, pM_9, pM_10, pM_11, pM_12, pM_13, pM_14, bX6_letter_30, bX6_letter_52, o_iload, o_aload, o_ic, o_lc, o_istore, o_astore, o_iinc, o_bin, o_idiv, o_ineg, o_i2c, o_i2l, o_lcmp, o_if1, o_if2, o_dup, o_dup2, o_getf, o_puti, o_ald, o_iast, o_cast, o_lald, o_last, o_mmin, o_mabs, o_ret, o_vret, o_throw, o_lsw01, o_callS0, o_callS1, o_callS2, o_callS3, o_callS4, o_callS5, o_callV0, o_callV1, o_callV2, o_callV3, o_callV4, o_callV5, zcall_no, zok_nil, zok_ref, zok_int, zE, List.map_cons, List.map_nil, List.length_cons, List.length_nil, List.replicate_succ, List.replicate_zero, List.cons_append, List.nil_append, List.append_nil, List.getElem?_cons_zero, List.getElem?_cons_succ, List.set_cons_zero, List.set_cons_succ, Option.toList_some, Option.toList_none, vp_nar_int, znar_b, zb_0, ne_eq, Bool.not_eq_false, Classical.not_not, nI_1, sh1_def, true_and, and_true, Nat.reduceAdd, Nat.reduceSub, Nat.reduceLT, Nat.reduceLeDiff, Value.category, Nat.zero_add, Nat.add_zero]
    refine ⟨μ, f, 1, rfl, rfl, ?_⟩
    simp only [pM_0, pM_1, pM_2, pM_3, pM_4, pM_5, pM_6, pM_7, pM_8, pM_9, pM_10, pM_11, pM_12, pM_13, pM_14, bX6_letter_30, bX6_letter_52, o_iload, o_aload, o_ic, o_lc, o_istore, o_astore, o_iinc, o_bin, o_idiv, o_ineg, o_i2c, o_i2l, o_lcmp, o_if1, o_if2, o_dup, o_dup2, o_getf, o_puti, o_ald, o_iast, o_cast, o_lald, o_last, o_mmin, o_mabs, o_ret, o_vret, o_throw, o_lsw01, o_callS0, o_callS1, o_callS2, o_callS3, o_callS4, o_callS5, o_callV0, o_callV1, o_callV2, o_callV3, o_callV4, o_callV5, zcall_no, zok_nil, zok_ref, zok_int, zE, List.map_cons, List.map_nil, List.length_cons, List.length_nil, List.replicate_succ, List.replicate_zero, List.cons_append, List.nil_append, List.append_nil, List.getElem?_cons_zero, List.getElem?_cons_succ, List.set_cons_zero, List.set_cons_succ, Option.toList_some, Option.toList_none, vp_nar_int, znar_b, zb_0, ne_eq, Bool.not_eq_false, Classical.not_not, nI_1, sh1_def, true_and, and_true, Nat.reduceAdd, Nat.reduceSub, Nat.reduceLT, Nat.reduceLeDiff, Value.category, Nat.zero_add, Nat.add_zero]
    exact ⟨fun _ => ⟨rfl, hk⟩, fun h9 => absurd h9 (by decide)⟩
  simp only [pM_0, pM_1, pM_2, pM_3, pM_4, pM_5, pM_6, pM_7, pM_8, pM_9, pM_10, pM_11, pM_12, pM_13, pM_14, bX6_letter_0, bX6_letter_29, o_iload, o_aload, o_ic, o_lc, o_istore, o_astore, o_iinc, o_bin, o_idiv, o_ineg, o_i2c, o_i2l, o_lcmp, o_if1, o_if2, o_dup, o_dup2, o_getf, o_puti, o_ald, o_iast, o_cast, o_lald, o_last, o_mmin, o_mabs, o_ret, o_vret, o_throw, o_lsw01, o_callS0, o_callS1, o_callS2, o_callS3, o_callS4, o_callS5, o_callV0, o_callV1, o_callV2, o_callV3, o_callV4, o_callV5, zcall_no, zok_nil, zok_ref, zok_int, zE, List.map_cons, List.map_nil, List.length_cons, List.length_nil, List.replicate_succ, List.replicate_zero, List.cons_append, List.nil_append, List.append_nil, List.getElem?_cons_zero, List.getElem?_cons_succ, List.set_cons_zero, List.set_cons_succ, Option.toList_some, Option.toList_none, vp_nar_int, znar_b, zb_0, ne_eq, Bool.not_eq_false, Classical.not_not, nI_1, sh1_def, true_and, and_true, Nat.reduceAdd, Nat.reduceSub, Nat.reduceLT, Nat.reduceLeDiff, Value.category, Nat.zero_add, Nat.add_zero]
  refine ⟨μ, f, n, x, rfl, rfl, hn, hn24, ?_⟩
  simp only [pM_0, pM_1, pM_2, pM_3, pM_4, pM_5, pM_6, pM_7, pM_8, pM_9, pM_10, pM_11, pM_12, pM_13, pM_14, bX6_letter_0, bX6_letter_29, o_iload, o_aload, o_ic, o_lc, o_istore, o_astore, o_iinc, o_bin, o_idiv, o_ineg, o_i2c, o_i2l, o_lcmp, o_if1, o_if2, o_dup, o_dup2, o_getf, o_puti, o_ald, o_iast, o_cast, o_lald, o_last, o_mmin, o_mabs, o_ret, o_vret, o_throw, o_lsw01, o_callS0, o_callS1, o_callS2, o_callS3, o_callS4, o_callS5, o_callV0, o_callV1, o_callV2, o_callV3, o_callV4, o_callV5, zcall_no, zok_nil, zok_ref, zok_int, zE, List.map_cons, List.map_nil, List.length_cons, List.length_nil, List.replicate_succ, List.replicate_zero, List.cons_append, List.nil_append, List.append_nil, List.getElem?_cons_zero, List.getElem?_cons_succ, List.set_cons_zero, List.set_cons_succ, Option.toList_some, Option.toList_none, vp_nar_int, znar_b, zb_0, ne_eq, Bool.not_eq_false, Classical.not_not, nI_1, sh1_def, true_and, and_true, Nat.reduceAdd, Nat.reduceSub, Nat.reduceLT, Nat.reduceLeDiff, Value.category, Nat.zero_add, Nat.add_zero]
  refine ⟨fun hb => ?_, fun hb => ?_⟩
  · rw [show fOk x (nI n) = false from hb, Bool.false_and] at hk
    exact bad hk
  · rw [show fOk x (nI n) = true from hb, Bool.true_and] at hk
    obtain ⟨i, hi, rfl⟩ := (fOk_n (by omega)).mp (show fOk x (nI n) = true from hb)
    have hct := nI_clamp (show i < 2 ^ 31 by omega)
    rw [tn_nI (by omega)] at hk
    obtain ⟨e, he8, he⟩ := hln i hi
    have he' : μ.2.2.2.2.2.1 i = nI e := he
    rw [he] at hk
    rw [hct]
    refine ⟨vpin (by omega) (by omega), y, 0, nI e - 1, by rw [he'], ?_⟩
    simp only [pM_0, pM_1, pM_2, pM_3, pM_4, pM_5, pM_6, pM_7, pM_8, pM_9, pM_10, pM_11, pM_12, pM_13, pM_14, bX6_letter_0, bX6_letter_29, o_iload, o_aload, o_ic, o_lc, o_istore, o_astore, o_iinc, o_bin, o_idiv, o_ineg, o_i2c, o_i2l, o_lcmp, o_if1, o_if2, o_dup, o_dup2, o_getf, o_puti, o_ald, o_iast, o_cast, o_lald, o_last, o_mmin, o_mabs, o_ret, o_vret, o_throw, o_lsw01, o_callS0, o_callS1, o_callS2, o_callS3, o_callS4, o_callS5, o_callV0, o_callV1, o_callV2, o_callV3, o_callV4, o_callV5, zcall_no, zok_nil, zok_ref, zok_int, zE, List.map_cons, List.map_nil, List.length_cons, List.length_nil, List.replicate_succ, List.replicate_zero, List.cons_append, List.nil_append, List.append_nil, List.getElem?_cons_zero, List.getElem?_cons_succ, List.set_cons_zero, List.set_cons_succ, Option.toList_some, Option.toList_none, vp_nar_int, znar_b, zb_0, ne_eq, Bool.not_eq_false, Classical.not_not, nI_1, sh1_def, true_and, and_true, Nat.reduceAdd, Nat.reduceSub, Nat.reduceLT, Nat.reduceLeDiff, Value.category, Nat.zero_add, Nat.add_zero]
    rw [fIn_n (by omega)]
    refine ⟨fun hb2 => ?_, fun hb2 => ?_⟩
    · rw [hb2] at hk
      exact bad hk
    · rw [hb2, if_pos rfl] at hk
      obtain ⟨j, hj, rfl⟩ := (fOk_n (by omega)).mp hb2
      rw [tn_nI (by omega)] at hk
      have hcb := nI_clamp (show 8 * i + j < 2 ^ 31 by omega)
      have hm8 : (8 : Int32) * nI i + nI j = nI (8 * i + j) := by rw [Int32.mul_comm, nI_mul8, Nat.mul_comm]
      simp only [pM_0, pM_1, pM_2, pM_3, pM_4, pM_5, pM_6, pM_7, pM_8, pM_9, pM_10, pM_11, pM_12, pM_13, pM_14, bX6_letter_30, bX6_letter_52, o_iload, o_aload, o_ic, o_lc, o_istore, o_astore, o_iinc, o_bin, o_idiv, o_ineg, o_i2c, o_i2l, o_lcmp, o_if1, o_if2, o_dup, o_dup2, o_getf, o_puti, o_ald, o_iast, o_cast, o_lald, o_last, o_mmin, o_mabs, o_ret, o_vret, o_throw, o_lsw01, o_callS0, o_callS1, o_callS2, o_callS3, o_callS4, o_callS5, o_callV0, o_callV1, o_callV2, o_callV3, o_callV4, o_callV5, zcall_no, zok_nil, zok_ref, zok_int, zE, List.map_cons, List.map_nil, List.length_cons, List.length_nil, List.replicate_succ, List.replicate_zero, List.cons_append, List.nil_append, List.append_nil, List.getElem?_cons_zero, List.getElem?_cons_succ, List.set_cons_zero, List.set_cons_succ, Option.toList_some, Option.toList_none, vp_nar_int, znar_b, zb_0, ne_eq, Bool.not_eq_false, Classical.not_not, nI_1, sh1_def, true_and, and_true, Nat.reduceAdd, Nat.reduceSub, Nat.reduceLT, Nat.reduceLeDiff, Value.category, Nat.zero_add, Nat.add_zero]
      refine ⟨μ, f, 0, rfl, rfl, ?_⟩
      simp only [pM_0, pM_1, pM_2, pM_3, pM_4, pM_5, pM_6, pM_7, pM_8, pM_9, pM_10, pM_11, pM_12, pM_13, pM_14, bX6_letter_30, bX6_letter_52, hm8, hcb, o_iload, o_aload, o_ic, o_lc, o_istore, o_astore, o_iinc, o_bin, o_idiv, o_ineg, o_i2c, o_i2l, o_lcmp, o_if1, o_if2, o_dup, o_dup2, o_getf, o_puti, o_ald, o_iast, o_cast, o_lald, o_last, o_mmin, o_mabs, o_ret, o_vret, o_throw, o_lsw01, o_callS0, o_callS1, o_callS2, o_callS3, o_callS4, o_callS5, o_callV0, o_callV1, o_callV2, o_callV3, o_callV4, o_callV5, zcall_no, zok_nil, zok_ref, zok_int, zE, List.map_cons, List.map_nil, List.length_cons, List.length_nil, List.replicate_succ, List.replicate_zero, List.cons_append, List.nil_append, List.append_nil, List.getElem?_cons_zero, List.getElem?_cons_succ, List.set_cons_zero, List.set_cons_succ, Option.toList_some, Option.toList_none, vp_nar_int, znar_b, zb_0, ne_eq, Bool.not_eq_false, Classical.not_not, nI_1, sh1_def, true_and, and_true, Nat.reduceAdd, Nat.reduceSub, Nat.reduceLT, Nat.reduceLeDiff, Value.category, Nat.zero_add, Nat.add_zero]
      exact ⟨fun h9 => absurd h9 (by decide), fun _ => ⟨vpin (by omega) (by omega), hch1 _, hk⟩⟩)
set_option maxHeartbeats 1000000 in
set_option maxRecDepth 20000 in
theorem mX6_isDraft (hlt : l.stackTraces = false) : Sem l z0 b N D cA yX6_isDraft cX6_isDraft 4 (some .boolean) 1 20 2 zno tX6_isDraft := uX6_isDraft hlt (mX6_plain hlt) (fun M a h Kn Kx hok hN A h21 => by
  obtain ⟨μ, f, t, d, rfl, rfl, ht, hch1, hch2, hd, hd8, hk0⟩ := hN
  have hd' : μ.2.2.1 = nI d := hd
  have hct := nI_clamp (show t < 2 ^ 31 by omega)
  obtain ⟨q, hq⟩ : ∃ q, q = fun i => decide (fPl (mLe μ (t * 8 + i)) = fPl (mDr μ i)) := ⟨_, rfl⟩
  have loop : ∀ (k i : Nat) (b : Bool), i + k = d → Kn (some (.int (zb (b && fAll q k i)))) (pM μ f) → A 21 [some (.ref 29), some (.int (nI t)), some (.int (zb b)), some (.int (nI i))] [] (pM μ f) := by
    intro k
    induction k with
    | zero =>
      intro i b hi hk
      apply h21
      have hi9 : i = d := by omega
      subst hi9
      rw [show (b && fAll q 0 i) = b by cases b <;> rfl] at hk
      simp only [bX6_isDraft_71, bX6_isDraft_64, bX6_isDraft_21, bX6_isDraft_18, bX6_isDraft_0, pM_0, pM_1, pM_2, pM_3, pM_4, pM_5, pM_6, pM_7, pM_8, pM_9, pM_10, pM_11, pM_12, pM_13, pM_14, hd', o_iload, o_aload, o_ic, o_lc, o_istore, o_astore, o_iinc, o_bin, o_idiv, o_ineg, o_i2c, o_i2l, o_lcmp, o_if1, o_if2, o_dup, o_dup2, o_getf, o_puti, o_ald, o_iast, o_cast, o_lald, o_last, o_mmin, o_mabs, o_ret, o_vret, o_throw, o_lsw01, o_callS0, o_callS1, o_callS2, o_callS3, o_callS4, o_callS5, o_callV0, o_callV1, o_callV2, o_callV3, o_callV4, o_callV5, zcall_no, zok_nil, zok_ref, zok_int, zE, List.map_cons, List.map_nil, List.length_cons, List.length_nil, List.replicate_succ, List.replicate_zero, List.cons_append, List.nil_append, List.append_nil, List.getElem?_cons_zero, List.getElem?_cons_succ, List.set_cons_zero, List.set_cons_succ, Option.toList_some, Option.toList_none, vp_nar_int, znar_b, zb_0, ne_eq, Bool.not_eq_false, Classical.not_not, nI_1, sh1_def, true_and, and_true, Nat.reduceAdd, Nat.reduceSub, Nat.reduceLT, Nat.reduceLeDiff, Value.category, Nat.zero_add, Nat.add_zero]
      exact ⟨fun _ => hk, fun hc => absurd (Int32.le_refl _) hc⟩
    | succ k ih =>
      intro i b hi hk
      apply h21
      have hci := nI_clamp (show i < 2 ^ 31 by omega)
      have hcb := nI_clamp (show t * 8 + i < 2 ^ 31 by omega)
      have hm8 : (8 : Int32) * nI t + nI i = nI (t * 8 + i) := by rw [Int32.mul_comm, nI_mul8]
      have e : fAll q (k + 1) i = (q i && fAll q k (i + 1)) := rfl
      rw [e] at hk
      simp only [bX6_isDraft_71, bX6_isDraft_64, bX6_isDraft_21, bX6_isDraft_18, bX6_isDraft_0, pM_0, pM_1, pM_2, pM_3, pM_4, pM_5, pM_6, pM_7, pM_8, pM_9, pM_10, pM_11, pM_12, pM_13, pM_14, hd', o_iload, o_aload, o_ic, o_lc, o_istore, o_astore, o_iinc, o_bin, o_idiv, o_ineg, o_i2c, o_i2l, o_lcmp, o_if1, o_if2, o_dup, o_dup2, o_getf, o_puti, o_ald, o_iast, o_cast, o_lald, o_last, o_mmin, o_mabs, o_ret, o_vret, o_throw, o_lsw01, o_callS0, o_callS1, o_callS2, o_callS3, o_callS4, o_callS5, o_callV0, o_callV1, o_callV2, o_callV3, o_callV4, o_callV5, zcall_no, zok_nil, zok_ref, zok_int, zE, List.map_cons, List.map_nil, List.length_cons, List.length_nil, List.replicate_succ, List.replicate_zero, List.cons_append, List.nil_append, List.append_nil, List.getElem?_cons_zero, List.getElem?_cons_succ, List.set_cons_zero, List.set_cons_succ, Option.toList_some, Option.toList_none, vp_nar_int, znar_b, zb_0, ne_eq, Bool.not_eq_false, Classical.not_not, nI_1, sh1_def, true_and, and_true, Nat.reduceAdd, Nat.reduceSub, Nat.reduceLT, Nat.reduceLeDiff, Value.category, Nat.zero_add, Nat.add_zero]
      refine ⟨fun hc => absurd (nI_le_le (by omega) (by omega) hc) (by omega), fun _ => ⟨fun h1 => ?_, fun h1 => ?_⟩⟩
      · rw [h1, Bool.false_and] at hk
        rw [h1]
        exact hk
      · rw [h1, Bool.true_and] at hk
        simp only [bX6_isDraft_71, bX6_isDraft_64, bX6_isDraft_21, bX6_isDraft_18, bX6_isDraft_0, pM_0, pM_1, pM_2, pM_3, pM_4, pM_5, pM_6, pM_7, pM_8, pM_9, pM_10, pM_11, pM_12, pM_13, pM_14, hd', hm8, hcb, o_iload, o_aload, o_ic, o_lc, o_istore, o_astore, o_iinc, o_bin, o_idiv, o_ineg, o_i2c, o_i2l, o_lcmp, o_if1, o_if2, o_dup, o_dup2, o_getf, o_puti, o_ald, o_iast, o_cast, o_lald, o_last, o_mmin, o_mabs, o_ret, o_vret, o_throw, o_lsw01, o_callS0, o_callS1, o_callS2, o_callS3, o_callS4, o_callS5, o_callV0, o_callV1, o_callV2, o_callV3, o_callV4, o_callV5, zcall_no, zok_nil, zok_ref, zok_int, zE, List.map_cons, List.map_nil, List.length_cons, List.length_nil, List.replicate_succ, List.replicate_zero, List.cons_append, List.nil_append, List.append_nil, List.getElem?_cons_zero, List.getElem?_cons_succ, List.set_cons_zero, List.set_cons_succ, Option.toList_some, Option.toList_none, vp_nar_int, znar_b, zb_0, ne_eq, Bool.not_eq_false, Classical.not_not, nI_1, sh1_def, true_and, and_true, Nat.reduceAdd, Nat.reduceSub, Nat.reduceLT, Nat.reduceLeDiff, Value.category, Nat.zero_add, Nat.add_zero]
        refine ⟨vpin (by omega) (by omega), _, rfl, hch1 _, ?_⟩
        simp only [bX6_isDraft_71, bX6_isDraft_64, bX6_isDraft_21, bX6_isDraft_18, bX6_isDraft_0, pM_0, pM_1, pM_2, pM_3, pM_4, pM_5, pM_6, pM_7, pM_8, pM_9, pM_10, pM_11, pM_12, pM_13, pM_14, hci, o_iload, o_aload, o_ic, o_lc, o_istore, o_astore, o_iinc, o_bin, o_idiv, o_ineg, o_i2c, o_i2l, o_lcmp, o_if1, o_if2, o_dup, o_dup2, o_getf, o_puti, o_ald, o_iast, o_cast, o_lald, o_last, o_mmin, o_mabs, o_ret, o_vret, o_throw, o_lsw01, o_callS0, o_callS1, o_callS2, o_callS3, o_callS4, o_callS5, o_callV0, o_callV1, o_callV2, o_callV3, o_callV4, o_callV5, zcall_no, zok_nil, zok_ref, zok_int, zE, List.map_cons, List.map_nil, List.length_cons, List.length_nil, List.replicate_succ, List.replicate_zero, List.cons_append, List.nil_append, List.append_nil, List.getElem?_cons_zero, List.getElem?_cons_succ, List.set_cons_zero, List.set_cons_succ, Option.toList_some, Option.toList_none, vp_nar_int, znar_b, zb_0, ne_eq, Bool.not_eq_false, Classical.not_not, nI_1, sh1_def, true_and, and_true, Nat.reduceAdd, Nat.reduceSub, Nat.reduceLT, Nat.reduceLeDiff, Value.category, Nat.zero_add, Nat.add_zero]
        refine ⟨vpin (by omega) (by omega), _, rfl, hch2 _, ?_⟩
        simp only [bX6_isDraft_71, bX6_isDraft_64, bX6_isDraft_21, bX6_isDraft_18, bX6_isDraft_0, pM_0, pM_1, pM_2, pM_3, pM_4, pM_5, pM_6, pM_7, pM_8, pM_9, pM_10, pM_11, pM_12, pM_13, pM_14, hci, o_iload, o_aload, o_ic, o_lc, o_istore, o_astore, o_iinc, o_bin, o_idiv, o_ineg, o_i2c, o_i2l, o_lcmp, o_if1, o_if2, o_dup, o_dup2, o_getf, o_puti, o_ald, o_iast, o_cast, o_lald, o_last, o_mmin, o_mabs, o_ret, o_vret, o_throw, o_lsw01, o_callS0, o_callS1, o_callS2, o_callS3, o_callS4, o_callS5, o_callV0, o_callV1, o_callV2, o_callV3, o_callV4, o_callV5, zcall_no, zok_nil, zok_ref, zok_int, zE, List.map_cons, List.map_nil, List.length_cons, List.length_nil, List.replicate_succ, List.replicate_zero, List.cons_append, List.nil_append, List.append_nil, List.getElem?_cons_zero, List.getElem?_cons_succ, List.set_cons_zero, List.set_cons_succ, Option.toList_some, Option.toList_none, vp_nar_int, znar_b, zb_0, ne_eq, Bool.not_eq_false, Classical.not_not, nI_1, sh1_def, true_and, and_true, Nat.reduceAdd, Nat.reduceSub, Nat.reduceLT, Nat.reduceLeDiff, Value.category, Nat.zero_add, Nat.add_zero]
        refine ⟨fun h2 => ?_, fun h2 => ?_⟩
        · have e2 : q i = false := by rw [hq]; exact decide_eq_false h2
          rw [e2] at hk
          exact ih (i + 1) false (by omega) hk
        · have e2 : q i = true := by rw [hq]; exact decide_eq_true h2
          rw [e2, Bool.true_and] at hk
          exact ih (i + 1) true (by omega) (by rw [Bool.true_and]; exact hk)
  simp only [bX6_isDraft_71, bX6_isDraft_64, bX6_isDraft_21, bX6_isDraft_18, bX6_isDraft_0, pM_0, pM_1, pM_2, pM_3, pM_4, pM_5, pM_6, pM_7, pM_8, pM_9, pM_10, pM_11, pM_12, pM_13, pM_14, hct, hd', o_iload, o_aload, o_ic, o_lc, o_istore, o_astore, o_iinc, o_bin, o_idiv, o_ineg, o_i2c, o_i2l, o_lcmp, o_if1, o_if2, o_dup, o_dup2, o_getf, o_puti, o_ald, o_iast, o_cast, o_lald, o_last, o_mmin, o_mabs, o_ret, o_vret, o_throw, o_lsw01, o_callS0, o_callS1, o_callS2, o_callS3, o_callS4, o_callS5, o_callV0, o_callV1, o_callV2, o_callV3, o_callV4, o_callV5, zcall_no, zok_nil, zok_ref, zok_int, zE, List.map_cons, List.map_nil, List.length_cons, List.length_nil, List.replicate_succ, List.replicate_zero, List.cons_append, List.nil_append, List.append_nil, List.getElem?_cons_zero, List.getElem?_cons_succ, List.set_cons_zero, List.set_cons_succ, Option.toList_some, Option.toList_none, vp_nar_int, znar_b, zb_0, ne_eq, Bool.not_eq_false, Classical.not_not, nI_1, sh1_def, true_and, and_true, Nat.reduceAdd, Nat.reduceSub, Nat.reduceLT, Nat.reduceLeDiff, Value.category, Nat.zero_add, Nat.add_zero]
  unfold fIsD at hk0
  rw [← hq] at hk0
  refine ⟨vpin (by omega) (by omega), fun h1 => ?_, fun h1 => ?_⟩
  · rw [decide_eq_false (show ¬ mLn μ t = nI d from h1)] at hk0
    exact loop d 0 false (by omega) hk0
  · rw [decide_eq_true (show mLn μ t = nI d from h1)] at hk0
    exact loop d 0 true (by omega) hk0)
end M16
