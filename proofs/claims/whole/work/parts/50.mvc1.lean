section M1
variable {l : Launch} {z0 b N : Nat} {D : va_G} {cA : Nat → ClassId}
set_option maxHeartbeats 1000000 in
set_option maxRecDepth 20000 in
theorem mX6_thrown (hlt : l.stackTraces = false) : Sem l z0 b N D cA yX6_thrown cX6_thrown 1 (some .int) 0 0 1 zno tX6_thrown := uX6_thrown hlt (fun M a h Kn Kx hok hN => by
  obtain ⟨μ, f, rfl, rfl, hk⟩ := hN
  simp only [bX6_thrown_0, pM_0, pM_1, pM_2, pM_3, pM_4, pM_5, pM_6, pM_7, pM_8, pM_9, pM_10, pM_11, pM_12, pM_13, pM_14, o_iload, o_aload, o_ic, o_lc, o_istore, o_astore, o_iinc, o_bin, o_idiv, o_ineg, o_i2c, o_i2l, o_lcmp, o_if1, o_if2, o_dup, o_dup2, o_getf, o_puti, o_ald, o_iast, o_cast, o_lald, o_last, o_mmin, o_mabs, o_ret, o_vret, o_throw, o_lsw01, o_callS0, o_callS1, o_callS2, o_callS3, o_callS4, o_callS5, o_callV0, o_callV1, o_callV2, o_callV3, o_callV4, o_callV5, zcall_no, zok_nil, zok_ref, zok_int, zE, List.map_cons, List.map_nil, List.length_cons, List.length_nil, List.replicate_succ, List.replicate_zero, List.cons_append, List.nil_append, List.append_nil, List.getElem?_cons_zero, List.getElem?_cons_succ, List.set_cons_zero, List.set_cons_succ, Option.toList_some, Option.toList_none, vp_nar_int, znar_b, zb_0, ne_eq, Bool.not_eq_false, Classical.not_not, nI_1, sh1_def, true_and, and_true, Nat.reduceAdd, Nat.reduceSub, Nat.reduceLT, Nat.reduceLeDiff, Value.category, Nat.zero_add, Nat.add_zero]
  exact hk)
set_option maxHeartbeats 1000000 in
set_option maxRecDepth 20000 in
theorem mX6_holds (hlt : l.stackTraces = false) : Sem l z0 b N D cA yX6_holds cX6_holds 2 (some .boolean) 0 0 2 zno tX6_holds := uX6_holds hlt (fun M a h Kn Kx hok hN => by
  obtain ⟨μ, f, x, rfl, rfl, hk⟩ := hN
  simp only [bX6_holds_14, bX6_holds_0, pM_0, pM_1, pM_2, pM_3, pM_4, pM_5, pM_6, pM_7, pM_8, pM_9, pM_10, pM_11, pM_12, pM_13, pM_14, pM_s0, o_iload, o_aload, o_ic, o_lc, o_istore, o_astore, o_iinc, o_bin, o_idiv, o_ineg, o_i2c, o_i2l, o_lcmp, o_if1, o_if2, o_dup, o_dup2, o_getf, o_puti, o_ald, o_iast, o_cast, o_lald, o_last, o_mmin, o_mabs, o_ret, o_vret, o_throw, o_lsw01, o_callS0, o_callS1, o_callS2, o_callS3, o_callS4, o_callS5, o_callV0, o_callV1, o_callV2, o_callV3, o_callV4, o_callV5, zcall_no, zok_nil, zok_ref, zok_int, zE, List.map_cons, List.map_nil, List.length_cons, List.length_nil, List.replicate_succ, List.replicate_zero, List.cons_append, List.nil_append, List.append_nil, List.getElem?_cons_zero, List.getElem?_cons_succ, List.set_cons_zero, List.set_cons_succ, Option.toList_some, Option.toList_none, vp_nar_int, znar_b, zb_0, ne_eq, Bool.not_eq_false, Classical.not_not, nI_1, sh1_def, true_and, and_true, Nat.reduceAdd, Nat.reduceSub, Nat.reduceLT, Nat.reduceLeDiff, Value.category, Nat.zero_add, Nat.add_zero]
  refine ⟨fun h1 => ?_, fun h1 => ?_⟩
  · rw [decide_eq_false h1] at hk
    exact ⟨rfl, hk⟩
  · rw [decide_eq_true h1] at hk
    exact ⟨rfl, hk⟩)
set_option maxHeartbeats 1000000 in
set_option maxRecDepth 20000 in
theorem mX6_in (hlt : l.stackTraces = false) : Sem l z0 b N D cA yX6_in cX6_in 3 (some .boolean) 0 0 3 zno tX6_in := uX6_in hlt (fun M a h Kn Kx hok hN => by
  obtain ⟨v, x, y, rfl, hk⟩ := hN
  simp only [bX6_in_15, bX6_in_14, bX6_in_0, o_iload, o_aload, o_ic, o_lc, o_istore, o_astore, o_iinc, o_bin, o_idiv, o_ineg, o_i2c, o_i2l, o_lcmp, o_if1, o_if2, o_dup, o_dup2, o_getf, o_puti, o_ald, o_iast, o_cast, o_lald, o_last, o_mmin, o_mabs, o_ret, o_vret, o_throw, o_lsw01, o_callS0, o_callS1, o_callS2, o_callS3, o_callS4, o_callS5, o_callV0, o_callV1, o_callV2, o_callV3, o_callV4, o_callV5, zcall_no, zok_nil, zok_ref, zok_int, zE, List.map_cons, List.map_nil, List.length_cons, List.length_nil, List.replicate_succ, List.replicate_zero, List.cons_append, List.nil_append, List.append_nil, List.getElem?_cons_zero, List.getElem?_cons_succ, List.set_cons_zero, List.set_cons_succ, Option.toList_some, Option.toList_none, vp_nar_int, znar_b, zb_0, ne_eq, Bool.not_eq_false, Classical.not_not, nI_1, sh1_def, true_and, and_true, Nat.reduceAdd, Nat.reduceSub, Nat.reduceLT, Nat.reduceLeDiff, Value.category, Nat.zero_add, Nat.add_zero]
  unfold fIn at hk
  refine ⟨fun h1 => ?_, fun h1 => ⟨fun h2 => ?_, fun h2 => ?_⟩⟩
  · rw [decide_eq_false (Int32.not_le.mpr h1)] at hk
    exact ⟨rfl, hk⟩
  · rw [decide_eq_false (Int32.not_le.mpr h2), Bool.and_false] at hk
    exact ⟨rfl, hk⟩
  · rw [decide_eq_true (Int32.not_lt.mp h1), decide_eq_true (Int32.not_lt.mp h2)] at hk
    exact ⟨rfl, hk⟩)
set_option maxHeartbeats 1000000 in
set_option maxRecDepth 20000 in
theorem mX6_has (hlt : l.stackTraces = false) : Sem l z0 b N D cA yX6_has cX6_has 2 (some .boolean) 0 0 2 zno tX6_has := uX6_has hlt (fun M a h Kn Kx hok hN => by
  obtain ⟨x, j, rfl, hj, hk⟩ := hN
  simp only [bX6_has_14, bX6_has_0, o_iload, o_aload, o_ic, o_lc, o_istore, o_astore, o_iinc, o_bin, o_idiv, o_ineg, o_i2c, o_i2l, o_lcmp, o_if1, o_if2, o_dup, o_dup2, o_getf, o_puti, o_ald, o_iast, o_cast, o_lald, o_last, o_mmin, o_mabs, o_ret, o_vret, o_throw, o_lsw01, o_callS0, o_callS1, o_callS2, o_callS3, o_callS4, o_callS5, o_callV0, o_callV1, o_callV2, o_callV3, o_callV4, o_callV5, zcall_no, zok_nil, zok_ref, zok_int, zE, List.map_cons, List.map_nil, List.length_cons, List.length_nil, List.replicate_succ, List.replicate_zero, List.cons_append, List.nil_append, List.append_nil, List.getElem?_cons_zero, List.getElem?_cons_succ, List.set_cons_zero, List.set_cons_succ, Option.toList_some, Option.toList_none, vp_nar_int, znar_b, zb_0, ne_eq, Bool.not_eq_false, Classical.not_not, nI_1, sh1_def, true_and, and_true, Nat.reduceAdd, Nat.reduceSub, Nat.reduceLT, Nat.reduceLeDiff, Value.category, Nat.zero_add, Nat.add_zero]
  refine ⟨fun hc => ?_, fun hc => ?_⟩
  · have hb : bt x j = false := by simpa [hasb hj] using hc
    rw [hb] at hk
    exact ⟨rfl, hk⟩
  · have hb : bt x j = true := by simpa [hasb hj] using hc
    rw [hb] at hk
    exact ⟨rfl, hk⟩)
theorem fIn_n {x : Int32} {n : Nat} (hn : n < 2 ^ 30) : fIn x 0 (nI n - 1) = fOk x (nI n) := by
  unfold fIn fOk
  have h3 : (nI n).toInt = n := nI_toInt (by omega)
  have h4 : (nI n - 1).toInt = (n : Int) - 1 := pk_sub_toInt (b := 1) hn (by decide)
  have e : (x ≤ nI n - 1) ↔ (x < nI n) := by
    rw [Int32.le_iff_toInt_le, Int32.lt_iff_toInt_lt, h3, h4]; omega
  simp only [e]
set_option maxHeartbeats 1000000 in
set_option maxRecDepth 20000 in
theorem mX6_isTag (hlt : l.stackTraces = false) : Sem l z0 b N D cA yX6_isTag cX6_isTag 2 (some .boolean) 1 22 2 zno tX6_isTag := uX6_isTag hlt (mX6_in hlt) (fun M a h Kn Kx hok hN => by
  obtain ⟨μ, f, n, x, rfl, rfl, hn, hn24, hk⟩ := hN
  simp only [bX6_isTag_0, pM_0, pM_1, pM_2, pM_3, pM_4, pM_5, pM_6, pM_7, pM_8, pM_9, pM_10, pM_11, pM_12, pM_13, pM_14, o_iload, o_aload, o_ic, o_lc, o_istore, o_astore, o_iinc, o_bin, o_idiv, o_ineg, o_i2c, o_i2l, o_lcmp, o_if1, o_if2, o_dup, o_dup2, o_getf, o_puti, o_ald, o_iast, o_cast, o_lald, o_last, o_mmin, o_mabs, o_ret, o_vret, o_throw, o_lsw01, o_callS0, o_callS1, o_callS2, o_callS3, o_callS4, o_callS5, o_callV0, o_callV1, o_callV2, o_callV3, o_callV4, o_callV5, zcall_no, zok_nil, zok_ref, zok_int, zE, List.map_cons, List.map_nil, List.length_cons, List.length_nil, List.replicate_succ, List.replicate_zero, List.cons_append, List.nil_append, List.append_nil, List.getElem?_cons_zero, List.getElem?_cons_succ, List.set_cons_zero, List.set_cons_succ, Option.toList_some, Option.toList_none, vp_nar_int, znar_b, zb_0, ne_eq, Bool.not_eq_false, Classical.not_not, nI_1, sh1_def, true_and, and_true, Nat.reduceAdd, Nat.reduceSub, Nat.reduceLT, Nat.reduceLeDiff, Value.category, Nat.zero_add, Nat.add_zero]
  refine ⟨x, 0, nI n - 1, by rw [show μ.2.2.2.1 = nI n from hn], ?_⟩
  simp only [bX6_isTag_0, pM_0, pM_1, pM_2, pM_3, pM_4, pM_5, pM_6, pM_7, pM_8, pM_9, pM_10, pM_11, pM_12, pM_13, pM_14, o_iload, o_aload, o_ic, o_lc, o_istore, o_astore, o_iinc, o_bin, o_idiv, o_ineg, o_i2c, o_i2l, o_lcmp, o_if1, o_if2, o_dup, o_dup2, o_getf, o_puti, o_ald, o_iast, o_cast, o_lald, o_last, o_mmin, o_mabs, o_ret, o_vret, o_throw, o_lsw01, o_callS0, o_callS1, o_callS2, o_callS3, o_callS4, o_callS5, o_callV0, o_callV1, o_callV2, o_callV3, o_callV4, o_callV5, zcall_no, zok_nil, zok_ref, zok_int, zE, List.map_cons, List.map_nil, List.length_cons, List.length_nil, List.replicate_succ, List.replicate_zero, List.cons_append, List.nil_append, List.append_nil, List.getElem?_cons_zero, List.getElem?_cons_succ, List.set_cons_zero, List.set_cons_succ, Option.toList_some, Option.toList_none, vp_nar_int, znar_b, zb_0, ne_eq, Bool.not_eq_false, Classical.not_not, nI_1, sh1_def, true_and, and_true, Nat.reduceAdd, Nat.reduceSub, Nat.reduceLT, Nat.reduceLeDiff, Value.category, Nat.zero_add, Nat.add_zero]
  rw [fIn_n (by omega)]
  exact hk)
set_option maxHeartbeats 1000000 in
set_option maxRecDepth 20000 in
theorem mX6_isThing (hlt : l.stackTraces = false) : Sem l z0 b N D cA yX6_isThing cX6_isThing 2 (some .boolean) 1 22 2 zno tX6_isThing := uX6_isThing hlt (mX6_in hlt) (fun M a h Kn Kx hok hN => by
  obtain ⟨μ, f, n, x, rfl, rfl, hn, hn24, hk⟩ := hN
  simp only [bX6_isThing_0, pM_0, pM_1, pM_2, pM_3, pM_4, pM_5, pM_6, pM_7, pM_8, pM_9, pM_10, pM_11, pM_12, pM_13, pM_14, o_iload, o_aload, o_ic, o_lc, o_istore, o_astore, o_iinc, o_bin, o_idiv, o_ineg, o_i2c, o_i2l, o_lcmp, o_if1, o_if2, o_dup, o_dup2, o_getf, o_puti, o_ald, o_iast, o_cast, o_lald, o_last, o_mmin, o_mabs, o_ret, o_vret, o_throw, o_lsw01, o_callS0, o_callS1, o_callS2, o_callS3, o_callS4, o_callS5, o_callV0, o_callV1, o_callV2, o_callV3, o_callV4, o_callV5, zcall_no, zok_nil, zok_ref, zok_int, zE, List.map_cons, List.map_nil, List.length_cons, List.length_nil, List.replicate_succ, List.replicate_zero, List.cons_append, List.nil_append, List.append_nil, List.getElem?_cons_zero, List.getElem?_cons_succ, List.set_cons_zero, List.set_cons_succ, Option.toList_some, Option.toList_none, vp_nar_int, znar_b, zb_0, ne_eq, Bool.not_eq_false, Classical.not_not, nI_1, sh1_def, true_and, and_true, Nat.reduceAdd, Nat.reduceSub, Nat.reduceLT, Nat.reduceLeDiff, Value.category, Nat.zero_add, Nat.add_zero]
  refine ⟨x, 0, nI n - 1, by rw [show μ.2.2.2.2.2.2.2.2.1 = nI n from hn], ?_⟩
  simp only [bX6_isThing_0, pM_0, pM_1, pM_2, pM_3, pM_4, pM_5, pM_6, pM_7, pM_8, pM_9, pM_10, pM_11, pM_12, pM_13, pM_14, o_iload, o_aload, o_ic, o_lc, o_istore, o_astore, o_iinc, o_bin, o_idiv, o_ineg, o_i2c, o_i2l, o_lcmp, o_if1, o_if2, o_dup, o_dup2, o_getf, o_puti, o_ald, o_iast, o_cast, o_lald, o_last, o_mmin, o_mabs, o_ret, o_vret, o_throw, o_lsw01, o_callS0, o_callS1, o_callS2, o_callS3, o_callS4, o_callS5, o_callV0, o_callV1, o_callV2, o_callV3, o_callV4, o_callV5, zcall_no, zok_nil, zok_ref, zok_int, zE, List.map_cons, List.map_nil, List.length_cons, List.length_nil, List.replicate_succ, List.replicate_zero, List.cons_append, List.nil_append, List.append_nil, List.getElem?_cons_zero, List.getElem?_cons_succ, List.set_cons_zero, List.set_cons_succ, Option.toList_some, Option.toList_none, vp_nar_int, znar_b, zb_0, ne_eq, Bool.not_eq_false, Classical.not_not, nI_1, sh1_def, true_and, and_true, Nat.reduceAdd, Nat.reduceSub, Nat.reduceLT, Nat.reduceLeDiff, Value.category, Nat.zero_add, Nat.add_zero]
  rw [fIn_n (by omega)]
  exact hk)
set_option maxHeartbeats 1000000 in
set_option maxRecDepth 20000 in
theorem mX6_isRequest (hlt : l.stackTraces = false) : Sem l z0 b N D cA yX6_isRequest cX6_isRequest 2 (some .boolean) 1 22 2 zno tX6_isRequest := uX6_isRequest hlt (mX6_in hlt) (fun M a h Kn Kx hok hN => by
  obtain ⟨μ, f, n, x, rfl, rfl, hn, hn24, hk⟩ := hN
  simp only [bX6_isRequest_0, pM_0, pM_1, pM_2, pM_3, pM_4, pM_5, pM_6, pM_7, pM_8, pM_9, pM_10, pM_11, pM_12, pM_13, pM_14, o_iload, o_aload, o_ic, o_lc, o_istore, o_astore, o_iinc, o_bin, o_idiv, o_ineg, o_i2c, o_i2l, o_lcmp, o_if1, o_if2, o_dup, o_dup2, o_getf, o_puti, o_ald, o_iast, o_cast, o_lald, o_last, o_mmin, o_mabs, o_ret, o_vret, o_throw, o_lsw01, o_callS0, o_callS1, o_callS2, o_callS3, o_callS4, o_callS5, o_callV0, o_callV1, o_callV2, o_callV3, o_callV4, o_callV5, zcall_no, zok_nil, zok_ref, zok_int, zE, List.map_cons, List.map_nil, List.length_cons, List.length_nil, List.replicate_succ, List.replicate_zero, List.cons_append, List.nil_append, List.append_nil, List.getElem?_cons_zero, List.getElem?_cons_succ, List.set_cons_zero, List.set_cons_succ, Option.toList_some, Option.toList_none, vp_nar_int, znar_b, zb_0, ne_eq, Bool.not_eq_false, Classical.not_not, nI_1, sh1_def, true_and, and_true, Nat.reduceAdd, Nat.reduceSub, Nat.reduceLT, Nat.reduceLeDiff, Value.category, Nat.zero_add, Nat.add_zero]
  refine ⟨x, 0, nI n - 1, by rw [show μ.2.2.2.2.2.2.2.2.2.2.1 = nI n from hn], ?_⟩
  simp only [bX6_isRequest_0, pM_0, pM_1, pM_2, pM_3, pM_4, pM_5, pM_6, pM_7, pM_8, pM_9, pM_10, pM_11, pM_12, pM_13, pM_14, o_iload, o_aload, o_ic, o_lc, o_istore, o_astore, o_iinc, o_bin, o_idiv, o_ineg, o_i2c, o_i2l, o_lcmp, o_if1, o_if2, o_dup, o_dup2, o_getf, o_puti, o_ald, o_iast, o_cast, o_lald, o_last, o_mmin, o_mabs, o_ret, o_vret, o_throw, o_lsw01, o_callS0, o_callS1, o_callS2, o_callS3, o_callS4, o_callS5, o_callV0, o_callV1, o_callV2, o_callV3, o_callV4, o_callV5, zcall_no, zok_nil, zok_ref, zok_int, zE, List.map_cons, List.map_nil, List.length_cons, List.length_nil, List.replicate_succ, List.replicate_zero, List.cons_append, List.nil_append, List.append_nil, List.getElem?_cons_zero, List.getElem?_cons_succ, List.set_cons_zero, List.set_cons_succ, Option.toList_some, Option.toList_none, vp_nar_int, znar_b, zb_0, ne_eq, Bool.not_eq_false, Classical.not_not, nI_1, sh1_def, true_and, and_true, Nat.reduceAdd, Nat.reduceSub, Nat.reduceLT, Nat.reduceLeDiff, Value.category, Nat.zero_add, Nat.add_zero]
  rw [fIn_n (by omega)]
  exact hk)
set_option maxHeartbeats 1000000 in
set_option maxRecDepth 20000 in
theorem mX6_plain (hlt : l.stackTraces = false) : Sem l z0 b N D cA yX6_plain cX6_plain 1 (some .char) 0 0 1 zno tX6_plain := uX6_plain hlt (fun M a h Kn Kx hok hN => by
  obtain ⟨x, rfl, hc, hk⟩ := hN
  simp only [bX6_plain_35, bX6_plain_23, bX6_plain_0, o_iload, o_aload, o_ic, o_lc, o_istore, o_astore, o_iinc, o_bin, o_idiv, o_ineg, o_i2c, o_i2l, o_lcmp, o_if1, o_if2, o_dup, o_dup2, o_getf, o_puti, o_ald, o_iast, o_cast, o_lald, o_last, o_mmin, o_mabs, o_ret, o_vret, o_throw, o_lsw01, o_callS0, o_callS1, o_callS2, o_callS3, o_callS4, o_callS5, o_callV0, o_callV1, o_callV2, o_callV3, o_callV4, o_callV5, zcall_no, zok_nil, zok_ref, zok_int, zE, List.map_cons, List.map_nil, List.length_cons, List.length_nil, List.replicate_succ, List.replicate_zero, List.cons_append, List.nil_append, List.append_nil, List.getElem?_cons_zero, List.getElem?_cons_succ, List.set_cons_zero, List.set_cons_succ, Option.toList_some, Option.toList_none, vp_nar_int, znar_b, zb_0, ne_eq, Bool.not_eq_false, Classical.not_not, nI_1, sh1_def, true_and, and_true, Nat.reduceAdd, Nat.reduceSub, Nat.reduceLT, Nat.reduceLeDiff, Value.category, Nat.zero_add, Nat.add_zero]
  unfold fPl at hk
  refine ⟨fun h1 => ?_, fun h1 => ⟨fun h2 => ?_, fun h2 => ?_⟩⟩
  · rw [if_neg (fun q => absurd q.1 (Int32.not_le.mpr h1))] at hk
    refine ⟨fun h3 => ?_, fun h3 => ?_⟩
    · rw [if_neg h3] at hk; exact ⟨hc, hk⟩
    · rw [if_pos h3] at hk; exact ⟨isCh95, hk⟩
  · rw [if_neg (fun q => absurd q.2 (Int32.not_le.mpr h2))] at hk
    refine ⟨fun h3 => ?_, fun h3 => ?_⟩
    · rw [if_neg h3] at hk; exact ⟨hc, hk⟩
    · rw [if_pos h3] at hk; exact ⟨isCh95, hk⟩
  · rw [if_pos ⟨Int32.not_lt.mp h1, Int32.not_lt.mp h2⟩] at hk
    exact ⟨isCh_c _, hk⟩)
set_option maxHeartbeats 1000000 in
set_option maxRecDepth 20000 in
theorem mX6_isSign (hlt : l.stackTraces = false) : Sem l z0 b N D cA yX6_isSign cX6_isSign 1 (some .boolean) 1 20 1 zno tX6_isSign := uX6_isSign hlt (mX6_plain hlt) (fun M a h Kn Kx hok hN => by
  obtain ⟨x, rfl, hc, hk⟩ := hN
  simp only [bX6_isSign_32, bX6_isSign_27, bX6_isSign_18, bX6_isSign_0, o_iload, o_aload, o_ic, o_lc, o_istore, o_astore, o_iinc, o_bin, o_idiv, o_ineg, o_i2c, o_i2l, o_lcmp, o_if1, o_if2, o_dup, o_dup2, o_getf, o_puti, o_ald, o_iast, o_cast, o_lald, o_last, o_mmin, o_mabs, o_ret, o_vret, o_throw, o_lsw01, o_callS0, o_callS1, o_callS2, o_callS3, o_callS4, o_callS5, o_callV0, o_callV1, o_callV2, o_callV3, o_callV4, o_callV5, zcall_no, zok_nil, zok_ref, zok_int, zE, List.map_cons, List.map_nil, List.length_cons, List.length_nil, List.replicate_succ, List.replicate_zero, List.cons_append, List.nil_append, List.append_nil, List.getElem?_cons_zero, List.getElem?_cons_succ, List.set_cons_zero, List.set_cons_succ, Option.toList_some, Option.toList_none, vp_nar_int, znar_b, zb_0, ne_eq, Bool.not_eq_false, Classical.not_not, nI_1, sh1_def, true_and, and_true, Nat.reduceAdd, Nat.reduceSub, Nat.reduceLT, Nat.reduceLeDiff, Value.category, Nat.zero_add, Nat.add_zero]
  refine ⟨x, rfl, hc, ?_⟩
  have tail : fSi x = decide (fPl x = 95) → tX6_plain [Value.int x] h (fun v h' => (¬ fPl x = 95 → True) → True) := fun _ => ⟨x, rfl, hc, fun _ => trivial⟩
  have last : fSi x = decide (fPl x = 95) → (¬ fPl x = 95 → narrow .boolean (.int 0) = .int 0 ∧ Kn (some (.int 0)) h) ∧ (fPl x = 95 → narrow .boolean (.int 1) = .int 1 ∧ Kn (some (.int 1)) h) := fun e => by
    rw [e] at hk
    refine ⟨fun h1 => ?_, fun h1 => ?_⟩
    · rw [decide_eq_false h1] at hk; exact ⟨rfl, hk⟩
    · rw [decide_eq_true h1] at hk; exact ⟨rfl, hk⟩
  simp only [bX6_isSign_32, bX6_isSign_27, bX6_isSign_18, bX6_isSign_0, o_iload, o_aload, o_ic, o_lc, o_istore, o_astore, o_iinc, o_bin, o_idiv, o_ineg, o_i2c, o_i2l, o_lcmp, o_if1, o_if2, o_dup, o_dup2, o_getf, o_puti, o_ald, o_iast, o_cast, o_lald, o_last, o_mmin, o_mabs, o_ret, o_vret, o_throw, o_lsw01, o_callS0, o_callS1, o_callS2, o_callS3, o_callS4, o_callS5, o_callV0, o_callV1, o_callV2, o_callV3, o_callV4, o_callV5, zcall_no, zok_nil, zok_ref, zok_int, zE, List.map_cons, List.map_nil, List.length_cons, List.length_nil, List.replicate_succ, List.replicate_zero, List.cons_append, List.nil_append, List.append_nil, List.getElem?_cons_zero, List.getElem?_cons_succ, List.set_cons_zero, List.set_cons_succ, Option.toList_some, Option.toList_none, vp_nar_int, znar_b, zb_0, ne_eq, Bool.not_eq_false, Classical.not_not, nI_1, sh1_def, true_and, and_true, Nat.reduceAdd, Nat.reduceSub, Nat.reduceLT, Nat.reduceLeDiff, Value.category, Nat.zero_add, Nat.add_zero]
  refine ⟨fun h1 => ⟨x, rfl, hc, ?_⟩, fun h1 => ⟨x, rfl, hc, ?_⟩⟩
  · simp only [bX6_isSign_32, bX6_isSign_27, bX6_isSign_18, bX6_isSign_0, o_iload, o_aload, o_ic, o_lc, o_istore, o_astore, o_iinc, o_bin, o_idiv, o_ineg, o_i2c, o_i2l, o_lcmp, o_if1, o_if2, o_dup, o_dup2, o_getf, o_puti, o_ald, o_iast, o_cast, o_lald, o_last, o_mmin, o_mabs, o_ret, o_vret, o_throw, o_lsw01, o_callS0, o_callS1, o_callS2, o_callS3, o_callS4, o_callS5, o_callV0, o_callV1, o_callV2, o_callV3, o_callV4, o_callV5, zcall_no, zok_nil, zok_ref, zok_int, zE, List.map_cons, List.map_nil, List.length_cons, List.length_nil, List.replicate_succ, List.replicate_zero, List.cons_append, List.nil_append, List.append_nil, List.getElem?_cons_zero, List.getElem?_cons_succ, List.set_cons_zero, List.set_cons_succ, Option.toList_some, Option.toList_none, vp_nar_int, znar_b, zb_0, ne_eq, Bool.not_eq_false, Classical.not_not, nI_1, sh1_def, true_and, and_true, Nat.reduceAdd, Nat.reduceSub, Nat.reduceLT, Nat.reduceLeDiff, Value.category, Nat.zero_add, Nat.add_zero]
    exact last (by unfold fSi; rw [decide_eq_false (Int32.not_le.mpr h1)]; rfl)
  · simp only [bX6_isSign_32, bX6_isSign_27, bX6_isSign_18, bX6_isSign_0, o_iload, o_aload, o_ic, o_lc, o_istore, o_astore, o_iinc, o_bin, o_idiv, o_ineg, o_i2c, o_i2l, o_lcmp, o_if1, o_if2, o_dup, o_dup2, o_getf, o_puti, o_ald, o_iast, o_cast, o_lald, o_last, o_mmin, o_mabs, o_ret, o_vret, o_throw, o_lsw01, o_callS0, o_callS1, o_callS2, o_callS3, o_callS4, o_callS5, o_callV0, o_callV1, o_callV2, o_callV3, o_callV4, o_callV5, zcall_no, zok_nil, zok_ref, zok_int, zE, List.map_cons, List.map_nil, List.length_cons, List.length_nil, List.replicate_succ, List.replicate_zero, List.cons_append, List.nil_append, List.append_nil, List.getElem?_cons_zero, List.getElem?_cons_succ, List.set_cons_zero, List.set_cons_succ, Option.toList_some, Option.toList_none, vp_nar_int, znar_b, zb_0, ne_eq, Bool.not_eq_false, Classical.not_not, nI_1, sh1_def, true_and, and_true, Nat.reduceAdd, Nat.reduceSub, Nat.reduceLT, Nat.reduceLeDiff, Value.category, Nat.zero_add, Nat.add_zero]
    refine ⟨fun h2 => ?_, fun h2 => ⟨x, rfl, hc, ?_⟩⟩
    · have e : fSi x = true := by unfold fSi; rw [decide_eq_true (Int32.not_lt.mp h1), decide_eq_true h2]; rfl
      rw [e] at hk
      exact ⟨rfl, hk⟩
    · simp only [bX6_isSign_32, bX6_isSign_27, bX6_isSign_18, bX6_isSign_0, o_iload, o_aload, o_ic, o_lc, o_istore, o_astore, o_iinc, o_bin, o_idiv, o_ineg, o_i2c, o_i2l, o_lcmp, o_if1, o_if2, o_dup, o_dup2, o_getf, o_puti, o_ald, o_iast, o_cast, o_lald, o_last, o_mmin, o_mabs, o_ret, o_vret, o_throw, o_lsw01, o_callS0, o_callS1, o_callS2, o_callS3, o_callS4, o_callS5, o_callV0, o_callV1, o_callV2, o_callV3, o_callV4, o_callV5, zcall_no, zok_nil, zok_ref, zok_int, zE, List.map_cons, List.map_nil, List.length_cons, List.length_nil, List.replicate_succ, List.replicate_zero, List.cons_append, List.nil_append, List.append_nil, List.getElem?_cons_zero, List.getElem?_cons_succ, List.set_cons_zero, List.set_cons_succ, Option.toList_some, Option.toList_none, vp_nar_int, znar_b, zb_0, ne_eq, Bool.not_eq_false, Classical.not_not, nI_1, sh1_def, true_and, and_true, Nat.reduceAdd, Nat.reduceSub, Nat.reduceLT, Nat.reduceLeDiff, Value.category, Nat.zero_add, Nat.add_zero]
      exact last (by unfold fSi; rw [decide_eq_false h2, Bool.and_false]; rfl))
set_option maxHeartbeats 1000000 in
set_option maxRecDepth 20000 in
theorem mX6_does (hlt : l.stackTraces = false) : Sem l z0 b N D cA yX6_does cX6_does 4 none 0 0 4 zno tX6_does := uX6_does hlt (fun M a h Kn Kx hok hN => by
  obtain ⟨μ, f, t, o, k, rfl, rfl, ht, ho, hk⟩ := hN
  have hct := nI_clamp (show t < 2 ^ 31 by omega)
  have e : ∀ al im, al = fDoA (mAl μ) k t o → im = fDoI (mIm μ) k t o → Kn none (pM (vRu μ al im) f) := fun al im h1 h2 => by subst h1; subst h2; exact hk
  simp only [bX6_does_78, bX6_does_28, bX6_does_0, pM_0, pM_1, pM_2, pM_3, pM_4, pM_5, pM_6, pM_7, pM_8, pM_9, pM_10, pM_11, pM_12, pM_13, pM_14, pM_s6, pM_s7, hct, o_iload, o_aload, o_ic, o_lc, o_istore, o_astore, o_iinc, o_bin, o_idiv, o_ineg, o_i2c, o_i2l, o_lcmp, o_if1, o_if2, o_dup, o_dup2, o_getf, o_puti, o_ald, o_iast, o_cast, o_lald, o_last, o_mmin, o_mabs, o_ret, o_vret, o_throw, o_lsw01, o_callS0, o_callS1, o_callS2, o_callS3, o_callS4, o_callS5, o_callV0, o_callV1, o_callV2, o_callV3, o_callV4, o_callV5, zcall_no, zok_nil, zok_ref, zok_int, zE, List.map_cons, List.map_nil, List.length_cons, List.length_nil, List.replicate_succ, List.replicate_zero, List.cons_append, List.nil_append, List.append_nil, List.getElem?_cons_zero, List.getElem?_cons_succ, List.set_cons_zero, List.set_cons_succ, Option.toList_some, Option.toList_none, vp_nar_int, znar_b, zb_0, ne_eq, Bool.not_eq_false, Classical.not_not, nI_1, sh1_def, true_and, and_true, Nat.reduceAdd, Nat.reduceSub, Nat.reduceLT, Nat.reduceLeDiff, Value.category, Nat.zero_add, Nat.add_zero]
  refine ⟨fun h0 => ⟨fun h2 => ⟨vpin (by omega) (by omega), vpin (by omega) (by omega), ?_⟩, fun h2 => ⟨vpin (by omega) (by omega), ?_⟩⟩, fun h0 => ⟨vpin (by omega) (by omega), ?_⟩⟩
  all_goals refine ⟨fun h1 => ⟨fun h3 => ⟨vpin (by omega) (by omega), vpin (by omega) (by omega), e _ _ ?_ ?_⟩, fun h3 => ⟨vpin (by omega) (by omega), vpin (by omega) (by omega), e _ _ ?_ ?_⟩⟩, fun h1 => ⟨vpin (by omega) (by omega), vpin (by omega) (by omega), e _ _ ?_ ?_⟩⟩
  all_goals first
    | (simp [fDoA, fDoI, *]; done)
    | (exfalso; simp_all))
end M1
