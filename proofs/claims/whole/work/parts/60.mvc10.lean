section M11
variable {l : Launch} {z0 b N : Nat} {D : va_G} {cA : Nat → ClassId}
set_option maxHeartbeats 1000000 in
set_option maxRecDepth 20000 in
theorem mX6_clashes (hlt : l.stackTraces = false) : Sem l z0 b N D cA yX6_clashes cX6_clashes 6 (some .int) 8 181 2 zno tX6_clashes := uX6_clashes hlt (mX6_isRequest hlt) (mX6_holds hlt) (mX6_could hlt) (mX6_couldBehind hlt) (fun M a h Kn Kx hok hN A h33 => by
  obtain ⟨μ, f, n, m, q, k, d, x, rfl, rfl, hI, hk⟩ := hN
  have hI' := hI
  obtain ⟨⟨hn, hn24, hm, hm20, hq, hq40, hkp, hk20, hd, hd8, hch1, hch2, hln, hac, hrq⟩, hrk⟩ := hI'
  unfold gClashes gH gIs at hk
  rw [hq] at hk
  simp only [bX6_clashes_107, bX6_clashes_99, bX6_clashes_98, bX6_clashes_94, bX6_clashes_66, bX6_clashes_65, bX6_clashes_33, bX6_clashes_14, bX6_clashes_0, pM_0, pM_1, pM_2, pM_3, pM_4, pM_5, pM_6, pM_7, pM_8, pM_9, pM_10, pM_11, pM_12, pM_13, pM_14, o_iload, o_aload, o_ic, o_lc, o_istore, o_astore, o_iinc, o_bin, o_idiv, o_ineg, o_i2c, o_i2l, o_lcmp, o_if1, o_if2, o_dup, o_dup2, o_getf, o_puti, o_ald, o_iast, o_cast, o_lald, o_last, o_mmin, o_mabs, o_ret, o_vret, o_throw, o_lsw01, o_callS0, o_callS1, o_callS2, o_callS3, o_callS4, o_callS5, o_callV0, o_callV1, o_callV2, o_callV3, o_callV4, o_callV5, zcall_no, zok_nil, zok_ref, zok_int, zE, List.map_cons, List.map_nil, List.length_cons, List.length_nil, List.replicate_succ, List.replicate_zero, List.cons_append, List.nil_append, List.append_nil, List.getElem?_cons_zero, List.getElem?_cons_succ, List.set_cons_zero, List.set_cons_succ, Option.toList_some, Option.toList_none, vp_nar_int, znar_b, zb_0, ne_eq, Bool.not_eq_false, Classical.not_not, nI_1, sh1_def, true_and, and_true, Nat.reduceAdd, Nat.reduceSub, Nat.reduceLT, Nat.reduceLeDiff, Value.category, Nat.zero_add, Nat.add_zero]
  refine ⟨μ, f, q, x, rfl, rfl, hq, hq40, ?_⟩
  simp only [bX6_clashes_107, bX6_clashes_99, bX6_clashes_98, bX6_clashes_94, bX6_clashes_66, bX6_clashes_65, bX6_clashes_33, bX6_clashes_14, bX6_clashes_0, pM_0, pM_1, pM_2, pM_3, pM_4, pM_5, pM_6, pM_7, pM_8, pM_9, pM_10, pM_11, pM_12, pM_13, pM_14, o_iload, o_aload, o_ic, o_lc, o_istore, o_astore, o_iinc, o_bin, o_idiv, o_ineg, o_i2c, o_i2l, o_lcmp, o_if1, o_if2, o_dup, o_dup2, o_getf, o_puti, o_ald, o_iast, o_cast, o_lald, o_last, o_mmin, o_mabs, o_ret, o_vret, o_throw, o_lsw01, o_callS0, o_callS1, o_callS2, o_callS3, o_callS4, o_callS5, o_callV0, o_callV1, o_callV2, o_callV3, o_callV4, o_callV5, zcall_no, zok_nil, zok_ref, zok_int, zE, List.map_cons, List.map_nil, List.length_cons, List.length_nil, List.replicate_succ, List.replicate_zero, List.cons_append, List.nil_append, List.append_nil, List.getElem?_cons_zero, List.getElem?_cons_succ, List.set_cons_zero, List.set_cons_succ, Option.toList_some, Option.toList_none, vp_nar_int, znar_b, zb_0, ne_eq, Bool.not_eq_false, Classical.not_not, nI_1, sh1_def, true_and, and_true, Nat.reduceAdd, Nat.reduceSub, Nat.reduceLT, Nat.reduceLeDiff, Value.category, Nat.zero_add, Nat.add_zero]
  refine ⟨fun hb => ⟨μ, f, 1, rfl, rfl, ?_⟩, fun hb => ⟨μ, f, 0, rfl, rfl, ?_⟩⟩
  · rw [show fOk x (nI q) = false from hb] at hk
    simp only [bX6_clashes_107, bX6_clashes_99, bX6_clashes_98, bX6_clashes_94, bX6_clashes_66, bX6_clashes_65, bX6_clashes_33, bX6_clashes_14, bX6_clashes_0, pM_0, pM_1, pM_2, pM_3, pM_4, pM_5, pM_6, pM_7, pM_8, pM_9, pM_10, pM_11, pM_12, pM_13, pM_14, o_iload, o_aload, o_ic, o_lc, o_istore, o_astore, o_iinc, o_bin, o_idiv, o_ineg, o_i2c, o_i2l, o_lcmp, o_if1, o_if2, o_dup, o_dup2, o_getf, o_puti, o_ald, o_iast, o_cast, o_lald, o_last, o_mmin, o_mabs, o_ret, o_vret, o_throw, o_lsw01, o_callS0, o_callS1, o_callS2, o_callS3, o_callS4, o_callS5, o_callV0, o_callV1, o_callV2, o_callV3, o_callV4, o_callV5, zcall_no, zok_nil, zok_ref, zok_int, zE, List.map_cons, List.map_nil, List.length_cons, List.length_nil, List.replicate_succ, List.replicate_zero, List.cons_append, List.nil_append, List.append_nil, List.getElem?_cons_zero, List.getElem?_cons_succ, List.set_cons_zero, List.set_cons_succ, Option.toList_some, Option.toList_none, vp_nar_int, znar_b, zb_0, ne_eq, Bool.not_eq_false, Classical.not_not, nI_1, sh1_def, true_and, and_true, Nat.reduceAdd, Nat.reduceSub, Nat.reduceLT, Nat.reduceLeDiff, Value.category, Nat.zero_add, Nat.add_zero]
    exact ⟨fun h9 => absurd h9 (by decide), fun _ => hk⟩
  · have hb' : fOk x (nI q) = true := hb
    rw [hb'] at hk
    obtain ⟨t, ht, rfl⟩ := (fOk_n (by omega)).mp hb'
    rw [tn_nI (by omega)] at hk
    obtain ⟨μ', hμ⟩ : ∃ μ', μ' = vThr μ 0 := ⟨_, rfl⟩
    have hI2 : mInw μ' n m q k d := by rw [hμ]; exact hI
    have hn2 : tn (mTg μ') = n := by rw [hI2.1.1]; exact tn_nI (by omega)
    have hq3 : mRq μ' = nI q := hI2.1.2.2.2.2.1
    have hq2 : tn (mRq μ') = q := by rw [hq3]; exact tn_nI (by omega)
    have hq' : μ'.2.2.2.2.2.2.2.2.2.2.1 = nI q := hq3
    have hk2 : Kn (some (.int (if gCo μ' (tn (mTg μ')) t then nI (gCl μ' (tn (mTg μ')) t (tn (mRq μ'))) else 0))) (pM μ' f) := by rw [hμ]; exact hk
    rw [hn2, hq2] at hk2
    clear hk
    simp only [bX6_clashes_107, bX6_clashes_99, bX6_clashes_98, bX6_clashes_94, bX6_clashes_66, bX6_clashes_65, bX6_clashes_33, bX6_clashes_14, bX6_clashes_0, pM_0, pM_1, pM_2, pM_3, pM_4, pM_5, pM_6, pM_7, pM_8, pM_9, pM_10, pM_11, pM_12, pM_13, pM_14, o_iload, o_aload, o_ic, o_lc, o_istore, o_astore, o_iinc, o_bin, o_idiv, o_ineg, o_i2c, o_i2l, o_lcmp, o_if1, o_if2, o_dup, o_dup2, o_getf, o_puti, o_ald, o_iast, o_cast, o_lald, o_last, o_mmin, o_mabs, o_ret, o_vret, o_throw, o_lsw01, o_callS0, o_callS1, o_callS2, o_callS3, o_callS4, o_callS5, o_callV0, o_callV1, o_callV2, o_callV3, o_callV4, o_callV5, zcall_no, zok_nil, zok_ref, zok_int, zE, List.map_cons, List.map_nil, List.length_cons, List.length_nil, List.replicate_succ, List.replicate_zero, List.cons_append, List.nil_append, List.append_nil, List.getElem?_cons_zero, List.getElem?_cons_succ, List.set_cons_zero, List.set_cons_succ, Option.toList_some, Option.toList_none, vp_nar_int, znar_b, zb_0, ne_eq, Bool.not_eq_false, Classical.not_not, nI_1, sh1_def, true_and, and_true, Nat.reduceAdd, Nat.reduceSub, Nat.reduceLT, Nat.reduceLeDiff, Value.category, Nat.zero_add, Nat.add_zero]
    rw [← hμ]
    refine ⟨fun _ => ⟨μ', f, n, m, q, k, d, t, rfl, rfl, hI2, ht, ?_⟩, fun h9 => absurd h9 (by decide)⟩
    have loop : gCo μ' n t = true → ∀ (r i : Nat) (w : Option Value), i + r = q → A 33 [some (.ref 29), some (.int (nI t)), some (.int (nI (gCl μ' n t i))), some (.int (zb (gCo μ' n t))), some (.int (nI i)), w] [] (pM μ' f) := by
      intro hg r
      rw [if_pos hg] at hk2
      induction r with
      | zero =>
        intro i w hi
        apply h33
        have hi9 : i = q := by omega
        subst hi9
        simp only [bX6_clashes_107, bX6_clashes_99, bX6_clashes_98, bX6_clashes_94, bX6_clashes_66, bX6_clashes_65, bX6_clashes_33, bX6_clashes_14, bX6_clashes_0, pM_0, pM_1, pM_2, pM_3, pM_4, pM_5, pM_6, pM_7, pM_8, pM_9, pM_10, pM_11, pM_12, pM_13, pM_14, hq', o_iload, o_aload, o_ic, o_lc, o_istore, o_astore, o_iinc, o_bin, o_idiv, o_ineg, o_i2c, o_i2l, o_lcmp, o_if1, o_if2, o_dup, o_dup2, o_getf, o_puti, o_ald, o_iast, o_cast, o_lald, o_last, o_mmin, o_mabs, o_ret, o_vret, o_throw, o_lsw01, o_callS0, o_callS1, o_callS2, o_callS3, o_callS4, o_callS5, o_callV0, o_callV1, o_callV2, o_callV3, o_callV4, o_callV5, zcall_no, zok_nil, zok_ref, zok_int, zE, List.map_cons, List.map_nil, List.length_cons, List.length_nil, List.replicate_succ, List.replicate_zero, List.cons_append, List.nil_append, List.append_nil, List.getElem?_cons_zero, List.getElem?_cons_succ, List.set_cons_zero, List.set_cons_succ, Option.toList_some, Option.toList_none, vp_nar_int, znar_b, zb_0, ne_eq, Bool.not_eq_false, Classical.not_not, nI_1, sh1_def, true_and, and_true, Nat.reduceAdd, Nat.reduceSub, Nat.reduceLT, Nat.reduceLeDiff, Value.category, Nat.zero_add, Nat.add_zero]
        exact ⟨fun _ => hk2, fun hc => absurd (Int32.le_refl _) hc⟩
      | succ r ih =>
        intro i w hi
        have stp : gCl μ' n t (i + 1) = gCl μ' n t i + (if decide (i ≠ t) && gCo μ' n i && (!gBd μ' n t i || !gBd μ' n i t) then 1 else 0) := rfl
        have on0 : ∀ w, (decide (i ≠ t) && gCo μ' n i && (!gBd μ' n t i || !gBd μ' n i t)) = false → A 33 [some (.ref 29), some (.int (nI t)), some (.int (nI (gCl μ' n t i) + 0)), some (.int (zb (gCo μ' n t))), some (.int (nI (i + 1))), w] [] (pM μ' f) := fun w e => by
          have ih' := ih (i + 1) w (by omega)
          rw [stp, e, if_neg (by decide)] at ih'
          rw [show nI (gCl μ' n t i) + 0 = nI (gCl μ' n t i + 0) from by rw [show (0 : Int32) = nI 0 from rfl, nI_add]]
          exact ih'
        have on1 : ∀ w, (decide (i ≠ t) && gCo μ' n i && (!gBd μ' n t i || !gBd μ' n i t)) = true → A 33 [some (.ref 29), some (.int (nI t)), some (.int (nI (gCl μ' n t i + 1))), some (.int (zb (gCo μ' n t))), some (.int (nI (i + 1))), w] [] (pM μ' f) := fun w e => by
          have ih' := ih (i + 1) w (by omega)
          rw [stp, e, if_pos rfl] at ih'
          exact ih'
        apply h33
        simp only [bX6_clashes_107, bX6_clashes_99, bX6_clashes_98, bX6_clashes_94, bX6_clashes_66, bX6_clashes_65, bX6_clashes_33, bX6_clashes_14, bX6_clashes_0, pM_0, pM_1, pM_2, pM_3, pM_4, pM_5, pM_6, pM_7, pM_8, pM_9, pM_10, pM_11, pM_12, pM_13, pM_14, hq', o_iload, o_aload, o_ic, o_lc, o_istore, o_astore, o_iinc, o_bin, o_idiv, o_ineg, o_i2c, o_i2l, o_lcmp, o_if1, o_if2, o_dup, o_dup2, o_getf, o_puti, o_ald, o_iast, o_cast, o_lald, o_last, o_mmin, o_mabs, o_ret, o_vret, o_throw, o_lsw01, o_callS0, o_callS1, o_callS2, o_callS3, o_callS4, o_callS5, o_callV0, o_callV1, o_callV2, o_callV3, o_callV4, o_callV5, zcall_no, zok_nil, zok_ref, zok_int, zE, List.map_cons, List.map_nil, List.length_cons, List.length_nil, List.replicate_succ, List.replicate_zero, List.cons_append, List.nil_append, List.append_nil, List.getElem?_cons_zero, List.getElem?_cons_succ, List.set_cons_zero, List.set_cons_succ, Option.toList_some, Option.toList_none, vp_nar_int, znar_b, zb_0, ne_eq, Bool.not_eq_false, Classical.not_not, nI_1, sh1_def, true_and, and_true, Nat.reduceAdd, Nat.reduceSub, Nat.reduceLT, Nat.reduceLeDiff, Value.category, Nat.zero_add, Nat.add_zero]
        refine ⟨fun hc => absurd (nI_le_le (by omega) (by omega) hc) (by omega), fun _ => ⟨fun h1 => absurd (h1.symm.trans hg) (by decide), fun _ => ⟨fun h1 => ⟨fun _ => ?_, fun q => absurd q (by decide)⟩, fun h1 => ⟨μ', f, n, m, q, k, d, i, rfl, rfl, hI2, by omega, ?_⟩⟩⟩⟩
        · have e : i = t := nI_ne (by omega) (by omega) h1
          exact on0 _ (by simp [e])
        · have hne : i ≠ t := fun e => h1 (by rw [e])
          simp only [bX6_clashes_107, bX6_clashes_99, bX6_clashes_98, bX6_clashes_94, bX6_clashes_66, bX6_clashes_65, bX6_clashes_33, bX6_clashes_14, bX6_clashes_0, pM_0, pM_1, pM_2, pM_3, pM_4, pM_5, pM_6, pM_7, pM_8, pM_9, pM_10, pM_11, pM_12, pM_13, pM_14, hq', o_iload, o_aload, o_ic, o_lc, o_istore, o_astore, o_iinc, o_bin, o_idiv, o_ineg, o_i2c, o_i2l, o_lcmp, o_if1, o_if2, o_dup, o_dup2, o_getf, o_puti, o_ald, o_iast, o_cast, o_lald, o_last, o_mmin, o_mabs, o_ret, o_vret, o_throw, o_lsw01, o_callS0, o_callS1, o_callS2, o_callS3, o_callS4, o_callS5, o_callV0, o_callV1, o_callV2, o_callV3, o_callV4, o_callV5, zcall_no, zok_nil, zok_ref, zok_int, zE, List.map_cons, List.map_nil, List.length_cons, List.length_nil, List.replicate_succ, List.replicate_zero, List.cons_append, List.nil_append, List.append_nil, List.getElem?_cons_zero, List.getElem?_cons_succ, List.set_cons_zero, List.set_cons_succ, Option.toList_some, Option.toList_none, vp_nar_int, znar_b, zb_0, ne_eq, Bool.not_eq_false, Classical.not_not, nI_1, sh1_def, true_and, and_true, Nat.reduceAdd, Nat.reduceSub, Nat.reduceLT, Nat.reduceLeDiff, Value.category, Nat.zero_add, Nat.add_zero]
          refine ⟨fun h2 => ⟨fun _ => ?_, fun q => absurd q (by decide)⟩, fun h2 => ⟨fun q => absurd q (by decide), fun _ => ⟨μ', f, n, m, q, k, d, t, i, rfl, rfl, hI2, ht, by omega, h2, ?_⟩⟩⟩
          · exact on0 _ (by rw [show gCo μ' n i = false from h2, Bool.and_false, Bool.false_and])
          · simp only [bX6_clashes_107, bX6_clashes_99, bX6_clashes_98, bX6_clashes_94, bX6_clashes_66, bX6_clashes_65, bX6_clashes_33, bX6_clashes_14, bX6_clashes_0, pM_0, pM_1, pM_2, pM_3, pM_4, pM_5, pM_6, pM_7, pM_8, pM_9, pM_10, pM_11, pM_12, pM_13, pM_14, hq', o_iload, o_aload, o_ic, o_lc, o_istore, o_astore, o_iinc, o_bin, o_idiv, o_ineg, o_i2c, o_i2l, o_lcmp, o_if1, o_if2, o_dup, o_dup2, o_getf, o_puti, o_ald, o_iast, o_cast, o_lald, o_last, o_mmin, o_mabs, o_ret, o_vret, o_throw, o_lsw01, o_callS0, o_callS1, o_callS2, o_callS3, o_callS4, o_callS5, o_callV0, o_callV1, o_callV2, o_callV3, o_callV4, o_callV5, zcall_no, zok_nil, zok_ref, zok_int, zE, List.map_cons, List.map_nil, List.length_cons, List.length_nil, List.replicate_succ, List.replicate_zero, List.cons_append, List.nil_append, List.append_nil, List.getElem?_cons_zero, List.getElem?_cons_succ, List.set_cons_zero, List.set_cons_succ, Option.toList_some, Option.toList_none, vp_nar_int, znar_b, zb_0, ne_eq, Bool.not_eq_false, Classical.not_not, nI_1, sh1_def, true_and, and_true, Nat.reduceAdd, Nat.reduceSub, Nat.reduceLT, Nat.reduceLeDiff, Value.category, Nat.zero_add, Nat.add_zero]
            refine ⟨fun h3 => ?_, fun h3 => ⟨μ', f, n, m, q, k, d, i, t, rfl, rfl, hI2, by omega, ht, hg, ?_⟩⟩
            · exact on1 _ (by simp [hne, h2, h3])
            · simp only [bX6_clashes_107, bX6_clashes_99, bX6_clashes_98, bX6_clashes_94, bX6_clashes_66, bX6_clashes_65, bX6_clashes_33, bX6_clashes_14, bX6_clashes_0, pM_0, pM_1, pM_2, pM_3, pM_4, pM_5, pM_6, pM_7, pM_8, pM_9, pM_10, pM_11, pM_12, pM_13, pM_14, hq', o_iload, o_aload, o_ic, o_lc, o_istore, o_astore, o_iinc, o_bin, o_idiv, o_ineg, o_i2c, o_i2l, o_lcmp, o_if1, o_if2, o_dup, o_dup2, o_getf, o_puti, o_ald, o_iast, o_cast, o_lald, o_last, o_mmin, o_mabs, o_ret, o_vret, o_throw, o_lsw01, o_callS0, o_callS1, o_callS2, o_callS3, o_callS4, o_callS5, o_callV0, o_callV1, o_callV2, o_callV3, o_callV4, o_callV5, zcall_no, zok_nil, zok_ref, zok_int, zE, List.map_cons, List.map_nil, List.length_cons, List.length_nil, List.replicate_succ, List.replicate_zero, List.cons_append, List.nil_append, List.append_nil, List.getElem?_cons_zero, List.getElem?_cons_succ, List.set_cons_zero, List.set_cons_succ, Option.toList_some, Option.toList_none, vp_nar_int, znar_b, zb_0, ne_eq, Bool.not_eq_false, Classical.not_not, nI_1, sh1_def, true_and, and_true, Nat.reduceAdd, Nat.reduceSub, Nat.reduceLT, Nat.reduceLeDiff, Value.category, Nat.zero_add, Nat.add_zero]
              refine ⟨fun h4 => ?_, fun h4 => ?_⟩
              · exact on0 _ (by simp [h3, h4])
              · exact on1 _ (by simp [hne, h2, h4])
    simp only [bX6_clashes_107, bX6_clashes_99, bX6_clashes_98, bX6_clashes_94, bX6_clashes_66, bX6_clashes_65, bX6_clashes_33, bX6_clashes_14, bX6_clashes_0, pM_0, pM_1, pM_2, pM_3, pM_4, pM_5, pM_6, pM_7, pM_8, pM_9, pM_10, pM_11, pM_12, pM_13, pM_14, o_iload, o_aload, o_ic, o_lc, o_istore, o_astore, o_iinc, o_bin, o_idiv, o_ineg, o_i2c, o_i2l, o_lcmp, o_if1, o_if2, o_dup, o_dup2, o_getf, o_puti, o_ald, o_iast, o_cast, o_lald, o_last, o_mmin, o_mabs, o_ret, o_vret, o_throw, o_lsw01, o_callS0, o_callS1, o_callS2, o_callS3, o_callS4, o_callS5, o_callV0, o_callV1, o_callV2, o_callV3, o_callV4, o_callV5, zcall_no, zok_nil, zok_ref, zok_int, zE, List.map_cons, List.map_nil, List.length_cons, List.length_nil, List.replicate_succ, List.replicate_zero, List.cons_append, List.nil_append, List.append_nil, List.getElem?_cons_zero, List.getElem?_cons_succ, List.set_cons_zero, List.set_cons_succ, Option.toList_some, Option.toList_none, vp_nar_int, znar_b, zb_0, ne_eq, Bool.not_eq_false, Classical.not_not, nI_1, sh1_def, true_and, and_true, Nat.reduceAdd, Nat.reduceSub, Nat.reduceLT, Nat.reduceLeDiff, Value.category, Nat.zero_add, Nat.add_zero]
    cases hg : gCo μ' n t with
    | true =>
      have := loop hg q 0 none (by omega)
      rw [hg] at this
      exact this
    | false =>
      rw [hg, if_neg (by decide)] at hk2
      apply h33
      simp only [bX6_clashes_107, bX6_clashes_99, bX6_clashes_98, bX6_clashes_94, bX6_clashes_66, bX6_clashes_65, bX6_clashes_33, bX6_clashes_14, bX6_clashes_0, pM_0, pM_1, pM_2, pM_3, pM_4, pM_5, pM_6, pM_7, pM_8, pM_9, pM_10, pM_11, pM_12, pM_13, pM_14, hq', o_iload, o_aload, o_ic, o_lc, o_istore, o_astore, o_iinc, o_bin, o_idiv, o_ineg, o_i2c, o_i2l, o_lcmp, o_if1, o_if2, o_dup, o_dup2, o_getf, o_puti, o_ald, o_iast, o_cast, o_lald, o_last, o_mmin, o_mabs, o_ret, o_vret, o_throw, o_lsw01, o_callS0, o_callS1, o_callS2, o_callS3, o_callS4, o_callS5, o_callV0, o_callV1, o_callV2, o_callV3, o_callV4, o_callV5, zcall_no, zok_nil, zok_ref, zok_int, zE, List.map_cons, List.map_nil, List.length_cons, List.length_nil, List.replicate_succ, List.replicate_zero, List.cons_append, List.nil_append, List.append_nil, List.getElem?_cons_zero, List.getElem?_cons_succ, List.set_cons_zero, List.set_cons_succ, Option.toList_some, Option.toList_none, vp_nar_int, znar_b, zb_0, ne_eq, Bool.not_eq_false, Classical.not_not, nI_1, sh1_def, true_and, and_true, Nat.reduceAdd, Nat.reduceSub, Nat.reduceLT, Nat.reduceLeDiff, Value.category, Nat.zero_add, Nat.add_zero]
      exact ⟨fun _ => hk2, fun _ => ⟨fun _ => hk2, fun h9 => absurd h9 (by decide)⟩⟩)
set_option maxHeartbeats 1000000 in
set_option maxRecDepth 20000 in
theorem mX6_undo (hlt : l.stackTraces = false) : Sem l z0 b N D cA yX6_undo cX6_undo 2 (some .int) 1 22 1 zno tX6_undo := uX6_undo hlt (mX6_holds hlt) (mX6_has hlt) (mX6_many hlt) (fun M a h Kn Kx hok hN A h33 => by
  obtain ⟨μ, f, n, m, q, k, d, rfl, rfl, hI, hk⟩ := hN
  have hI' := hI
  obtain ⟨⟨hn, hn24, hm, hm20, hq, hq40, hkp, hk20, hd, hd8, hch1, hch2, hln, hac, hrq⟩, hrk⟩ := hI'
  have hkp' : μ.2.2.2.2.2.2.2.2.2.2.2.2.2.2.2.2.2.1 = nI k := hkp
  unfold gUndo gH at hk
  rw [hkp] at hk
  simp only [bX6_undo_83, bX6_undo_33, bX6_undo_13, bX6_undo_0, pM_0, pM_1, pM_2, pM_3, pM_4, pM_5, pM_6, pM_7, pM_8, pM_9, pM_10, pM_11, pM_12, pM_13, pM_14, hkp', o_iload, o_aload, o_ic, o_lc, o_istore, o_astore, o_iinc, o_bin, o_idiv, o_ineg, o_i2c, o_i2l, o_lcmp, o_if1, o_if2, o_dup, o_dup2, o_getf, o_puti, o_ald, o_iast, o_cast, o_lald, o_last, o_mmin, o_mabs, o_ret, o_vret, o_throw, o_lsw01, o_callS0, o_callS1, o_callS2, o_callS3, o_callS4, o_callS5, o_callV0, o_callV1, o_callV2, o_callV3, o_callV4, o_callV5, zcall_no, zok_nil, zok_ref, zok_int, zE, List.map_cons, List.map_nil, List.length_cons, List.length_nil, List.replicate_succ, List.replicate_zero, List.cons_append, List.nil_append, List.append_nil, List.getElem?_cons_zero, List.getElem?_cons_succ, List.set_cons_zero, List.set_cons_succ, Option.toList_some, Option.toList_none, vp_nar_int, znar_b, zb_0, ne_eq, Bool.not_eq_false, Classical.not_not, nI_1, sh1_def, true_and, and_true, Nat.reduceAdd, Nat.reduceSub, Nat.reduceLT, Nat.reduceLeDiff, Value.category, Nat.zero_add, Nat.add_zero]
  refine ⟨fun h1 => ⟨μ, f, 0, rfl, rfl, ?_⟩, fun h1 => ⟨μ, f, 1, rfl, rfl, ?_⟩⟩
  · rw [if_neg h1, if_pos rfl] at hk
    obtain ⟨j, rfl⟩ : ∃ j, k = j + 1 := by
      cases k with
      | zero => exact absurd rfl h1
      | succ j => exact ⟨j, rfl⟩
    have hcj := nI_clamp (show j < 2 ^ 31 by omega)
    have e0 : tn (mKp μ) - 1 = j := by rw [hkp, tn_nI (by omega)]; omega
    have hk2 : Kn (some (.int (nI (fb_ct (bt (mCh μ (tn (mKp μ) - 1))) 32)))) (pM (vKp (vSe (vThr μ 0) (gUnS (vThr μ 0) (tn (mKp μ) - 1) 20)) (mKp μ - 1) (mCh μ) (mBe μ)) f) := hk
    rw [e0, hkp, nI_pred] at hk2
    have loop : ∀ (r i : Nat), i + r = 20 → A 33 [some (.ref 29), some (.int (nI i))] [] (pM (vKp (vSe (vThr μ 0) (gUnS (vThr μ 0) j i)) (nI j) (mCh μ) (mBe μ)) f) := by
      intro r
      induction r with
      | zero =>
        intro i hi
        apply h33
        have hi9 : i = 20 := by omega
        subst hi9
        simp only [bX6_undo_83, bX6_undo_33, bX6_undo_13, bX6_undo_0, pM_0, pM_1, pM_2, pM_3, pM_4, pM_5, pM_6, pM_7, pM_8, pM_9, pM_10, pM_11, pM_12, pM_13, pM_14, vKp, vSe, vThr, hcj, o_iload, o_aload, o_ic, o_lc, o_istore, o_astore, o_iinc, o_bin, o_idiv, o_ineg, o_i2c, o_i2l, o_lcmp, o_if1, o_if2, o_dup, o_dup2, o_getf, o_puti, o_ald, o_iast, o_cast, o_lald, o_last, o_mmin, o_mabs, o_ret, o_vret, o_throw, o_lsw01, o_callS0, o_callS1, o_callS2, o_callS3, o_callS4, o_callS5, o_callV0, o_callV1, o_callV2, o_callV3, o_callV4, o_callV5, zcall_no, zok_nil, zok_ref, zok_int, zE, List.map_cons, List.map_nil, List.length_cons, List.length_nil, List.replicate_succ, List.replicate_zero, List.cons_append, List.nil_append, List.append_nil, List.getElem?_cons_zero, List.getElem?_cons_succ, List.set_cons_zero, List.set_cons_succ, Option.toList_some, Option.toList_none, vp_nar_int, znar_b, zb_0, ne_eq, Bool.not_eq_false, Classical.not_not, nI_1, sh1_def, true_and, and_true, Nat.reduceAdd, Nat.reduceSub, Nat.reduceLT, Nat.reduceLeDiff, Value.category, Nat.zero_add, Nat.add_zero]
        refine ⟨fun _ => ⟨vpin (by omega) (by omega), _, rfl, ?_⟩, fun hc => absurd (Int32.le_refl _) hc⟩
        simp only [bX6_undo_83, bX6_undo_33, bX6_undo_13, bX6_undo_0, pM_0, pM_1, pM_2, pM_3, pM_4, pM_5, pM_6, pM_7, pM_8, pM_9, pM_10, pM_11, pM_12, pM_13, pM_14, o_iload, o_aload, o_ic, o_lc, o_istore, o_astore, o_iinc, o_bin, o_idiv, o_ineg, o_i2c, o_i2l, o_lcmp, o_if1, o_if2, o_dup, o_dup2, o_getf, o_puti, o_ald, o_iast, o_cast, o_lald, o_last, o_mmin, o_mabs, o_ret, o_vret, o_throw, o_lsw01, o_callS0, o_callS1, o_callS2, o_callS3, o_callS4, o_callS5, o_callV0, o_callV1, o_callV2, o_callV3, o_callV4, o_callV5, zcall_no, zok_nil, zok_ref, zok_int, zE, List.map_cons, List.map_nil, List.length_cons, List.length_nil, List.replicate_succ, List.replicate_zero, List.cons_append, List.nil_append, List.append_nil, List.getElem?_cons_zero, List.getElem?_cons_succ, List.set_cons_zero, List.set_cons_succ, Option.toList_some, Option.toList_none, vp_nar_int, znar_b, zb_0, ne_eq, Bool.not_eq_false, Classical.not_not, nI_1, sh1_def, true_and, and_true, Nat.reduceAdd, Nat.reduceSub, Nat.reduceLT, Nat.reduceLeDiff, Value.category, Nat.zero_add, Nat.add_zero]
        exact hk2
      | succ r ih =>
        intro i hi
        apply h33
        have hci := nI_clamp (show i < 2 ^ 31 by omega)
        have hcb := nI_clamp (show j * 20 + i < 2 ^ 31 by omega)
        have hm : (20 : Int32) * nI j + nI i = nI (j * 20 + i) := by rw [Int32.mul_comm]; exact nI_mul20 j i
        have ih' := ih (i + 1) (by omega)
        have step : ∀ v, (if bt (mCh μ j) i then mBe μ (20 * j + i) else mSe μ i) = v → A 33 [some (.ref 29), some (.int (nI (i + 1)))] [] (pM (vKp (vSe (vThr μ 0) (upd (gUnS (vThr μ 0) j i) i v)) (nI j) (mCh μ) (mBe μ)) f) := fun v e => by
          have e2 : upd (gUnS (vThr μ 0) j i) i v = gUnS (vThr μ 0) j (i + 1) := by
            funext z
            rcases Nat.lt_trichotomy z i with q | q | q
            · simp [upd, gUnS, q, show ¬ z = i by omega, show z < i + 1 by omega]
            · subst q; rw [← e]; simp [upd, gUnS]; rfl
            · simp [upd, gUnS, show ¬ z = i by omega, show ¬ z < i by omega, show ¬ z < i + 1 by omega]
          rw [e2]
          exact ih'
        simp only [bX6_undo_83, bX6_undo_33, bX6_undo_13, bX6_undo_0, pM_0, pM_1, pM_2, pM_3, pM_4, pM_5, pM_6, pM_7, pM_8, pM_9, pM_10, pM_11, pM_12, pM_13, pM_14, vKp, vSe, vThr, hcj, hci, pM_s9, o_iload, o_aload, o_ic, o_lc, o_istore, o_astore, o_iinc, o_bin, o_idiv, o_ineg, o_i2c, o_i2l, o_lcmp, o_if1, o_if2, o_dup, o_dup2, o_getf, o_puti, o_ald, o_iast, o_cast, o_lald, o_last, o_mmin, o_mabs, o_ret, o_vret, o_throw, o_lsw01, o_callS0, o_callS1, o_callS2, o_callS3, o_callS4, o_callS5, o_callV0, o_callV1, o_callV2, o_callV3, o_callV4, o_callV5, zcall_no, zok_nil, zok_ref, zok_int, zE, List.map_cons, List.map_nil, List.length_cons, List.length_nil, List.replicate_succ, List.replicate_zero, List.cons_append, List.nil_append, List.append_nil, List.getElem?_cons_zero, List.getElem?_cons_succ, List.set_cons_zero, List.set_cons_succ, Option.toList_some, Option.toList_none, vp_nar_int, znar_b, zb_0, ne_eq, Bool.not_eq_false, Classical.not_not, nI_1, sh1_def, true_and, and_true, Nat.reduceAdd, Nat.reduceSub, Nat.reduceLT, Nat.reduceLeDiff, Value.category, Nat.zero_add, Nat.add_zero]
        refine ⟨fun hc => absurd (nI_le_le (i := i) (n := 20) (by omega) (by omega) hc) (by omega), fun _ => ⟨vpin (by omega) (by omega), _, i, rfl, by omega, ?_⟩⟩
        simp only [bX6_undo_83, bX6_undo_33, bX6_undo_13, bX6_undo_0, pM_0, pM_1, pM_2, pM_3, pM_4, pM_5, pM_6, pM_7, pM_8, pM_9, pM_10, pM_11, pM_12, pM_13, pM_14, vKp, vSe, vThr, hcj, hci, pM_s9, hm, hcb, o_iload, o_aload, o_ic, o_lc, o_istore, o_astore, o_iinc, o_bin, o_idiv, o_ineg, o_i2c, o_i2l, o_lcmp, o_if1, o_if2, o_dup, o_dup2, o_getf, o_puti, o_ald, o_iast, o_cast, o_lald, o_last, o_mmin, o_mabs, o_ret, o_vret, o_throw, o_lsw01, o_callS0, o_callS1, o_callS2, o_callS3, o_callS4, o_callS5, o_callV0, o_callV1, o_callV2, o_callV3, o_callV4, o_callV5, zcall_no, zok_nil, zok_ref, zok_int, zE, List.map_cons, List.map_nil, List.length_cons, List.length_nil, List.replicate_succ, List.replicate_zero, List.cons_append, List.nil_append, List.append_nil, List.getElem?_cons_zero, List.getElem?_cons_succ, List.set_cons_zero, List.set_cons_succ, Option.toList_some, Option.toList_none, vp_nar_int, znar_b, zb_0, ne_eq, Bool.not_eq_false, Classical.not_not, nI_1, sh1_def, true_and, and_true, Nat.reduceAdd, Nat.reduceSub, Nat.reduceLT, Nat.reduceLeDiff, Value.category, Nat.zero_add, Nat.add_zero]
        refine ⟨fun hb => ⟨vpin (by omega) (by omega), vpin (by omega) (by omega), step _ ?_⟩, fun hb => ⟨vpin (by omega) (by omega), vpin (by omega) (by omega), step _ ?_⟩⟩
        · rw [if_neg (by rw [show bt (mCh μ j) i = false from hb]; decide)]
          show mSe μ i = (if i < i then _ else mSe μ i)
          rw [if_neg (by omega)]
        · rw [if_pos (show bt (mCh μ j) i = true from hb), Nat.mul_comm]
    simp only [bX6_undo_83, bX6_undo_33, bX6_undo_13, bX6_undo_0, pM_0, pM_1, pM_2, pM_3, pM_4, pM_5, pM_6, pM_7, pM_8, pM_9, pM_10, pM_11, pM_12, pM_13, pM_14, pM_s17, vThr, hkp', nI_pred, o_iload, o_aload, o_ic, o_lc, o_istore, o_astore, o_iinc, o_bin, o_idiv, o_ineg, o_i2c, o_i2l, o_lcmp, o_if1, o_if2, o_dup, o_dup2, o_getf, o_puti, o_ald, o_iast, o_cast, o_lald, o_last, o_mmin, o_mabs, o_ret, o_vret, o_throw, o_lsw01, o_callS0, o_callS1, o_callS2, o_callS3, o_callS4, o_callS5, o_callV0, o_callV1, o_callV2, o_callV3, o_callV4, o_callV5, zcall_no, zok_nil, zok_ref, zok_int, zE, List.map_cons, List.map_nil, List.length_cons, List.length_nil, List.replicate_succ, List.replicate_zero, List.cons_append, List.nil_append, List.append_nil, List.getElem?_cons_zero, List.getElem?_cons_succ, List.set_cons_zero, List.set_cons_succ, Option.toList_some, Option.toList_none, vp_nar_int, znar_b, zb_0, ne_eq, Bool.not_eq_false, Classical.not_not, nI_1, sh1_def, true_and, and_true, Nat.reduceAdd, Nat.reduceSub, Nat.reduceLT, Nat.reduceLeDiff, Value.category, Nat.zero_add, Nat.add_zero]
    refine ⟨fun _ => ?_, fun h9 => absurd h9 (by decide)⟩
    have := loop 20 0 (by omega)
    rw [show gUnS (vThr μ 0) j 0 = mSe μ from funext fun z => by simp [gUnS]; rfl] at this
    exact this
  · rw [if_pos h1, if_neg (by decide)] at hk
    simp only [bX6_undo_83, bX6_undo_33, bX6_undo_13, bX6_undo_0, pM_0, pM_1, pM_2, pM_3, pM_4, pM_5, pM_6, pM_7, pM_8, pM_9, pM_10, pM_11, pM_12, pM_13, pM_14, o_iload, o_aload, o_ic, o_lc, o_istore, o_astore, o_iinc, o_bin, o_idiv, o_ineg, o_i2c, o_i2l, o_lcmp, o_if1, o_if2, o_dup, o_dup2, o_getf, o_puti, o_ald, o_iast, o_cast, o_lald, o_last, o_mmin, o_mabs, o_ret, o_vret, o_throw, o_lsw01, o_callS0, o_callS1, o_callS2, o_callS3, o_callS4, o_callS5, o_callV0, o_callV1, o_callV2, o_callV3, o_callV4, o_callV5, zcall_no, zok_nil, zok_ref, zok_int, zE, List.map_cons, List.map_nil, List.length_cons, List.length_nil, List.replicate_succ, List.replicate_zero, List.cons_append, List.nil_append, List.append_nil, List.getElem?_cons_zero, List.getElem?_cons_succ, List.set_cons_zero, List.set_cons_succ, Option.toList_some, Option.toList_none, vp_nar_int, znar_b, zb_0, ne_eq, Bool.not_eq_false, Classical.not_not, nI_1, sh1_def, true_and, and_true, Nat.reduceAdd, Nat.reduceSub, Nat.reduceLT, Nat.reduceLeDiff, Value.category, Nat.zero_add, Nat.add_zero]
    exact ⟨fun h9 => absurd h9 (by decide), fun _ => hk⟩)
end M11
