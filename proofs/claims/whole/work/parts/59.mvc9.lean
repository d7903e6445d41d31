section M10
variable {l : Launch} {z0 b N : Nat} {D : va_G} {cA : Nat → ClassId}
theorem gUs_thr {μ : zMS} {x : Int32} {n t : Nat} : ∀ i, gUs (vThr μ x) n t i = gUs μ n t i
  | 0 => rfl
  | i + 1 => by
    unfold gUs
    rw [gUs_thr i]
    rfl
set_option maxHeartbeats 1000000 in
set_option maxRecDepth 20000 in
theorem mX6_users (hlt : l.stackTraces = false) : Sem l z0 b N D cA yX6_users cX6_users 4 (some .int) 5 112 2 zno tX6_users := uX6_users hlt (mX6_isTag hlt) (mX6_holds hlt) (mX6_shownOf hlt) (mX6_has hlt) (fun M a h Kn Kx hok hN A h26 => by
  obtain ⟨μ, f, n, m, q, k, d, x, rfl, rfl, hI, hk⟩ := hN
  have hI' := hI
  obtain ⟨⟨hn, hn24, hm, hm20, hq, hq40, hkp, hk20, hd, hd8, hch1, hch2, hln, hac, hrq⟩, hrk⟩ := hI'
  have hm' : μ.2.2.2.2.2.2.2.2.1 = nI m := hm
  unfold gUsers gH gIs at hk
  rw [hn] at hk
  simp only [bX6_users_52, bX6_users_26, bX6_users_14, bX6_users_0, pM_0, pM_1, pM_2, pM_3, pM_4, pM_5, pM_6, pM_7, pM_8, pM_9, pM_10, pM_11, pM_12, pM_13, pM_14, o_iload, o_aload, o_ic, o_lc, o_istore, o_astore, o_iinc, o_bin, o_idiv, o_ineg, o_i2c, o_i2l, o_lcmp, o_if1, o_if2, o_dup, o_dup2, o_getf, o_puti, o_ald, o_iast, o_cast, o_lald, o_last, o_mmin, o_mabs, o_ret, o_vret, o_throw, o_lsw01, o_callS0, o_callS1, o_callS2, o_callS3, o_callS4, o_callS5, o_callV0, o_callV1, o_callV2, o_callV3, o_callV4, o_callV5, zcall_no, zok_nil, zok_ref, zok_int, zE, List.map_cons, List.map_nil, List.length_cons, List.length_nil, List.replicate_succ, List.replicate_zero, List.cons_append, List.nil_append, List.append_nil, List.getElem?_cons_zero, List.getElem?_cons_succ, List.set_cons_zero, List.set_cons_succ, Option.toList_some, Option.toList_none, vp_nar_int, znar_b, zb_0, ne_eq, Bool.not_eq_false, Classical.not_not, nI_1, sh1_def, true_and, and_true, Nat.reduceAdd, Nat.reduceSub, Nat.reduceLT, Nat.reduceLeDiff, Value.category, Nat.zero_add, Nat.add_zero]
  refine ⟨μ, f, n, x, rfl, rfl, hn, hn24, ?_⟩
  simp only [bX6_users_52, bX6_users_26, bX6_users_14, bX6_users_0, pM_0, pM_1, pM_2, pM_3, pM_4, pM_5, pM_6, pM_7, pM_8, pM_9, pM_10, pM_11, pM_12, pM_13, pM_14, o_iload, o_aload, o_ic, o_lc, o_istore, o_astore, o_iinc, o_bin, o_idiv, o_ineg, o_i2c, o_i2l, o_lcmp, o_if1, o_if2, o_dup, o_dup2, o_getf, o_puti, o_ald, o_iast, o_cast, o_lald, o_last, o_mmin, o_mabs, o_ret, o_vret, o_throw, o_lsw01, o_callS0, o_callS1, o_callS2, o_callS3, o_callS4, o_callS5, o_callV0, o_callV1, o_callV2, o_callV3, o_callV4, o_callV5, zcall_no, zok_nil, zok_ref, zok_int, zE, List.map_cons, List.map_nil, List.length_cons, List.length_nil, List.replicate_succ, List.replicate_zero, List.cons_append, List.nil_append, List.append_nil, List.getElem?_cons_zero, List.getElem?_cons_succ, List.set_cons_zero, List.set_cons_succ, Option.toList_some, Option.toList_none, vp_nar_int, znar_b, zb_0, ne_eq, Bool.not_eq_false, Classical.not_not, nI_1, sh1_def, true_and, and_true, Nat.reduceAdd, Nat.reduceSub, Nat.reduceLT, Nat.reduceLeDiff, Value.category, Nat.zero_add, Nat.add_zero]
  refine ⟨fun hb => ⟨μ, f, 1, rfl, rfl, ?_⟩, fun hb => ⟨μ, f, 0, rfl, rfl, ?_⟩⟩
  · rw [show fOk x (nI n) = false from hb] at hk
    simp only [bX6_users_52, bX6_users_26, bX6_users_14, bX6_users_0, pM_0, pM_1, pM_2, pM_3, pM_4, pM_5, pM_6, pM_7, pM_8, pM_9, pM_10, pM_11, pM_12, pM_13, pM_14, o_iload, o_aload, o_ic, o_lc, o_istore, o_astore, o_iinc, o_bin, o_idiv, o_ineg, o_i2c, o_i2l, o_lcmp, o_if1, o_if2, o_dup, o_dup2, o_getf, o_puti, o_ald, o_iast, o_cast, o_lald, o_last, o_mmin, o_mabs, o_ret, o_vret, o_throw, o_lsw01, o_callS0, o_callS1, o_callS2, o_callS3, o_callS4, o_callS5, o_callV0, o_callV1, o_callV2, o_callV3, o_callV4, o_callV5, zcall_no, zok_nil, zok_ref, zok_int, zE, List.map_cons, List.map_nil, List.length_cons, List.length_nil, List.replicate_succ, List.replicate_zero, List.cons_append, List.nil_append, List.append_nil, List.getElem?_cons_zero, List.getElem?_cons_succ, List.set_cons_zero, List.set_cons_succ, Option.toList_some, Option.toList_none, vp_nar_int, znar_b, zb_0, ne_eq, Bool.not_eq_false, Classical.not_not, nI_1, sh1_def, true_and, and_true, Nat.reduceAdd, Nat.reduceSub, Nat.reduceLT, Nat.reduceLeDiff, Value.category, Nat.zero_add, Nat.add_zero]
    exact ⟨fun h9 => absurd h9 (by decide), fun _ => hk⟩
  · have hb' : fOk x (nI n) = true := hb
    rw [hb'] at hk
    obtain ⟨t, ht, rfl⟩ := (fOk_n (by omega)).mp hb'
    rw [tn_nI (by omega)] at hk
    have hk' : Kn (some (.int (nI (gUs μ n t m)))) (pM (vThr μ 0) f) := by
      have e : tn (mTg (vThr μ 0)) = n := by show tn (mTg μ) = n; rw [hn]; exact tn_nI (by omega)
      have hk2 : Kn (some (.int (nI (gUs (vThr μ 0) (tn (mTg (vThr μ 0))) t (tn (mTh (vThr μ 0))))))) (pM (vThr μ 0) f) := hk
      rw [e] at hk2
      have e2 : tn (mTh (vThr μ 0)) = m := by show tn (mTh μ) = m; rw [hm]; exact tn_nI (by omega)
      rw [e2] at hk2
      rw [gUs_thr] at hk2
      exact hk2
    have loop : ∀ (r i : Nat), i + r = m → A 26 [some (.ref 29), some (.int (nI t)), some (.int (nI (gUs μ n t i))), some (.int (nI i))] [] (pM (vThr μ 0) f) := by
      intro r
      induction r with
      | zero =>
        intro i hi
        apply h26
        have hi9 : i = m := by omega
        subst hi9
        simp only [bX6_users_52, bX6_users_26, bX6_users_14, bX6_users_0, pM_0, pM_1, pM_2, pM_3, pM_4, pM_5, pM_6, pM_7, pM_8, pM_9, pM_10, pM_11, pM_12, pM_13, pM_14, vThr, hm', o_iload, o_aload, o_ic, o_lc, o_istore, o_astore, o_iinc, o_bin, o_idiv, o_ineg, o_i2c, o_i2l, o_lcmp, o_if1, o_if2, o_dup, o_dup2, o_getf, o_puti, o_ald, o_iast, o_cast, o_lald, o_last, o_mmin, o_mabs, o_ret, o_vret, o_throw, o_lsw01, o_callS0, o_callS1, o_callS2, o_callS3, o_callS4, o_callS5, o_callV0, o_callV1, o_callV2, o_callV3, o_callV4, o_callV5, zcall_no, zok_nil, zok_ref, zok_int, zE, List.map_cons, List.map_nil, List.length_cons, List.length_nil, List.replicate_succ, List.replicate_zero, List.cons_append, List.nil_append, List.append_nil, List.getElem?_cons_zero, List.getElem?_cons_succ, List.set_cons_zero, List.set_cons_succ, Option.toList_some, Option.toList_none, vp_nar_int, znar_b, zb_0, ne_eq, Bool.not_eq_false, Classical.not_not, nI_1, sh1_def, true_and, and_true, Nat.reduceAdd, Nat.reduceSub, Nat.reduceLT, Nat.reduceLeDiff, Value.category, Nat.zero_add, Nat.add_zero]
        exact ⟨fun _ => hk', fun hc => absurd (Int32.le_refl _) hc⟩
      | succ r ih =>
        intro i hi
        apply h26
        have ih' := ih (i + 1) (by omega)
        simp only [bX6_users_52, bX6_users_26, bX6_users_14, bX6_users_0, pM_0, pM_1, pM_2, pM_3, pM_4, pM_5, pM_6, pM_7, pM_8, pM_9, pM_10, pM_11, pM_12, pM_13, pM_14, vThr, hm', o_iload, o_aload, o_ic, o_lc, o_istore, o_astore, o_iinc, o_bin, o_idiv, o_ineg, o_i2c, o_i2l, o_lcmp, o_if1, o_if2, o_dup, o_dup2, o_getf, o_puti, o_ald, o_iast, o_cast, o_lald, o_last, o_mmin, o_mabs, o_ret, o_vret, o_throw, o_lsw01, o_callS0, o_callS1, o_callS2, o_callS3, o_callS4, o_callS5, o_callV0, o_callV1, o_callV2, o_callV3, o_callV4, o_callV5, zcall_no, zok_nil, zok_ref, zok_int, zE, List.map_cons, List.map_nil, List.length_cons, List.length_nil, List.replicate_succ, List.replicate_zero, List.cons_append, List.nil_append, List.append_nil, List.getElem?_cons_zero, List.getElem?_cons_succ, List.set_cons_zero, List.set_cons_succ, Option.toList_some, Option.toList_none, vp_nar_int, znar_b, zb_0, ne_eq, Bool.not_eq_false, Classical.not_not, nI_1, sh1_def, true_and, and_true, Nat.reduceAdd, Nat.reduceSub, Nat.reduceLT, Nat.reduceLeDiff, Value.category, Nat.zero_add, Nat.add_zero]
        refine ⟨fun hc => absurd (nI_le_le (by omega) (by omega) hc) (by omega), fun _ => ⟨_, f, n, i, rfl, rfl, ⟨hn, hn24, hac⟩, by omega, ?_⟩⟩
        simp only [bX6_users_52, bX6_users_26, bX6_users_14, bX6_users_0, pM_0, pM_1, pM_2, pM_3, pM_4, pM_5, pM_6, pM_7, pM_8, pM_9, pM_10, pM_11, pM_12, pM_13, pM_14, vThr, hm', o_iload, o_aload, o_ic, o_lc, o_istore, o_astore, o_iinc, o_bin, o_idiv, o_ineg, o_i2c, o_i2l, o_lcmp, o_if1, o_if2, o_dup, o_dup2, o_getf, o_puti, o_ald, o_iast, o_cast, o_lald, o_last, o_mmin, o_mabs, o_ret, o_vret, o_throw, o_lsw01, o_callS0, o_callS1, o_callS2, o_callS3, o_callS4, o_callS5, o_callV0, o_callV1, o_callV2, o_callV3, o_callV4, o_callV5, zcall_no, zok_nil, zok_ref, zok_int, zE, List.map_cons, List.map_nil, List.length_cons, List.length_nil, List.replicate_succ, List.replicate_zero, List.cons_append, List.nil_append, List.append_nil, List.getElem?_cons_zero, List.getElem?_cons_succ, List.set_cons_zero, List.set_cons_succ, Option.toList_some, Option.toList_none, vp_nar_int, znar_b, zb_0, ne_eq, Bool.not_eq_false, Classical.not_not, nI_1, sh1_def, true_and, and_true, Nat.reduceAdd, Nat.reduceSub, Nat.reduceLT, Nat.reduceLeDiff, Value.category, Nat.zero_add, Nat.add_zero]
        refine ⟨_, t, rfl, by omega, ?_⟩
        simp only [bX6_users_52, bX6_users_26, bX6_users_14, bX6_users_0, pM_0, pM_1, pM_2, pM_3, pM_4, pM_5, pM_6, pM_7, pM_8, pM_9, pM_10, pM_11, pM_12, pM_13, pM_14, vThr, hm', o_iload, o_aload, o_ic, o_lc, o_istore, o_astore, o_iinc, o_bin, o_idiv, o_ineg, o_i2c, o_i2l, o_lcmp, o_if1, o_if2, o_dup, o_dup2, o_getf, o_puti, o_ald, o_iast, o_cast, o_lald, o_last, o_mmin, o_mabs, o_ret, o_vret, o_throw, o_lsw01, o_callS0, o_callS1, o_callS2, o_callS3, o_callS4, o_callS5, o_callV0, o_callV1, o_callV2, o_callV3, o_callV4, o_callV5, zcall_no, zok_nil, zok_ref, zok_int, zE, List.map_cons, List.map_nil, List.length_cons, List.length_nil, List.replicate_succ, List.replicate_zero, List.cons_append, List.nil_append, List.append_nil, List.getElem?_cons_zero, List.getElem?_cons_succ, List.set_cons_zero, List.set_cons_succ, Option.toList_some, Option.toList_none, vp_nar_int, znar_b, zb_0, ne_eq, Bool.not_eq_false, Classical.not_not, nI_1, sh1_def, true_and, and_true, Nat.reduceAdd, Nat.reduceSub, Nat.reduceLT, Nat.reduceLeDiff, Value.category, Nat.zero_add, Nat.add_zero]
        refine ⟨fun hb => ?_, fun hb => ?_⟩
        · have e : gUs μ n t (i + 1) = gUs μ n t i := by
            show gUs μ n t i + (if bt (gSh μ n i) t then 1 else 0) = _
            rw [show bt (gSh μ n i) t = false from hb]; rfl
          rw [e] at ih'
          rw [show nI (gUs μ n t i) + 0 = nI (gUs μ n t i) from by rw [show (0 : Int32) = nI 0 from rfl, nI_add]; rfl]
          exact ih'
        · have e : gUs μ n t (i + 1) = gUs μ n t i + 1 := by
            show gUs μ n t i + (if bt (gSh μ n i) t then 1 else 0) = _
            rw [show bt (gSh μ n i) t = true from hb]; rfl
          rw [e] at ih'
          exact ih'
    simp only [bX6_users_52, bX6_users_26, bX6_users_14, bX6_users_0, pM_0, pM_1, pM_2, pM_3, pM_4, pM_5, pM_6, pM_7, pM_8, pM_9, pM_10, pM_11, pM_12, pM_13, pM_14, o_iload, o_aload, o_ic, o_lc, o_istore, o_astore, o_iinc, o_bin, o_idiv, o_ineg, o_i2c, o_i2l, o_lcmp, o_if1, o_if2, o_dup, o_dup2, o_getf, o_puti, o_ald, o_iast, o_cast, o_lald, o_last, o_mmin, o_mabs, o_ret, o_vret, o_throw, o_lsw01, o_callS0, o_callS1, o_callS2, o_callS3, o_callS4, o_callS5, o_callV0, o_callV1, o_callV2, o_callV3, o_callV4, o_callV5, zcall_no, zok_nil, zok_ref, zok_int, zE, List.map_cons, List.map_nil, List.length_cons, List.length_nil, List.replicate_succ, List.replicate_zero, List.cons_append, List.nil_append, List.append_nil, List.getElem?_cons_zero, List.getElem?_cons_succ, List.set_cons_zero, List.set_cons_succ, Option.toList_some, Option.toList_none, vp_nar_int, znar_b, zb_0, ne_eq, Bool.not_eq_false, Classical.not_not, nI_1, sh1_def, true_and, and_true, Nat.reduceAdd, Nat.reduceSub, Nat.reduceLT, Nat.reduceLeDiff, Value.category, Nat.zero_add, Nat.add_zero]
    exact ⟨fun _ => loop m 0 (by omega), fun h9 => absurd h9 (by decide)⟩)
set_option maxHeartbeats 1000000 in
set_option maxRecDepth 20000 in
theorem mX6_couldBehind (hlt : l.stackTraces = false) : Sem l z0 b N D cA yX6_couldBehind cX6_couldBehind 5 (some .boolean) 7 157 3 zno tX6_couldBehind := uX6_couldBehind hlt (mX6_does hlt) (mX6_could hlt) (fun M a h Kn Kx hok hN => by
  obtain ⟨μ, f, n, m, q, k, d, i, j, rfl, rfl, hI, hi, hj, hcj, hk⟩ := hN
  have hI' := hI
  obtain ⟨⟨hn, hn24, hm, hm20, hq, hq40, hkp, hk20, hd, hd8, hch1, hch2, hln, hac, hrq⟩, hrk⟩ := hI'
  have hct := nI_clamp (show j < 2 ^ 31 by omega)
  obtain ⟨t, o, ht, ho, htn, hon⟩ := hrq j hj
  obtain ⟨hk4, hne⟩ := hrk j hj
  have eg : gCo μ n j = (decide (mSt μ j = 0) && fMay (mAl μ) (mIm μ) n (mKi μ j) t o) := by
    unfold gCo
    rw [ht, ho, tn_nI (by omega), tn_nI (by omega)]
  rw [eg, Bool.and_eq_true] at hcj
  have hmay := hcj.2
  have hac2 := fMay_ac (by omega) hac htn hon hmay
  have ed : gDo μ j = vRu μ (fDoA (mAl μ) (mKi μ j) t o) (fDoI (mIm μ) (mKi μ j) t o) := by
    unfold gDo; rw [ht, ho, tn_nI (by omega), tn_nI (by omega)]
  have hI2 : mInw (gDo μ j) n m q k d := by
    rw [ed]
    exact ⟨⟨hn, hn24, hm, hm20, hq, hq40, hkp, hk20, hd, hd8, hch1, hch2, hln, hac2, hrq⟩, hrk⟩
  have hk' : Kn (some (.int (zb (gCo (gDo μ j) n i)))) (pM μ f) := hk
  obtain ⟨k9, hk9⟩ : ∃ k9, mKi μ j = k9 := ⟨_, rfl⟩
  have hK' : μ.2.2.2.2.2.2.2.2.2.2.2.1 j = k9 := hk9
  have hT' : μ.2.2.2.2.2.2.2.2.2.2.2.2.1 j = nI t := ht
  have hO' : μ.2.2.2.2.2.2.2.2.2.2.2.2.2.1 j = nI o := ho
  rw [hk9] at hk4 hmay ed
  have back : ∀ k2 : Int32, fDoA (fDoA (mAl μ) k9 t o) k2 t o = mAl μ → fDoI (fDoI (mIm μ) k9 t o) k2 t o = mIm μ → bX6_couldBehind_46 M Kn Kx (pM μ f) [some (.ref 29), some (.int (nI i)), some (.int (nI j)), some (.int k9), some (.int (zb (gCo (gDo μ j) n i)))] [.int k2, .ref 29] (pM (vRu μ (fDoA (mAl μ) k9 t o) (fDoI (mIm μ) k9 t o)) f) := by
    intro k2 h1 h2
    simp only [pM_0, pM_1, pM_2, pM_3, pM_4, pM_5, pM_6, pM_7, pM_8, pM_9, pM_10, pM_11, pM_12, pM_13, pM_14, bX6_couldBehind_46, vRu, hct, hT', hO', o_iload, o_aload, o_ic, o_lc, o_istore, o_astore, o_iinc, o_bin, o_idiv, o_ineg, o_i2c, o_i2l, o_lcmp, o_if1, o_if2, o_dup, o_dup2, o_getf, o_puti, o_ald, o_iast, o_cast, o_lald, o_last, o_mmin, o_mabs, o_ret, o_vret, o_throw, o_lsw01, o_callS0, o_callS1, o_callS2, o_callS3, o_callS4, o_callS5, o_callV0, o_callV1, o_callV2, o_callV3, o_callV4, o_callV5, zcall_no, zok_nil, zok_ref, zok_int, zE, List.map_cons, List.map_nil, List.length_cons, List.length_nil, List.replicate_succ, List.replicate_zero, List.cons_append, List.nil_append, List.append_nil, List.getElem?_cons_zero, List.getElem?_cons_succ, List.set_cons_zero, List.set_cons_succ, Option.toList_some, Option.toList_none, vp_nar_int, znar_b, zb_0, ne_eq, Bool.not_eq_false, Classical.not_not, nI_1, sh1_def, true_and, and_true, Nat.reduceAdd, Nat.reduceSub, Nat.reduceLT, Nat.reduceLeDiff, Value.category, Nat.zero_add, Nat.add_zero]
    refine ⟨vpin (by omega) (by omega), vpin (by omega) (by omega), _, f, t, o, k2, rfl, rfl, by omega, by omega, ?_⟩
    simp only [pM_0, pM_1, pM_2, pM_3, pM_4, pM_5, pM_6, pM_7, pM_8, pM_9, pM_10, pM_11, pM_12, pM_13, pM_14, bX6_couldBehind_46, vRu, hct, o_iload, o_aload, o_ic, o_lc, o_istore, o_astore, o_iinc, o_bin, o_idiv, o_ineg, o_i2c, o_i2l, o_lcmp, o_if1, o_if2, o_dup, o_dup2, o_getf, o_puti, o_ald, o_iast, o_cast, o_lald, o_last, o_mmin, o_mabs, o_ret, o_vret, o_throw, o_lsw01, o_callS0, o_callS1, o_callS2, o_callS3, o_callS4, o_callS5, o_callV0, o_callV1, o_callV2, o_callV3, o_callV4, o_callV5, zcall_no, zok_nil, zok_ref, zok_int, zE, List.map_cons, List.map_nil, List.length_cons, List.length_nil, List.replicate_succ, List.replicate_zero, List.cons_append, List.nil_append, List.append_nil, List.getElem?_cons_zero, List.getElem?_cons_succ, List.set_cons_zero, List.set_cons_succ, Option.toList_some, Option.toList_none, vp_nar_int, znar_b, zb_0, ne_eq, Bool.not_eq_false, Classical.not_not, nI_1, sh1_def, true_and, and_true, Nat.reduceAdd, Nat.reduceSub, Nat.reduceLT, Nat.reduceLeDiff, Value.category, Nat.zero_add, Nat.add_zero]
    have e : (vRu (vRu μ (fDoA (mAl μ) k9 t o) (fDoI (mIm μ) k9 t o)) (fDoA (fDoA (mAl μ) k9 t o) k2 t o) (fDoI (fDoI (mIm μ) k9 t o) k2 t o)) = μ := by
      rw [h1, h2]; rfl
    show Kn _ (pM (vRu (vRu μ (fDoA (mAl μ) k9 t o) (fDoI (mIm μ) k9 t o)) (fDoA (fDoA (mAl μ) k9 t o) k2 t o) (fDoI (fDoI (mIm μ) k9 t o) k2 t o)) f)
    rw [e]
    exact hk'
  have rest : (2 ≤ k9 → bX6_couldBehind_46 M Kn Kx (pM μ f) [some (.ref 29), some (.int (nI i)), some (.int (nI j)), some (.int k9), some (.int (zb (gCo (gDo μ j) n i)))] [.int (k9 - 2), .ref 29] (pM (vRu μ (fDoA (mAl μ) k9 t o) (fDoI (mIm μ) k9 t o)) f)) ∧ (¬ 2 ≤ k9 → bX6_couldBehind_46 M Kn Kx (pM μ f) [some (.ref 29), some (.int (nI i)), some (.int (nI j)), some (.int k9), some (.int (zb (gCo (gDo μ j) n i)))] [.int (k9 + 2), .ref 29] (pM (vRu μ (fDoA (mAl μ) k9 t o) (fDoI (mIm μ) k9 t o)) f)) := by
    unfold fMay at hmay
    rcases ok4 hk4 with e | e | e | e
    · rw [e] at hmay back ⊢
      refine ⟨fun h => absurd h (by decide), fun _ => back 2 ?_ ?_⟩
      · simp at hmay
        simp [fDoA]
        exact upd_back hmay.1.1
      · simp [fDoI, upd_id]
    · rw [e] at hmay back ⊢
      refine ⟨fun h => absurd h (by decide), fun _ => back 3 ?_ ?_⟩
      · simp [fDoA, upd_id]
      · simp at hmay
        simp only [fDoI, if_pos, show ¬ (3 : Int32) = 1 by decide, if_false]
        rw [show upd (mIm μ) t (mIm μ t ||| sh1 o) t = mIm μ t ||| sh1 o by simp [upd], bit_on_off (by omega) hmay.1]
        exact upd_back rfl
    · rw [e] at hmay back ⊢
      refine ⟨fun _ => back 0 ?_ ?_, fun h => absurd (by decide) h⟩
      · simp at hmay
        simp [fDoA]
        exact upd_back hmay
      · simp [fDoI, upd_id]
    · rw [e] at hmay back ⊢
      refine ⟨fun _ => back 1 ?_ ?_, fun h => absurd (by decide) h⟩
      · simp [fDoA, upd_id]
      · simp at hmay
        simp only [fDoI, if_pos, show ¬ (3 : Int32) = 1 by decide, if_false]
        rw [show upd (mIm μ) t (mIm μ t &&& (sh1 o ^^^ -1)) t = mIm μ t &&& (sh1 o ^^^ -1) by simp [upd], bit_off_on (by omega) hmay]
        exact upd_back rfl
  simp only [pM_0, pM_1, pM_2, pM_3, pM_4, pM_5, pM_6, pM_7, pM_8, pM_9, pM_10, pM_11, pM_12, pM_13, pM_14, bX6_couldBehind_0, hct, hK', hT', hO', o_iload, o_aload, o_ic, o_lc, o_istore, o_astore, o_iinc, o_bin, o_idiv, o_ineg, o_i2c, o_i2l, o_lcmp, o_if1, o_if2, o_dup, o_dup2, o_getf, o_puti, o_ald, o_iast, o_cast, o_lald, o_last, o_mmin, o_mabs, o_ret, o_vret, o_throw, o_lsw01, o_callS0, o_callS1, o_callS2, o_callS3, o_callS4, o_callS5, o_callV0, o_callV1, o_callV2, o_callV3, o_callV4, o_callV5, zcall_no, zok_nil, zok_ref, zok_int, zE, List.map_cons, List.map_nil, List.length_cons, List.length_nil, List.replicate_succ, List.replicate_zero, List.cons_append, List.nil_append, List.append_nil, List.getElem?_cons_zero, List.getElem?_cons_succ, List.set_cons_zero, List.set_cons_succ, Option.toList_some, Option.toList_none, vp_nar_int, znar_b, zb_0, ne_eq, Bool.not_eq_false, Classical.not_not, nI_1, sh1_def, true_and, and_true, Nat.reduceAdd, Nat.reduceSub, Nat.reduceLT, Nat.reduceLeDiff, Value.category, Nat.zero_add, Nat.add_zero]
  refine ⟨vpin (by omega) (by omega), vpin (by omega) (by omega), vpin (by omega) (by omega), μ, f, t, o, k9, rfl, rfl, by omega, by omega, ?_⟩
  simp only [pM_0, pM_1, pM_2, pM_3, pM_4, pM_5, pM_6, pM_7, pM_8, pM_9, pM_10, pM_11, pM_12, pM_13, pM_14, o_iload, o_aload, o_ic, o_lc, o_istore, o_astore, o_iinc, o_bin, o_idiv, o_ineg, o_i2c, o_i2l, o_lcmp, o_if1, o_if2, o_dup, o_dup2, o_getf, o_puti, o_ald, o_iast, o_cast, o_lald, o_last, o_mmin, o_mabs, o_ret, o_vret, o_throw, o_lsw01, o_callS0, o_callS1, o_callS2, o_callS3, o_callS4, o_callS5, o_callV0, o_callV1, o_callV2, o_callV3, o_callV4, o_callV5, zcall_no, zok_nil, zok_ref, zok_int, zE, List.map_cons, List.map_nil, List.length_cons, List.length_nil, List.replicate_succ, List.replicate_zero, List.cons_append, List.nil_append, List.append_nil, List.getElem?_cons_zero, List.getElem?_cons_succ, List.set_cons_zero, List.set_cons_succ, Option.toList_some, Option.toList_none, vp_nar_int, znar_b, zb_0, ne_eq, Bool.not_eq_false, Classical.not_not, nI_1, sh1_def, true_and, and_true, Nat.reduceAdd, Nat.reduceSub, Nat.reduceLT, Nat.reduceLeDiff, Value.category, Nat.zero_add, Nat.add_zero]
  refine ⟨_, f, n, m, q, k, d, i, rfl, rfl, ed ▸ hI2, hi, ?_⟩
  simp only [pM_0, pM_1, pM_2, pM_3, pM_4, pM_5, pM_6, pM_7, pM_8, pM_9, pM_10, pM_11, pM_12, pM_13, pM_14, o_iload, o_aload, o_ic, o_lc, o_istore, o_astore, o_iinc, o_bin, o_idiv, o_ineg, o_i2c, o_i2l, o_lcmp, o_if1, o_if2, o_dup, o_dup2, o_getf, o_puti, o_ald, o_iast, o_cast, o_lald, o_last, o_mmin, o_mabs, o_ret, o_vret, o_throw, o_lsw01, o_callS0, o_callS1, o_callS2, o_callS3, o_callS4, o_callS5, o_callV0, o_callV1, o_callV2, o_callV3, o_callV4, o_callV5, zcall_no, zok_nil, zok_ref, zok_int, zE, List.map_cons, List.map_nil, List.length_cons, List.length_nil, List.replicate_succ, List.replicate_zero, List.cons_append, List.nil_append, List.append_nil, List.getElem?_cons_zero, List.getElem?_cons_succ, List.set_cons_zero, List.set_cons_succ, Option.toList_some, Option.toList_none, vp_nar_int, znar_b, zb_0, ne_eq, Bool.not_eq_false, Classical.not_not, nI_1, sh1_def, true_and, and_true, Nat.reduceAdd, Nat.reduceSub, Nat.reduceLT, Nat.reduceLeDiff, Value.category, Nat.zero_add, Nat.add_zero]
  rw [← ed]
  rw [← ed] at rest
  exact rest)
end M10
