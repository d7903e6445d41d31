theorem alias_form {μ : zMS} {n k : Nat} (e1 : mTg μ = nI n) (hn : n ≤ 24) (hac : zAc (mAl μ) n) (hk : k < n) : 0 ≤ (gAlias μ (nI k)).1 → fOk (gAlias μ (nI k)).1 (mTg μ) = true := by
  have e : gAlias μ (nI k) = (mAl μ (tn (nI k)), vThr μ 0) := by
    unfold gAlias
    rw [e1, (fOk_n (by omega)).mpr ⟨k, hk, rfl⟩]
    exact gH_0
  rw [e]
  show 0 ≤ mAl μ (tn (nI k)) → fOk (mAl μ (tn (nI k))) (mTg μ) = true
  rw [tn_nI (by omega)]
  intro h
  rcases hac.1 k hk with h9 | ⟨c, hc, h9⟩
  · rw [h9] at h; exact absurd h (by decide)
  · rw [h9, e1]; exact (fOk_n (by omega)).mpr ⟨c, hc, rfl⟩
theorem end_ok {μ : zMS} {n k : Nat} (e1 : mTg μ = nI n) (hn : n ≤ 24) (hk : k < n) : fOk (gEnd μ (nI k)).1 (mTg μ) = true := by
  have e : gEnd μ (nI k) = (nI (fE (mAl μ) (tn (mTg μ)) (tn (mTg μ)) (tn (nI k))), vThr μ 0) := by
    unfold gEnd
    rw [e1, (fOk_n (by omega)).mpr ⟨k, hk, rfl⟩]
    rw [show gIs true = 0 from rfl, gH_0]
    show (nI (fE (mAl μ) (tn (mTg μ)) (tn (mTg μ)) (tn (nI k))), vThr μ 0) = _
    rw [e1]
  rw [e]
  show fOk (nI (fE (mAl μ) (tn (mTg μ)) (tn (mTg μ)) (tn (nI k)))) (mTg μ) = true
  rw [tn_nI (by omega), e1, tn_nI (by omega)]
  exact (fOk_n (by omega)).mpr ⟨_, fE_lt (by omega) n k hk, rfl⟩
section VRULES
variable {l : Launch} {z0 b N : Nat} {D : va_G} {cA : Nat → ClassId}
set_option maxHeartbeats 2000000 in
theorem vL_areRulesSo (hlt : l.stackTraces = false) : SemL l z0 b D cA yL_areRulesSo (Cond.code yL_areRulesSo cL_areRulesSo 6 (some .boolean)) 9 158 1 90 tL_areRulesSo := uL_areRulesSo hlt (vL_standing hlt) (fun a μ ν Kn hok h => by
  obtain ⟨i, rfl, hm, hK⟩ := tL_areRulesSo_i h
  refine ⟨i, fun A h4 h28 h132 => ?_⟩
  obtain ⟨n, m, q, kp, d, ⟨⟨e1, e2, e3, e4, e5, e6, e7, e8, e9, e10, e11, e12, e13, e14, -⟩, -⟩, -⟩ := hm
  have hok : ∀ k, k < n → fOk (nI k) (mTg (qM i μ ν)) = true := fun k hk => by rw [e1]; exact (fOk_n (by omega)).mpr ⟨k, hk, rfl⟩
  have hoh : ∀ k, k < m → fOk (nI k) (mTh (qM i μ ν)) = true := fun k hk => by rw [e3]; exact (fOk_n (by omega)).mpr ⟨k, hk, rfl⟩
  have hK0 : ∀ g, Kn 0 μ ν g := fun g => hK 0 g (Or.inl rfl)
  have hK1 : ∀ g, Kn 1 μ ν g := fun g => hK 1 g (Or.inr rfl)
  have hn0 : narrow .boolean (.int 0) = .int 0 := rfl
  have hn1 : narrow .boolean (.int 1) = .int 1 := rfl
  have h2 : ¬ (2 : Int32) = 0 := by decide
  have L3 : ∀ f k (bb sm : Int32) (x4 x5 : Option Value) (j g : Nat), (bb = 0 ∨ bb = 1) → k + f = 40 → j ≤ 2 * k → A 132 [some (.ref (qob i)), some (.int bb), some (.int sm), some (.int (nI k)), x4, x5] [] (μ, ν, j, g) := by
    intro f
    induction f with
    | zero =>
      intro k bb sm x4 x5 j g hb hk hj
      refine h132 _ _ _ ?_
      have hc : ((40 : Int32) ≤ nI k) = True := eq_true ((nI_leI (a := 40) (by omega) (by omega)).mpr (by omega))
      simp only [bL_areRulesSo_225, bL_areRulesSo_224, bL_areRulesSo_210, bL_areRulesSo_203, bL_areRulesSo_202, bL_areRulesSo_198, bL_areRulesSo_182, bL_areRulesSo_132, bL_areRulesSo_128, bL_areRulesSo_121, bL_areRulesSo_120, bL_areRulesSo_81, bL_areRulesSo_28, bL_areRulesSo_4, bL_areRulesSo_0, tL_standing, cd_tags, cd_things, cd_kept, vl_tags, vl_things, vl_kept, hc, o_iload, o_aload, o_ic, o_lc, o_istore, o_astore, o_iinc, o_bin, o_idiv, o_ineg, o_i2c, o_i2l, o_lcmp, o_if1, o_if2, o_dup, o_dup2, o_getf, o_puti, o_ald, o_iast, o_cast, o_lald, o_last, o_mmin, o_mabs, o_ret, o_vret, o_throw, o_lsw01, o_callS0, o_callS1, o_callS2, o_callS3, o_callS4, o_callS5, o_callV0, o_callV1, o_callV2, o_callV3, o_callV4, o_callV5, o_rd0, o_rd1, o_rd2, o_rd3, o_wr0, o_wr1, o_wr2, o_wr3, o_tr0, o_tr1, o_tr2, o_tr3, o_tr4, o_to1, o_to4, o_cL, o_irem, o_ret2, zcall_no, zok_nil, zok_ref, zok_int, zE, List.map_cons, List.map_nil, List.length_cons, List.length_nil, List.replicate_succ, List.replicate_zero, List.cons_append, List.nil_append, List.append_nil, List.getElem?_cons_zero, List.getElem?_cons_succ, List.set_cons_zero, List.set_cons_succ, Option.toList_some, Option.toList_none, vp_nar_int, znar_b, zb_0, ne_eq, Bool.not_eq_false, Classical.not_not, nI_1, sh1_def, true_and, and_true, Nat.reduceAdd, Nat.reduceSub, Nat.reduceLT, Nat.reduceLeDiff, Value.category, Nat.zero_add, Nat.add_zero, qmu_M, qset_j, List.take_succ_cons, List.take_zero, List.drop_succ_cons, List.drop_zero, List.reverse_cons, List.reverse_nil, sr_def, qex, qix_qob, qix_0, qix_29, qob_f, qob_t, qM_f, qM_t, qset_f, qset_t, i01, i10, not_true_eq_false, not_false_eq_true, false_implies, true_implies, true_or, or_true, forall_const, qrs_nil, qrs_int, qrs_ref, qrs_ra]
      repeat' (first | with_reducible exact h2 | with_reducible exact hK0 _ | with_reducible exact hK1 _ | with_reducible exact hn0 | with_reducible exact hn1 | apply And.intro | intro _ | omega)
    | succ f ih =>
      intro k bb sm x4 x5 j g hb hk hj
      refine h132 _ _ _ ?_
      have hc : ((40 : Int32) ≤ nI k) = False := eq_false (fun h => absurd ((nI_leI (a := 40) (by omega) (by omega)).mp h) (by omega))
      have i0 := fun sm x4 x5 j g hj => ih (k + 1) 0 sm x4 x5 j g (Or.inl rfl) (by omega) hj
      have i1 := fun sm x4 x5 j g hj => ih (k + 1) 1 sm x4 x5 j g (Or.inr rfl) (by omega) hj
      simp only [bL_areRulesSo_225, bL_areRulesSo_224, bL_areRulesSo_210, bL_areRulesSo_203, bL_areRulesSo_202, bL_areRulesSo_198, bL_areRulesSo_182, bL_areRulesSo_132, bL_areRulesSo_128, bL_areRulesSo_121, bL_areRulesSo_120, bL_areRulesSo_81, bL_areRulesSo_28, bL_areRulesSo_4, bL_areRulesSo_0, tL_standing, cd_tags, cd_things, cd_kept, vl_tags, vl_things, vl_kept, hc, o_iload, o_aload, o_ic, o_lc, o_istore, o_astore, o_iinc, o_bin, o_idiv, o_ineg, o_i2c, o_i2l, o_lcmp, o_if1, o_if2, o_dup, o_dup2, o_getf, o_puti, o_ald, o_iast, o_cast, o_lald, o_last, o_mmin, o_mabs, o_ret, o_vret, o_throw, o_lsw01, o_callS0, o_callS1, o_callS2, o_callS3, o_callS4, o_callS5, o_callV0, o_callV1, o_callV2, o_callV3, o_callV4, o_callV5, o_rd0, o_rd1, o_rd2, o_rd3, o_wr0, o_wr1, o_wr2, o_wr3, o_tr0, o_tr1, o_tr2, o_tr3, o_tr4, o_to1, o_to4, o_cL, o_irem, o_ret2, zcall_no, zok_nil, zok_ref, zok_int, zE, List.map_cons, List.map_nil, List.length_cons, List.length_nil, List.replicate_succ, List.replicate_zero, List.cons_append, List.nil_append, List.append_nil, List.getElem?_cons_zero, List.getElem?_cons_succ, List.set_cons_zero, List.set_cons_succ, Option.toList_some, Option.toList_none, vp_nar_int, znar_b, zb_0, ne_eq, Bool.not_eq_false, Classical.not_not, nI_1, sh1_def, true_and, and_true, Nat.reduceAdd, Nat.reduceSub, Nat.reduceLT, Nat.reduceLeDiff, Value.category, Nat.zero_add, Nat.add_zero, qmu_M, qset_j, List.take_succ_cons, List.take_zero, List.drop_succ_cons, List.drop_zero, List.reverse_cons, List.reverse_nil, sr_def, qex, qix_qob, qix_0, qix_29, qob_f, qob_t, qM_f, qM_t, qset_f, qset_t, i01, i10, not_true_eq_false, not_false_eq_true, false_implies, true_implies, true_or, or_true, forall_const, qrs_nil, qrs_int, qrs_ref, qrs_ra]
      repeat' (first | with_reducible exact h2 | with_reducible exact hK0 _ | with_reducible exact hK1 _ | with_reducible exact hn0 | with_reducible exact hn1 | with_reducible refine i0 _ _ _ _ _ ?_ | with_reducible refine i1 _ _ _ _ _ ?_ | (with_reducible refine cd_clashes ?_; assumption) | (with_reducible refine cd_couldPass ?_; assumption) | apply And.intro | intro _ | omega)
  have L2 : ∀ (al : Int32) (j : Nat), j < n → (0 ≤ al → fOk al (mTg (qM i μ ν)) = true) → (∀ (bb : Int32) (x4 x5 : Option Value), (bb = 0 ∨ bb = 1) → A 4 [some (.ref (qob i)), some (.int bb), some (.int (nI (j + 1))), some (.int al), x4, x5] [] (μ, ν, 0, 0)) →
      ∀ f k (bb us : Int32), (bb = 0 ∨ bb = 1) → k + f = m → A 28 [some (.ref (qob i)), some (.int bb), some (.int (nI j)), some (.int al), some (.int us), some (.int (nI k))] [] (μ, ν, 0, 0) := by
    intro al j hj hal HX f
    have ok1 := hok j hj
    have ok2 := end_ok e1 e2 hj
    have x0 := fun x4 x5 => HX 0 x4 x5 (Or.inl rfl)
    have x1 := fun x4 x5 => HX 1 x4 x5 (Or.inr rfl)
    induction f with
    | zero =>
      intro k bb us hb hk
      refine h28 _ _ _ ?_
      have hc : (mTh (qM i μ ν) ≤ nI k) = True := eq_true (q_le e3 (by omega) (by omega))
      simp only [bL_areRulesSo_225, bL_areRulesSo_224, bL_areRulesSo_210, bL_areRulesSo_203, bL_areRulesSo_202, bL_areRulesSo_198, bL_areRulesSo_182, bL_areRulesSo_132, bL_areRulesSo_128, bL_areRulesSo_121, bL_areRulesSo_120, bL_areRulesSo_81, bL_areRulesSo_28, bL_areRulesSo_4, bL_areRulesSo_0, cd_tags, cd_things, cd_kept, vl_tags, vl_things, vl_kept, hc, o_iload, o_aload, o_ic, o_lc, o_istore, o_astore, o_iinc, o_bin, o_idiv, o_ineg, o_i2c, o_i2l, o_lcmp, o_if1, o_if2, o_dup, o_dup2, o_getf, o_puti, o_ald, o_iast, o_cast, o_lald, o_last, o_mmin, o_mabs, o_ret, o_vret, o_throw, o_lsw01, o_callS0, o_callS1, o_callS2, o_callS3, o_callS4, o_callS5, o_callV0, o_callV1, o_callV2, o_callV3, o_callV4, o_callV5, o_rd0, o_rd1, o_rd2, o_rd3, o_wr0, o_wr1, o_wr2, o_wr3, o_tr0, o_tr1, o_tr2, o_tr3, o_tr4, o_to1, o_to4, o_cL, o_irem, o_ret2, zcall_no, zok_nil, zok_ref, zok_int, zE, List.map_cons, List.map_nil, List.length_cons, List.length_nil, List.replicate_succ, List.replicate_zero, List.cons_append, List.nil_append, List.append_nil, List.getElem?_cons_zero, List.getElem?_cons_succ, List.set_cons_zero, List.set_cons_succ, Option.toList_some, Option.toList_none, vp_nar_int, znar_b, zb_0, ne_eq, Bool.not_eq_false, Classical.not_not, nI_1, sh1_def, true_and, and_true, Nat.reduceAdd, Nat.reduceSub, Nat.reduceLT, Nat.reduceLeDiff, Value.category, Nat.zero_add, Nat.add_zero, qmu_M, qset_j, List.take_succ_cons, List.take_zero, List.drop_succ_cons, List.drop_zero, List.reverse_cons, List.reverse_nil, sr_def, qex, qix_qob, qix_0, qix_29, qob_f, qob_t, qM_f, qM_t, qset_f, qset_t, i01, i10, not_true_eq_false, not_false_eq_true, false_implies, true_implies, true_or, or_true, forall_const, qrs_nil, qrs_int, qrs_ref, qrs_ra]
      repeat' (first | with_reducible exact x0 _ _ | with_reducible exact x1 _ _ | with_reducible exact cd_end ok1 | with_reducible exact cd_alias ok2 | with_reducible exact cd_users ok1 | with_reducible exact cd_implies ok1 ok1 | (with_reducible refine cd_end (hal ?_); assumption) | apply And.intro | intro _)
    | succ f ih =>
      intro k bb us hb hk
      refine h28 _ _ _ ?_
      have hc : (mTh (qM i μ ν) ≤ nI k) = False := eq_false (q_nle e3 (by omega) (by omega))
      simp only [bL_areRulesSo_225, bL_areRulesSo_224, bL_areRulesSo_210, bL_areRulesSo_203, bL_areRulesSo_202, bL_areRulesSo_198, bL_areRulesSo_182, bL_areRulesSo_132, bL_areRulesSo_128, bL_areRulesSo_121, bL_areRulesSo_120, bL_areRulesSo_81, bL_areRulesSo_28, bL_areRulesSo_4, bL_areRulesSo_0, cd_tags, cd_things, cd_kept, vl_tags, vl_things, vl_kept, hc, o_iload, o_aload, o_ic, o_lc, o_istore, o_astore, o_iinc, o_bin, o_idiv, o_ineg, o_i2c, o_i2l, o_lcmp, o_if1, o_if2, o_dup, o_dup2, o_getf, o_puti, o_ald, o_iast, o_cast, o_lald, o_last, o_mmin, o_mabs, o_ret, o_vret, o_throw, o_lsw01, o_callS0, o_callS1, o_callS2, o_callS3, o_callS4, o_callS5, o_callV0, o_callV1, o_callV2, o_callV3, o_callV4, o_callV5, o_rd0, o_rd1, o_rd2, o_rd3, o_wr0, o_wr1, o_wr2, o_wr3, o_tr0, o_tr1, o_tr2, o_tr3, o_tr4, o_to1, o_to4, o_cL, o_irem, o_ret2, zcall_no, zok_nil, zok_ref, zok_int, zE, List.map_cons, List.map_nil, List.length_cons, List.length_nil, List.replicate_succ, List.replicate_zero, List.cons_append, List.nil_append, List.append_nil, List.getElem?_cons_zero, List.getElem?_cons_succ, List.set_cons_zero, List.set_cons_succ, Option.toList_some, Option.toList_none, vp_nar_int, znar_b, zb_0, ne_eq, Bool.not_eq_false, Classical.not_not, nI_1, sh1_def, true_and, and_true, Nat.reduceAdd, Nat.reduceSub, Nat.reduceLT, Nat.reduceLeDiff, Value.category, Nat.zero_add, Nat.add_zero, qmu_M, qset_j, List.take_succ_cons, List.take_zero, List.drop_succ_cons, List.drop_zero, List.reverse_cons, List.reverse_nil, sr_def, qex, qix_qob, qix_0, qix_29, qob_f, qob_t, qM_f, qM_t, qset_f, qset_t, i01, i10, not_true_eq_false, not_false_eq_true, false_implies, true_implies, true_or, or_true, forall_const, qrs_nil, qrs_int, qrs_ref, qrs_ra]
      exact ⟨cd_shown (hoh k (by omega)), ih (k + 1) bb _ hb (by omega)⟩
  have L1 : ∀ f k (bb : Int32) (x3 x4 x5 : Option Value), (bb = 0 ∨ bb = 1) → k + f = n → A 4 [some (.ref (qob i)), some (.int bb), some (.int (nI k)), x3, x4, x5] [] (μ, ν, 0, 0) := by
    intro f
    induction f with
    | zero =>
      intro k bb x3 x4 x5 hb hk
      refine h4 _ _ _ ?_
      have hc : (mTg (qM i μ ν) ≤ nI k) = True := eq_true (q_le e1 (by omega) (by omega))
      simp only [bL_areRulesSo_225, bL_areRulesSo_224, bL_areRulesSo_210, bL_areRulesSo_203, bL_areRulesSo_202, bL_areRulesSo_198, bL_areRulesSo_182, bL_areRulesSo_132, bL_areRulesSo_128, bL_areRulesSo_121, bL_areRulesSo_120, bL_areRulesSo_81, bL_areRulesSo_28, bL_areRulesSo_4, bL_areRulesSo_0, cd_tags, cd_things, cd_kept, vl_tags, vl_things, vl_kept, hc, o_iload, o_aload, o_ic, o_lc, o_istore, o_astore, o_iinc, o_bin, o_idiv, o_ineg, o_i2c, o_i2l, o_lcmp, o_if1, o_if2, o_dup, o_dup2, o_getf, o_puti, o_ald, o_iast, o_cast, o_lald, o_last, o_mmin, o_mabs, o_ret, o_vret, o_throw, o_lsw01, o_callS0, o_callS1, o_callS2, o_callS3, o_callS4, o_callS5, o_callV0, o_callV1, o_callV2, o_callV3, o_callV4, o_callV5, o_rd0, o_rd1, o_rd2, o_rd3, o_wr0, o_wr1, o_wr2, o_wr3, o_tr0, o_tr1, o_tr2, o_tr3, o_tr4, o_to1, o_to4, o_cL, o_irem, o_ret2, zcall_no, zok_nil, zok_ref, zok_int, zE, List.map_cons, List.map_nil, List.length_cons, List.length_nil, List.replicate_succ, List.replicate_zero, List.cons_append, List.nil_append, List.append_nil, List.getElem?_cons_zero, List.getElem?_cons_succ, List.set_cons_zero, List.set_cons_succ, Option.toList_some, Option.toList_none, vp_nar_int, znar_b, zb_0, ne_eq, Bool.not_eq_false, Classical.not_not, nI_1, sh1_def, true_and, and_true, Nat.reduceAdd, Nat.reduceSub, Nat.reduceLT, Nat.reduceLeDiff, Value.category, Nat.zero_add, Nat.add_zero, qmu_M, qset_j, List.take_succ_cons, List.take_zero, List.drop_succ_cons, List.drop_zero, List.reverse_cons, List.reverse_nil, sr_def, qex, qix_qob, qix_0, qix_29, qob_f, qob_t, qM_f, qM_t, qset_f, qset_t, i01, i10, not_true_eq_false, not_false_eq_true, false_implies, true_implies, true_or, or_true, forall_const, qrs_nil, qrs_int, qrs_ref, qrs_ra]
      exact L3 40 0 bb 0 x4 x5 0 0 hb (by omega) (by omega)
    | succ f ih =>
      intro k bb x3 x4 x5 hb hk
      refine h4 _ _ _ ?_
      have hc : (mTg (qM i μ ν) ≤ nI k) = False := eq_false (q_nle e1 (by omega) (by omega))
      simp only [bL_areRulesSo_225, bL_areRulesSo_224, bL_areRulesSo_210, bL_areRulesSo_203, bL_areRulesSo_202, bL_areRulesSo_198, bL_areRulesSo_182, bL_areRulesSo_132, bL_areRulesSo_128, bL_areRulesSo_121, bL_areRulesSo_120, bL_areRulesSo_81, bL_areRulesSo_28, bL_areRulesSo_4, bL_areRulesSo_0, cd_tags, cd_things, cd_kept, vl_tags, vl_things, vl_kept, hc, o_iload, o_aload, o_ic, o_lc, o_istore, o_astore, o_iinc, o_bin, o_idiv, o_ineg, o_i2c, o_i2l, o_lcmp, o_if1, o_if2, o_dup, o_dup2, o_getf, o_puti, o_ald, o_iast, o_cast, o_lald, o_last, o_mmin, o_mabs, o_ret, o_vret, o_throw, o_lsw01, o_callS0, o_callS1, o_callS2, o_callS3, o_callS4, o_callS5, o_callV0, o_callV1, o_callV2, o_callV3, o_callV4, o_callV5, o_rd0, o_rd1, o_rd2, o_rd3, o_wr0, o_wr1, o_wr2, o_wr3, o_tr0, o_tr1, o_tr2, o_tr3, o_tr4, o_to1, o_to4, o_cL, o_irem, o_ret2, zcall_no, zok_nil, zok_ref, zok_int, zE, List.map_cons, List.map_nil, List.length_cons, List.length_nil, List.replicate_succ, List.replicate_zero, List.cons_append, List.nil_append, List.append_nil, List.getElem?_cons_zero, List.getElem?_cons_succ, List.set_cons_zero, List.set_cons_succ, Option.toList_some, Option.toList_none, vp_nar_int, znar_b, zb_0, ne_eq, Bool.not_eq_false, Classical.not_not, nI_1, sh1_def, true_and, and_true, Nat.reduceAdd, Nat.reduceSub, Nat.reduceLT, Nat.reduceLeDiff, Value.category, Nat.zero_add, Nat.add_zero, qmu_M, qset_j, List.take_succ_cons, List.take_zero, List.drop_succ_cons, List.drop_zero, List.reverse_cons, List.reverse_nil, sr_def, qex, qix_qob, qix_0, qix_29, qob_f, qob_t, qM_f, qM_t, qset_f, qset_t, i01, i10, not_true_eq_false, not_false_eq_true, false_implies, true_implies, true_or, or_true, forall_const, qrs_nil, qrs_int, qrs_ref, qrs_ra]
      refine ⟨fun _ => L3 40 0 bb 0 x4 x5 0 0 hb (by omega) (by omega), fun _ => ⟨cd_alias (hok k (by omega)), L2 _ k (by omega) (alias_form e1 e2 e14 (by omega)) (fun bb x4 x5 hb => ih (k + 1) bb _ x4 x5 hb (by omega)) m 0 bb 0 hb (by omega)⟩⟩
  simp only [bL_areRulesSo_225, bL_areRulesSo_224, bL_areRulesSo_210, bL_areRulesSo_203, bL_areRulesSo_202, bL_areRulesSo_198, bL_areRulesSo_182, bL_areRulesSo_132, bL_areRulesSo_128, bL_areRulesSo_121, bL_areRulesSo_120, bL_areRulesSo_81, bL_areRulesSo_28, bL_areRulesSo_4, bL_areRulesSo_0, cd_tags, cd_things, cd_kept, vl_tags, vl_things, vl_kept, o_iload, o_aload, o_ic, o_lc, o_istore, o_astore, o_iinc, o_bin, o_idiv, o_ineg, o_i2c, o_i2l, o_lcmp, o_if1, o_if2, o_dup, o_dup2, o_getf, o_puti, o_ald, o_iast, o_cast, o_lald, o_last, o_mmin, o_mabs, o_ret, o_vret, o_throw, o_lsw01, o_callS0, o_callS1, o_callS2, o_callS3, o_callS4, o_callS5, o_callV0, o_callV1, o_callV2, o_callV3, o_callV4, o_callV5, o_rd0, o_rd1, o_rd2, o_rd3, o_wr0, o_wr1, o_wr2, o_wr3, o_tr0, o_tr1, o_tr2, o_tr3, o_tr4, o_to1, o_to4, o_cL, o_irem, o_ret2, zcall_no, zok_nil, zok_ref, zok_int, zE, List.map_cons, List.map_nil, List.length_cons, List.length_nil, List.replicate_succ, List.replicate_zero, List.cons_append, List.nil_append, List.append_nil, List.getElem?_cons_zero, List.getElem?_cons_succ, List.set_cons_zero, List.set_cons_succ, Option.toList_some, Option.toList_none, vp_nar_int, znar_b, zb_0, ne_eq, Bool.not_eq_false, Classical.not_not, nI_1, sh1_def, true_and, and_true, Nat.reduceAdd, Nat.reduceSub, Nat.reduceLT, Nat.reduceLeDiff, Value.category, Nat.zero_add, Nat.add_zero, qmu_M, qset_j, List.take_succ_cons, List.take_zero, List.drop_succ_cons, List.drop_zero, List.reverse_cons, List.reverse_nil, sr_def, qex, qix_qob, qix_0, qix_29, qob_f, qob_t, qM_f, qM_t, qset_f, qset_t, i01, i10, not_true_eq_false, not_false_eq_true, false_implies, true_implies, true_or, or_true, forall_const, qrs_nil, qrs_int, qrs_ref, qrs_ra]
  exact L1 n 0 1 none none none (Or.inr rfl) (by omega))
end VRULES
