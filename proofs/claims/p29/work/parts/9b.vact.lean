theorem act_ask {i : Bool} {μ ν : zMS} {Kn : QK} (q : zP) (hK : ∀ g, qPut i μ ν (gAsk2 q).2 (fun μ' ν' => Kn (gAsk2 q).1 μ' ν' g)) : ∀ g, qPut i μ ν q.2 (fun μ' ν' => (q.1 < 0 → Kn q.1 μ' ν' g) ∧ (¬ q.1 < 0 → ∀ g_1, qPut i μ' ν' (gDoes (qM i μ' ν') 6 q.1 0 0).2 (fun μ'_1 ν'_1 => (¬ (gDoes (qM i μ' ν') 6 q.1 0 0).1 = 0 → Kn (-77777) μ'_1 ν'_1 (g + g_1)) ∧ ((gDoes (qM i μ' ν') 6 q.1 0 0).1 = 0 → ∀ g_2, qPut i μ'_1 ν'_1 (gDoes (qM i μ'_1 ν'_1) 6 q.1 1 0).2 (fun μ' ν' => (¬ (gDoes (qM i μ'_1 ν'_1) 6 q.1 1 0).1 = 0 → Kn (-77777) μ' ν' (g + g_1 + g_2)) ∧ ((gDoes (qM i μ'_1 ν'_1) 6 q.1 1 0).1 = 0 → Kn q.1 μ' ν' (g + g_1 + g_2))))))) := by
  cases i with
  | false =>
    simp only [qPut, qM] at hK ⊢
    intro g
    refine ⟨fun h => ?_, fun h g1 => ⟨fun h1 => ?_, fun h1 g2 => ⟨fun h2 => ?_, fun h2 => ?_⟩⟩⟩
    · have h9 := hK g; simp only [gAsk2, if_pos h] at h9; exact h9
    · have h9 := hK (g + g1); simp only [gAsk2, if_neg h, if_neg h1] at h9; exact h9
    · have h9 := hK (g + g1 + g2); simp only [gAsk2, if_neg h, if_pos h1, if_neg h2] at h9; exact h9
    · have h9 := hK (g + g1 + g2); simp only [gAsk2, if_neg h, if_pos h1, if_pos h2] at h9; exact h9
  | true =>
    simp only [qPut, qM] at hK ⊢
    intro g
    refine ⟨fun h => ?_, fun h g1 => ⟨fun h1 => ?_, fun h1 g2 => ⟨fun h2 => ?_, fun h2 => ?_⟩⟩⟩
    · have h9 := hK g; simp only [gAsk2, if_pos h] at h9; exact h9
    · have h9 := hK (g + g1); simp only [gAsk2, if_neg h, if_neg h1] at h9; exact h9
    · have h9 := hK (g + g1 + g2); simp only [gAsk2, if_neg h, if_pos h1, if_neg h2] at h9; exact h9
    · have h9 := hK (g + g1 + g2); simp only [gAsk2, if_neg h, if_pos h1, if_pos h2] at h9; exact h9
section VACT
variable {l : Launch} {z0 b N : Nat} {D : va_G} {cA : Nat → ClassId}
set_option maxHeartbeats 1000000 in
theorem vL_act (hlt : l.stackTraces = false) : SemL l z0 b D cA yL_act (Cond.code yL_act cL_act 8 (some .int)) 9 183 2 3 tL_act := uL_act hlt (vL_low hlt) (vL_type hlt) (vL_does hlt) (fun a μ ν Kn hok h => by
  obtain ⟨i, v, rfl, hg, hh, hK⟩ := tL_act_i h
  refine ⟨i, ?_⟩
  by_cases ho : gLow (sr v 24) 8 = 0
  · have hod : gOdd v = true := decide_eq_true ho
    simp only [bL_act_426, bL_act_408, bL_act_394, bL_act_375, bL_act_373, bL_act_368, bL_act_322, bL_act_266, bL_act_248, bL_act_202, bL_act_175, bL_act_156, bL_act_124, bL_act_85, bL_act_54, bL_act_17, bL_act_0, ho, tL_low, tL_type, tL_does, o_iload, o_aload, o_ic, o_lc, o_istore, o_astore, o_iinc, o_bin, o_idiv, o_ineg, o_i2c, o_i2l, o_lcmp, o_if1, o_if2, o_dup, o_dup2, o_getf, o_puti, o_ald, o_iast, o_cast, o_lald, o_last, o_mmin, o_mabs, o_ret, o_vret, o_throw, o_lsw01, o_callS0, o_callS1, o_callS2, o_callS3, o_callS4, o_callS5, o_callV0, o_callV1, o_callV2, o_callV3, o_callV4, o_callV5, o_rd0, o_rd1, o_rd2, o_rd3, o_wr0, o_wr1, o_wr2, o_wr3, o_tr0, o_tr1, o_tr2, o_tr3, o_tr4, o_to1, o_to4, o_cL, o_irem, o_ret2, zcall_no, zok_nil, zok_ref, zok_int, zE, List.map_cons, List.map_nil, List.length_cons, List.length_nil, List.replicate_succ, List.replicate_zero, List.cons_append, List.nil_append, List.append_nil, List.getElem?_cons_zero, List.getElem?_cons_succ, List.set_cons_zero, List.set_cons_succ, Option.toList_some, Option.toList_none, vp_nar_int, znar_b, zb_0, ne_eq, Bool.not_eq_false, Classical.not_not, nI_1, sh1_def, true_and, and_true, Nat.reduceAdd, Nat.reduceSub, Nat.reduceLT, Nat.reduceLeDiff, Value.category, Nat.zero_add, Nat.add_zero, qmu_M, qset_j, List.take_succ_cons, List.take_zero, List.drop_succ_cons, List.drop_zero, List.reverse_cons, List.reverse_nil, sr_def, qex, qix_qob, qix_0, qix_29, qob_f, qob_t, qM_f, qM_t, qset_f, qset_t, i01, i10, not_true_eq_false, not_false_eq_true, false_implies, true_implies, true_or, or_true, forall_const, qrs_nil, qrs_int, qrs_ref, qrs_ra]
    refine ⟨by decide, by decide, by decide, by decide, fun h4 => ⟨fun h14 => ⟨fun h18 => ⟨fun h28 => ⟨fun h7 => ⟨by decide, by decide, ?_⟩, fun h7 => ⟨by decide, by decide, ?_⟩⟩, fun h28 => ⟨by decide, ?_⟩⟩, fun h18 => ⟨fun h17 => ?_, fun h17 => ⟨by decide, ?_⟩⟩⟩, fun h14 => ⟨fun h11 => ⟨by decide, ?_⟩, fun h11 => ⟨by decide, ?_⟩⟩⟩, fun h4 => ⟨fun h2 => ⟨fun h3 => ?_, fun h3 => ?_⟩, fun h2 => ⟨by decide, isCh_c _, ?_⟩⟩⟩
    · simp only [gAct, gSome, gKind, hod, if_true, Bool.false_eq_true, if_false, fChr, if_neg (Int32.not_lt.mpr h4), if_neg (Int32.not_lt.mpr h14), if_neg (Int32.not_lt.mpr h18), if_neg (Int32.not_lt.mpr h28), if_neg (Int32.not_lt.mpr h7)] at hK; exact hK
    · simp only [gAct, gSome, gKind, hod, if_true, Bool.false_eq_true, if_false, fChr, if_neg (Int32.not_lt.mpr h4), if_neg (Int32.not_lt.mpr h14), if_neg (Int32.not_lt.mpr h18), if_neg (Int32.not_lt.mpr h28), if_pos (Int32.not_le.mp h7)] at hK; exact hK
    · simp only [gAct, gSome, gKind, hod, if_true, Bool.false_eq_true, if_false, fChr, if_neg (Int32.not_lt.mpr h4), if_neg (Int32.not_lt.mpr h14), if_neg (Int32.not_lt.mpr h18), if_pos (Int32.not_le.mp h28)] at hK; exact act_ask _ hK
    · simp only [gAct, gSome, gKind, hod, if_true, Bool.false_eq_true, if_false, fChr, if_neg (Int32.not_lt.mpr h4), if_neg (Int32.not_lt.mpr h14), if_pos (Int32.not_le.mp h18), if_neg (Int32.not_lt.mpr h17)] at hK; exact hK
    · simp only [gAct, gSome, gKind, hod, if_true, Bool.false_eq_true, if_false, fChr, if_neg (Int32.not_lt.mpr h4), if_neg (Int32.not_lt.mpr h14), if_pos (Int32.not_le.mp h18), if_pos (Int32.not_le.mp h17)] at hK; exact hK
    · simp only [gAct, gSome, gKind, hod, if_true, Bool.false_eq_true, if_false, fChr, if_neg (Int32.not_lt.mpr h4), if_pos (Int32.not_le.mp h14), if_neg (Int32.not_lt.mpr h11)] at hK; exact hK
    · simp only [gAct, gSome, gKind, hod, if_true, Bool.false_eq_true, if_false, fChr, if_neg (Int32.not_lt.mpr h4), if_pos (Int32.not_le.mp h14), if_pos (Int32.not_le.mp h11)] at hK; exact hK
    · simp only [gAct, gSome, gKind, hod, if_true, Bool.false_eq_true, if_false, fChr, if_pos (Int32.not_le.mp h4), if_neg (Int32.not_lt.mpr h2), if_neg h3] at hK; exact hK
    · simp only [gAct, gSome, gKind, hod, if_true, Bool.false_eq_true, if_false, fChr, if_pos (Int32.not_le.mp h4), if_neg (Int32.not_lt.mpr h2), if_pos h3] at hK; exact hK
    · simp only [gAct, gSome, gKind, hod, if_true, Bool.false_eq_true, if_false, fChr, if_pos (Int32.not_le.mp h4), if_pos (Int32.not_le.mp h2)] at hK; exact hK
  · have hod : gOdd v = false := decide_eq_false ho
    have t1 : (gTags (qM i μ ν)).2.1 = 0 := rfl
    have t2 : (gTags (qM i μ ν)).1 = mTg (qM i μ ν) := rfl
    have t3 : (gThings (qM i μ ν)).2.1 = 0 := rfl
    have t4 : (gThings (qM i μ ν)).1 = mTh (qM i μ ν) := rfl
    simp only [bL_act_426, bL_act_408, bL_act_394, bL_act_375, bL_act_373, bL_act_368, bL_act_322, bL_act_266, bL_act_248, bL_act_202, bL_act_175, bL_act_156, bL_act_124, bL_act_85, bL_act_54, bL_act_17, bL_act_0, ho, tL_low, tL_type, tL_does, t1, t2, t3, t4, hg, hh, o_iload, o_aload, o_ic, o_lc, o_istore, o_astore, o_iinc, o_bin, o_idiv, o_ineg, o_i2c, o_i2l, o_lcmp, o_if1, o_if2, o_dup, o_dup2, o_getf, o_puti, o_ald, o_iast, o_cast, o_lald, o_last, o_mmin, o_mabs, o_ret, o_vret, o_throw, o_lsw01, o_callS0, o_callS1, o_callS2, o_callS3, o_callS4, o_callS5, o_callV0, o_callV1, o_callV2, o_callV3, o_callV4, o_callV5, o_rd0, o_rd1, o_rd2, o_rd3, o_wr0, o_wr1, o_wr2, o_wr3, o_tr0, o_tr1, o_tr2, o_tr3, o_tr4, o_to1, o_to4, o_cL, o_irem, o_ret2, zcall_no, zok_nil, zok_ref, zok_int, zE, List.map_cons, List.map_nil, List.length_cons, List.length_nil, List.replicate_succ, List.replicate_zero, List.cons_append, List.nil_append, List.append_nil, List.getElem?_cons_zero, List.getElem?_cons_succ, List.set_cons_zero, List.set_cons_succ, Option.toList_some, Option.toList_none, vp_nar_int, znar_b, zb_0, ne_eq, Bool.not_eq_false, Classical.not_not, nI_1, sh1_def, true_and, and_true, Nat.reduceAdd, Nat.reduceSub, Nat.reduceLT, Nat.reduceLeDiff, Value.category, Nat.zero_add, Nat.add_zero, qmu_M, qset_j, List.take_succ_cons, List.take_zero, List.drop_succ_cons, List.drop_zero, List.reverse_cons, List.reverse_nil, sr_def, qex, qix_qob, qix_0, qix_29, qob_f, qob_t, qM_f, qM_t, qset_f, qset_t, i01, i10, not_true_eq_false, not_false_eq_true, false_implies, true_implies, true_or, or_true, forall_const, qrs_nil, qrs_int, qrs_ref, qrs_ra]
    refine ⟨by decide, by decide, fun h4 => ⟨fun h14 => ⟨fun h18 => ⟨fun h28 => ⟨fun h7 => ⟨by decide, by decide, ?_⟩, fun h7 => ⟨by decide, by decide, ?_⟩⟩, fun h28 => ⟨fun h21 => ⟨fun h25 => ⟨fun h26 => ?_, fun h26 => ?_⟩, fun h25 => ?_⟩, fun h21 => ?_⟩⟩, fun h18 => ⟨fun h17 => ?_, fun h17 => ⟨by decide, ?_⟩⟩⟩, fun h14 => ⟨fun h11 => ?_, fun h11 => ?_⟩⟩, fun h4 => ⟨fun h2 => ⟨fun h3 => ?_, fun h3 => ?_⟩, fun h2 => ⟨by decide, isCh_c _, ?_⟩⟩⟩
    · simp only [gAct, gSome, gKind, hod, Bool.false_eq_true, if_false, fChr, if_neg (Int32.not_lt.mpr h4), if_neg (Int32.not_lt.mpr h14), if_neg (Int32.not_lt.mpr h18), if_neg (Int32.not_lt.mpr h28), if_neg (Int32.not_lt.mpr h7)] at hK; exact hK
    · simp only [gAct, gSome, gKind, hod, Bool.false_eq_true, if_false, fChr, if_neg (Int32.not_lt.mpr h4), if_neg (Int32.not_lt.mpr h14), if_neg (Int32.not_lt.mpr h18), if_neg (Int32.not_lt.mpr h28), if_pos (Int32.not_le.mp h7)] at hK; exact hK
    · simp only [gAct, gSome, gKind, hod, Bool.false_eq_true, if_false, fChr, if_neg (Int32.not_lt.mpr h4), if_neg (Int32.not_lt.mpr h14), if_neg (Int32.not_lt.mpr h18), if_pos (Int32.not_le.mp h28), if_neg (Int32.not_lt.mpr h21), if_neg (Int32.not_lt.mpr h25), if_neg (Int32.not_lt.mpr h26)] at hK; exact act_ask _ hK
    · simp only [gAct, gSome, gKind, hod, Bool.false_eq_true, if_false, fChr, if_neg (Int32.not_lt.mpr h4), if_neg (Int32.not_lt.mpr h14), if_neg (Int32.not_lt.mpr h18), if_pos (Int32.not_le.mp h28), if_neg (Int32.not_lt.mpr h21), if_neg (Int32.not_lt.mpr h25), if_pos (Int32.not_le.mp h26)] at hK; exact act_ask _ hK
    · simp only [gAct, gSome, gKind, hod, Bool.false_eq_true, if_false, fChr, if_neg (Int32.not_lt.mpr h4), if_neg (Int32.not_lt.mpr h14), if_neg (Int32.not_lt.mpr h18), if_pos (Int32.not_le.mp h28), if_neg (Int32.not_lt.mpr h21), if_pos (Int32.not_le.mp h25)] at hK; exact act_ask _ hK
    · simp only [gAct, gSome, gKind, hod, Bool.false_eq_true, if_false, fChr, if_neg (Int32.not_lt.mpr h4), if_neg (Int32.not_lt.mpr h14), if_neg (Int32.not_lt.mpr h18), if_pos (Int32.not_le.mp h28), if_pos (Int32.not_le.mp h21)] at hK; exact act_ask _ hK
    · simp only [gAct, gSome, gKind, hod, Bool.false_eq_true, if_false, fChr, if_neg (Int32.not_lt.mpr h4), if_neg (Int32.not_lt.mpr h14), if_pos (Int32.not_le.mp h18), if_neg (Int32.not_lt.mpr h17)] at hK; exact hK
    · simp only [gAct, gSome, gKind, hod, Bool.false_eq_true, if_false, fChr, if_neg (Int32.not_lt.mpr h4), if_neg (Int32.not_lt.mpr h14), if_pos (Int32.not_le.mp h18), if_pos (Int32.not_le.mp h17)] at hK; exact hK
    · simp only [gAct, gSome, gKind, hod, Bool.false_eq_true, if_false, fChr, if_neg (Int32.not_lt.mpr h4), if_pos (Int32.not_le.mp h14), if_neg (Int32.not_lt.mpr h11)] at hK; exact hK
    · simp only [gAct, gSome, gKind, hod, Bool.false_eq_true, if_false, fChr, if_neg (Int32.not_lt.mpr h4), if_pos (Int32.not_le.mp h14), if_pos (Int32.not_le.mp h11)] at hK; exact hK
    · simp only [gAct, gSome, gKind, hod, Bool.false_eq_true, if_false, fChr, if_pos (Int32.not_le.mp h4), if_neg (Int32.not_lt.mpr h2), if_neg h3] at hK; exact hK
    · simp only [gAct, gSome, gKind, hod, Bool.false_eq_true, if_false, fChr, if_pos (Int32.not_le.mp h4), if_neg (Int32.not_lt.mpr h2), if_pos h3] at hK; exact hK
    · simp only [gAct, gSome, gKind, hod, Bool.false_eq_true, if_false, fChr, if_pos (Int32.not_le.mp h4), if_pos (Int32.not_le.mp h2)] at hK; exact hK)
end VACT
