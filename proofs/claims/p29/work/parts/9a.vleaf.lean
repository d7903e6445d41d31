theorem gX_0 {μ : zMS} {g : zP} (h : g.2.1 = 0) : gX μ g = g := if_pos h
theorem gX_n {μ : zMS} {g : zP} (h : ¬ g.2.1 = 0) : gX μ g = (-99999, μ) := if_neg h
theorem tl1 {i : Bool} {μ ν : zMS} {Kn : QK} {G : zP} (hK : ∀ g, qPut i μ ν (gX (qM i μ ν) G).2 (fun μ' ν' => Kn (gX (qM i μ ν) G).1 μ' ν' g)) (h0 : G.2.1 = 0) : Kn G.1 (qset i (μ, ν, 0, 0) G.2).1 (qset i (μ, ν, 0, 0) G.2).2.1 0 := by
  have h := hK 0
  rw [gX_0 h0] at h
  cases i <;> exact h
theorem tl2 {i : Bool} {μ ν : zMS} {Kn : QK} {G : zP} (hK : ∀ g, qPut i μ ν (gX (qM i μ ν) G).2 (fun μ' ν' => Kn (gX (qM i μ ν) G).1 μ' ν' g)) (h0 : ¬ G.2.1 = 0) : Kn (-99999) μ ν 1 := by
  have h := hK 1
  rw [gX_n h0] at h
  cases i <;> exact h
theorem tl3 {i : Bool} {μ ν : zMS} {Kn : QK} {G : zP} (hK : ∀ g, qPut i μ ν (gX (qM i μ ν) (gBl G)).2 (fun μ' ν' => Kn (gX (qM i μ ν) (gBl G)).1 μ' ν' g)) (h0 : G.2.1 = 0) : (G.1 = 0 → Kn 0 (qset i (μ, ν, 0, 0) G.2).1 (qset i (μ, ν, 0, 0) G.2).2.1 0) ∧ (¬ G.1 = 0 → Kn 1 (qset i (μ, ν, 0, 0) G.2).1 (qset i (μ, ν, 0, 0) G.2).2.1 0) := by
  have h : Kn (if G.1 = 0 then 0 else 1) (qset i (μ, ν, 0, 0) G.2).1 (qset i (μ, ν, 0, 0) G.2).2.1 0 := tl1 (G := gBl G) hK h0
  refine ⟨fun e => ?_, fun e => ?_⟩
  · rw [if_pos e] at h; exact h
  · rw [if_neg e] at h; exact h
theorem st_ok {μ : zMS} {x : Int32} (h : fOk x (mRq μ) = true) : gStanding μ x = (mSt μ (tn x), vThr μ 0) := by
  unfold gStanding
  rw [h]
  exact gH_0
theorem st_no {μ : zMS} {x : Int32} (h : fOk x (mRq μ) = false) : (gStanding μ x).2.1 = 1 := by
  unfold gStanding
  rw [h, show gIs false = 1 from rfl, gH_n (by decide)]
  rfl
theorem ma_2 {μ : zMS} {p x y z : Int32} (h : gSet3 (tn (mTg μ)) x y z = true) : ¬ (gMatch μ p x y z).2.1 = 2 := by
  have e : (gMatch μ p x y z).2 = vThr μ (if p < 0 then 1 else if gSet3 (tn (mTg μ)) x y z then (if p < nI (gMm μ (tn (mTg μ)) x y z (tn (mTh μ))) then 0 else 1) else 2) := ro_gH
  rw [e, h]
  show ¬ (if p < 0 then (1 : Int32) else if true = true then (if p < nI (gMm μ (tn (mTg μ)) x y z (tn (mTh μ))) then 0 else 1) else 2) = 2
  rw [if_pos rfl]
  (repeat' split) <;> decide
section VLEAF
variable {l : Launch} {z0 b N : Nat} {D : va_G} {cA : Nat → ClassId}
theorem vL_low (hlt : l.stackTraces = false) : SemL l z0 b D cA yL_low (Cond.code yL_low cL_low 2 (some .int)) 0 0 2 0 tL_low := uL_low hlt (fun a μ ν Kn hok h => by
  unfold tL_low at h
  split at h
  rotate_left
  · exact h.elim
  obtain ⟨hn, hK⟩ := h
  simp only [bL_low_0, o_iload, o_aload, o_ic, o_lc, o_istore, o_astore, o_iinc, o_bin, o_idiv, o_ineg, o_i2c, o_i2l, o_lcmp, o_if1, o_if2, o_dup, o_dup2, o_getf, o_puti, o_ald, o_iast, o_cast, o_lald, o_last, o_mmin, o_mabs, o_ret, o_vret, o_throw, o_lsw01, o_callS0, o_callS1, o_callS2, o_callS3, o_callS4, o_callS5, o_callV0, o_callV1, o_callV2, o_callV3, o_callV4, o_callV5, o_rd0, o_rd1, o_rd2, o_rd3, o_wr0, o_wr1, o_wr2, o_wr3, o_tr0, o_tr1, o_tr2, o_tr3, o_tr4, o_to1, o_to4, o_cL, o_irem, o_ret2, zcall_no, zok_nil, zok_ref, zok_int, zE, List.map_cons, List.map_nil, List.length_cons, List.length_nil, List.replicate_succ, List.replicate_zero, List.cons_append, List.nil_append, List.append_nil, List.getElem?_cons_zero, List.getElem?_cons_succ, List.set_cons_zero, List.set_cons_succ, Option.toList_some, Option.toList_none, vp_nar_int, znar_b, zb_0, ne_eq, Bool.not_eq_false, Classical.not_not, nI_1, sh1_def, true_and, and_true, Nat.reduceAdd, Nat.reduceSub, Nat.reduceLT, Nat.reduceLeDiff, Value.category, Nat.zero_add, Nat.add_zero, qmu_M, qset_j, List.take_succ_cons, List.take_zero, List.drop_succ_cons, List.drop_zero, List.reverse_cons, List.reverse_nil, sr_def, qex, qix_qob, qix_0, qix_29, qob_f, qob_t, qM_f, qM_t, qset_f, qset_t, i01, i10, not_true_eq_false, not_false_eq_true, false_implies, true_implies, true_or, or_true, forall_const, qrs_nil, qrs_int, qrs_ref, qrs_ra]
  exact ⟨hn, hK⟩)
theorem vL_type (hlt : l.stackTraces = false) : SemL l z0 b D cA yL_type (Cond.codeWith yL_type cL_type 3 (some .int) [(0, 5, 6, 41), (0, 5, 10, 43)]) 7 103 2 1 tL_type := uL_type hlt (fun a μ ν Kn hok h => by
  obtain ⟨i, x, rfl, hx, hK⟩ := tL_type_i h
  refine ⟨i, ?_⟩
  simp only [bL_type_0, o_iload, o_aload, o_ic, o_lc, o_istore, o_astore, o_iinc, o_bin, o_idiv, o_ineg, o_i2c, o_i2l, o_lcmp, o_if1, o_if2, o_dup, o_dup2, o_getf, o_puti, o_ald, o_iast, o_cast, o_lald, o_last, o_mmin, o_mabs, o_ret, o_vret, o_throw, o_lsw01, o_callS0, o_callS1, o_callS2, o_callS3, o_callS4, o_callS5, o_callV0, o_callV1, o_callV2, o_callV3, o_callV4, o_callV5, o_rd0, o_rd1, o_rd2, o_rd3, o_wr0, o_wr1, o_wr2, o_wr3, o_tr0, o_tr1, o_tr2, o_tr3, o_tr4, o_to1, o_to4, o_cL, o_irem, o_ret2, zcall_no, zok_nil, zok_ref, zok_int, zE, List.map_cons, List.map_nil, List.length_cons, List.length_nil, List.replicate_succ, List.replicate_zero, List.cons_append, List.nil_append, List.append_nil, List.getElem?_cons_zero, List.getElem?_cons_succ, List.set_cons_zero, List.set_cons_succ, Option.toList_some, Option.toList_none, vp_nar_int, znar_b, zb_0, ne_eq, Bool.not_eq_false, Classical.not_not, nI_1, sh1_def, true_and, and_true, Nat.reduceAdd, Nat.reduceSub, Nat.reduceLT, Nat.reduceLeDiff, Value.category, Nat.zero_add, Nat.add_zero, qmu_M, qset_j, List.take_succ_cons, List.take_zero, List.drop_succ_cons, List.drop_zero, List.reverse_cons, List.reverse_nil, sr_def, qex, qix_qob, qix_0, qix_29, qob_f, qob_t, qM_f, qM_t, qset_f, qset_t, i01, i10, not_true_eq_false, not_false_eq_true, false_implies, true_implies, true_or, or_true, forall_const, qrs_nil, qrs_int, qrs_ref, qrs_ra]
  exact ⟨hx, fun h0 => tl1 hK h0, fun h0 => tl2 hK h0⟩)
theorem vL_standing (hlt : l.stackTraces = false) : SemL l z0 b D cA yL_standing (Cond.codeWith yL_standing cL_standing 3 (some .int) [(0, 5, 6, 38)]) 8 124 2 1 tL_standing := uL_standing hlt (fun a μ ν Kn hok h => by
  obtain ⟨i, x, rfl, h1, h2⟩ := tL_standing_i h
  refine ⟨i, ?_⟩
  simp only [bL_standing_0, o_iload, o_aload, o_ic, o_lc, o_istore, o_astore, o_iinc, o_bin, o_idiv, o_ineg, o_i2c, o_i2l, o_lcmp, o_if1, o_if2, o_dup, o_dup2, o_getf, o_puti, o_ald, o_iast, o_cast, o_lald, o_last, o_mmin, o_mabs, o_ret, o_vret, o_throw, o_lsw01, o_callS0, o_callS1, o_callS2, o_callS3, o_callS4, o_callS5, o_callV0, o_callV1, o_callV2, o_callV3, o_callV4, o_callV5, o_rd0, o_rd1, o_rd2, o_rd3, o_wr0, o_wr1, o_wr2, o_wr3, o_tr0, o_tr1, o_tr2, o_tr3, o_tr4, o_to1, o_to4, o_cL, o_irem, o_ret2, zcall_no, zok_nil, zok_ref, zok_int, zE, List.map_cons, List.map_nil, List.length_cons, List.length_nil, List.replicate_succ, List.replicate_zero, List.cons_append, List.nil_append, List.append_nil, List.getElem?_cons_zero, List.getElem?_cons_succ, List.set_cons_zero, List.set_cons_succ, Option.toList_some, Option.toList_none, vp_nar_int, znar_b, zb_0, ne_eq, Bool.not_eq_false, Classical.not_not, nI_1, sh1_def, true_and, and_true, Nat.reduceAdd, Nat.reduceSub, Nat.reduceLT, Nat.reduceLeDiff, Value.category, Nat.zero_add, Nat.add_zero, qmu_M, qset_j, List.take_succ_cons, List.take_zero, List.drop_succ_cons, List.drop_zero, List.reverse_cons, List.reverse_nil, sr_def, qex, qix_qob, qix_0, qix_29, qob_f, qob_t, qM_f, qM_t, qset_f, qset_t, i01, i10, not_true_eq_false, not_false_eq_true, false_implies, true_implies, true_or, or_true, forall_const, qrs_nil, qrs_int, qrs_ref, qrs_ra]
  refine ⟨fun h0 => ?_, fun h0 => ?_⟩
  · cases hc : fOk x (mRq (qM i μ ν)) with
    | true =>
      rw [st_ok hc]
      exact h1 hc
    | false => exact absurd h0 (by rw [st_no hc]; decide)
  · cases hc : fOk x (mRq (qM i μ ν)) with
    | true => exact absurd (by rw [st_ok hc]; rfl) h0
    | false => exact h2 hc)
theorem vL_match (hlt : l.stackTraces = false) : SemL l z0 b D cA yL_match (Cond.codeWith yL_match cL_match 6 (some .int) [(0, 9, 10, 38)]) 8 130 5 1 tL_match := uL_match hlt (fun a μ ν Kn hok h => by
  obtain ⟨i, p, x, y, z, rfl, hs, hK⟩ := tL_match_i h
  refine ⟨i, ?_⟩
  simp only [bL_match_0, o_iload, o_aload, o_ic, o_lc, o_istore, o_astore, o_iinc, o_bin, o_idiv, o_ineg, o_i2c, o_i2l, o_lcmp, o_if1, o_if2, o_dup, o_dup2, o_getf, o_puti, o_ald, o_iast, o_cast, o_lald, o_last, o_mmin, o_mabs, o_ret, o_vret, o_throw, o_lsw01, o_callS0, o_callS1, o_callS2, o_callS3, o_callS4, o_callS5, o_callV0, o_callV1, o_callV2, o_callV3, o_callV4, o_callV5, o_rd0, o_rd1, o_rd2, o_rd3, o_wr0, o_wr1, o_wr2, o_wr3, o_tr0, o_tr1, o_tr2, o_tr3, o_tr4, o_to1, o_to4, o_cL, o_irem, o_ret2, zcall_no, zok_nil, zok_ref, zok_int, zE, List.map_cons, List.map_nil, List.length_cons, List.length_nil, List.replicate_succ, List.replicate_zero, List.cons_append, List.nil_append, List.append_nil, List.getElem?_cons_zero, List.getElem?_cons_succ, List.set_cons_zero, List.set_cons_succ, Option.toList_some, Option.toList_none, vp_nar_int, znar_b, zb_0, ne_eq, Bool.not_eq_false, Classical.not_not, nI_1, sh1_def, true_and, and_true, Nat.reduceAdd, Nat.reduceSub, Nat.reduceLT, Nat.reduceLeDiff, Value.category, Nat.zero_add, Nat.add_zero, qmu_M, qset_j, List.take_succ_cons, List.take_zero, List.drop_succ_cons, List.drop_zero, List.reverse_cons, List.reverse_nil, sr_def, qex, qix_qob, qix_0, qix_29, qob_f, qob_t, qM_f, qM_t, qset_f, qset_t, i01, i10, not_true_eq_false, not_false_eq_true, false_implies, true_implies, true_or, or_true, forall_const, qrs_nil, qrs_int, qrs_ref, qrs_ra]
  exact ⟨fun h0 => hK _ _, fun h0 => ⟨ma_2 hs, hK _ _⟩⟩)
theorem vL_does (hlt : l.stackTraces = false) : SemL l z0 b D cA yL_does (Cond.codeWith yL_does cL_does 6 (some .int) [(0, 129, 130, 38), (0, 129, 135, 41), (0, 129, 140, 43)]) 8 158 5 1 tL_does := uL_does hlt (fun a μ ν Kn hok h => by
  obtain ⟨i, h, x, y, z, rfl, hK⟩ := tL_does_i h
  refine ⟨i, ?_⟩
  simp only [bL_does_129, bL_does_119, bL_does_0, o_iload, o_aload, o_ic, o_lc, o_istore, o_astore, o_iinc, o_bin, o_idiv, o_ineg, o_i2c, o_i2l, o_lcmp, o_if1, o_if2, o_dup, o_dup2, o_getf, o_puti, o_ald, o_iast, o_cast, o_lald, o_last, o_mmin, o_mabs, o_ret, o_vret, o_throw, o_lsw01, o_callS0, o_callS1, o_callS2, o_callS3, o_callS4, o_callS5, o_callV0, o_callV1, o_callV2, o_callV3, o_callV4, o_callV5, o_rd0, o_rd1, o_rd2, o_rd3, o_wr0, o_wr1, o_wr2, o_wr3, o_tr0, o_tr1, o_tr2, o_tr3, o_tr4, o_to1, o_to4, o_cL, o_irem, o_ret2, zcall_no, zok_nil, zok_ref, zok_int, zE, List.map_cons, List.map_nil, List.length_cons, List.length_nil, List.replicate_succ, List.replicate_zero, List.cons_append, List.nil_append, List.append_nil, List.getElem?_cons_zero, List.getElem?_cons_succ, List.set_cons_zero, List.set_cons_succ, Option.toList_some, Option.toList_none, vp_nar_int, znar_b, zb_0, ne_eq, Bool.not_eq_false, Classical.not_not, nI_1, sh1_def, true_and, and_true, Nat.reduceAdd, Nat.reduceSub, Nat.reduceLT, Nat.reduceLeDiff, Value.category, Nat.zero_add, Nat.add_zero, qmu_M, qset_j, List.take_succ_cons, List.take_zero, List.drop_succ_cons, List.drop_zero, List.reverse_cons, List.reverse_nil, sr_def, qex, qix_qob, qix_0, qix_29, qob_f, qob_t, qM_f, qM_t, qset_f, qset_t, i01, i10, not_true_eq_false, not_false_eq_true, false_implies, true_implies, true_or, or_true, forall_const, qrs_nil, qrs_int, qrs_ref, qrs_ra]
  unfold gDoes at hK
  refine ⟨fun h0 => ⟨fun h1 => ⟨fun h2 => ⟨fun h3 => ⟨fun h4 => ⟨fun h5 => ⟨fun h8 => ?_, fun h8 => ⟨fun h6 => ?_, fun h6 => ?_⟩⟩, fun h5 => ?_⟩, fun h4 => ?_⟩, fun h3 => ?_⟩, fun h2 => ?_⟩, fun h1 => ?_⟩, fun h0 => ?_⟩
  · simp only [if_neg h0, if_neg h1, if_neg h2, if_neg h3, if_neg h4, if_neg h5, if_neg (Int32.not_lt.mpr h8)] at hK
    exact ⟨fun e => tl1 hK e, fun e => tl2 hK e⟩
  · simp only [if_neg h0, if_neg h1, if_neg h2, if_neg h3, if_neg h4, if_neg h5, if_pos (Int32.not_le.mp h8), decide_eq_false h6] at hK
    exact ⟨fun e => tl1 hK e, fun e => tl2 hK e⟩
  · simp only [if_neg h0, if_neg h1, if_neg h2, if_neg h3, if_neg h4, if_neg h5, if_pos (Int32.not_le.mp h8), decide_eq_true h6] at hK
    exact ⟨fun e => tl1 hK e, fun e => tl2 hK e⟩
  · simp only [if_neg h0, if_neg h1, if_neg h2, if_neg h3, if_neg h4, if_pos h5] at hK
    exact ⟨fun e => tl1 hK e, fun e => tl2 hK e⟩
  · simp only [if_neg h0, if_neg h1, if_neg h2, if_neg h3, if_pos h4] at hK
    exact ⟨fun e => tl1 hK e, fun e => tl2 hK e⟩
  · simp only [if_neg h0, if_neg h1, if_neg h2, if_pos h3] at hK
    exact ⟨fun e => tl1 hK e, fun e => tl2 hK e⟩
  · simp only [if_neg h0, if_neg h1, if_pos h2] at hK
    exact ⟨fun e => tl3 hK e, fun e => tl2 hK e⟩
  · simp only [if_neg h0, if_pos h1] at hK
    exact ⟨fun e => tl3 hK e, fun e => tl2 hK e⟩
  · simp only [if_pos h0] at hK
    exact ⟨fun e => tl1 hK e, fun e => tl2 hK e⟩)
end VLEAF
