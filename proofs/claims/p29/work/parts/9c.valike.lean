/-! what each question throws -/
section CD
variable {μ : zMS} {x y z : Int32}
theorem cd_tags : (gTags μ).2.1 = 0 := rfl
theorem cd_things : (gThings μ).2.1 = 0 := rfl
theorem cd_kept : (gKept μ).2.1 = 0 := rfl
theorem vl_tags : (gTags μ).1 = mTg μ := rfl
theorem vl_things : (gThings μ).1 = mTh μ := rfl
theorem vl_kept : (gKept μ).1 = mKp μ := rfl
theorem gh_c {p : Int32} {f : zMS → Int32} : (gH μ p (fun μ => (f μ, μ))).2.1 = p := by rw [ro_gH]; rfl
theorem cd_hand (h : fOk x (mTh μ) = true) : (gHand μ x).2.1 = 0 := gh_c.trans (by rw [h]; rfl)
theorem cd_shown (h : fOk x (mTh μ) = true) : (gShown μ x).2.1 = 0 := gh_c.trans (by rw [h]; rfl)
theorem cd_alias (h : fOk x (mTg μ) = true) : (gAlias μ x).2.1 = 0 := gh_c.trans (by rw [h]; rfl)
theorem cd_end (h : fOk x (mTg μ) = true) : (gEnd μ x).2.1 = 0 := gh_c.trans (by rw [h]; rfl)
theorem cd_users (h : fOk x (mTg μ) = true) : (gUsers μ x).2.1 = 0 := gh_c.trans (by rw [h]; rfl)
theorem cd_couldPass (h : fOk x (mRq μ) = true) : (gCouldPass μ x).2.1 = 0 := gh_c.trans (by rw [h]; rfl)
theorem cd_clashes (h : fOk x (mRq μ) = true) : (gClashes μ x).2.1 = 0 := gh_c.trans (by rw [h]; rfl)
theorem cd_implies (h : fOk x (mTg μ) = true) (h2 : fOk y (mTg μ) = true) : (gImplies μ x y).2.1 = 0 := gh_c.trans (by rw [h, h2]; rfl)
theorem cd_reason (h : fOk x (mTh μ) = true) (h2 : fOk y (mTg μ) = true) : (gReason μ x y).2.1 = 0 := gh_c.trans (by unfold gThe; rw [h, h2]; rfl)
theorem cd_count (h : gSet3 (tn (mTg μ)) x y z = true) : (gCount μ x y z).2.1 = 0 := gh_c.trans (by rw [h]; rfl)
theorem cd_letter (h : fOk x (mTg μ) = true) (h2 : fOk y (mLn μ (tn x)) = true) : (gLetter μ x y).2.1 = 0 := by
  unfold gLetter
  rw [h, h2]
  rfl
end CD
theorem q_nle {x : Int32} {n k : Nat} (h : x = nI n) (hn : n ≤ 1000) (hk : k < n) : ¬ x ≤ nI k := fun q => by
  rw [h] at q
  have := (nI_leI (by omega) (by omega)).mp q
  omega
theorem q_le {x : Int32} {n k : Nat} (h : x = nI n) (hk : k ≤ 1000) (hn : n ≤ k) : x ≤ nI k := by
  rw [h]
  exact (nI_leI (by omega) (by omega)).mpr hn
section VALIKE
variable {l : Launch} {z0 b N : Nat} {D : va_G} {cA : Nat → ClassId}
set_option maxHeartbeats 1000000 in
theorem vL_areAlike (hlt : l.stackTraces = false) : SemL l z0 b D cA yL_areAlike (Cond.code yL_areAlike cL_areAlike 4 (some .boolean)) 9 146 2 80 tL_areAlike := uL_areAlike hlt (vL_standing hlt) (fun a μ ν Kn hok h A h41 h108 h160 => by
  unfold tL_areAlike at h
  split at h
  rotate_left
  · exact h.elim
  obtain ⟨rfl, rfl, rfl, hm, hln, hK⟩ := h
  obtain ⟨n, m, q, kp, d, ⟨⟨e1, e2, e3, e4, e5, e6, -⟩, -⟩, -⟩ := hm
  have hrq : ∀ k, k < 2 ^ 31 → (fOk (nI k) (mRq μ) = true ↔ k < q) := fun k hk => by
    rw [e5, fOk_n (by omega)]
    exact ⟨fun ⟨j, hj, e⟩ => by rw [nI_ne hk (by omega) e]; exact hj, fun h => ⟨k, h, rfl⟩⟩
  have L3 : ∀ f k, k + f = 40 → A 160 [some (.ref 0), some (.ref 29), some (.int 1), some (.int (nI k))] [] (μ, μ, 2 * k, 2 * (k - q)) := by
    intro f
    induction f with
    | zero =>
      intro k hk
      refine h160 _ _ _ ?_
      simp only [bL_areAlike_195, bL_areAlike_188, bL_areAlike_160, bL_areAlike_158, bL_areAlike_151, bL_areAlike_150, bL_areAlike_108, bL_areAlike_106, bL_areAlike_99, bL_areAlike_98, bL_areAlike_41, bL_areAlike_38, bL_areAlike_37, bL_areAlike_0, tL_standing, o_iload, o_aload, o_ic, o_lc, o_istore, o_astore, o_iinc, o_bin, o_idiv, o_ineg, o_i2c, o_i2l, o_lcmp, o_if1, o_if2, o_dup, o_dup2, o_getf, o_puti, o_ald, o_iast, o_cast, o_lald, o_last, o_mmin, o_mabs, o_ret, o_vret, o_throw, o_lsw01, o_callS0, o_callS1, o_callS2, o_callS3, o_callS4, o_callS5, o_callV0, o_callV1, o_callV2, o_callV3, o_callV4, o_callV5, o_rd0, o_rd1, o_rd2, o_rd3, o_wr0, o_wr1, o_wr2, o_wr3, o_tr0, o_tr1, o_tr2, o_tr3, o_tr4, o_to1, o_to4, o_cL, o_irem, o_ret2, zcall_no, zok_nil, zok_ref, zok_int, zE, List.map_cons, List.map_nil, List.length_cons, List.length_nil, List.replicate_succ, List.replicate_zero, List.cons_append, List.nil_append, List.append_nil, List.getElem?_cons_zero, List.getElem?_cons_succ, List.set_cons_zero, List.set_cons_succ, Option.toList_some, Option.toList_none, vp_nar_int, znar_b, zb_0, ne_eq, Bool.not_eq_false, Classical.not_not, nI_1, sh1_def, true_and, and_true, Nat.reduceAdd, Nat.reduceSub, Nat.reduceLT, Nat.reduceLeDiff, Value.category, Nat.zero_add, Nat.add_zero, qmu_M, qset_j, List.take_succ_cons, List.take_zero, List.drop_succ_cons, List.drop_zero, List.reverse_cons, List.reverse_nil, sr_def, qex, qix_qob, qix_0, qix_29, qob_f, qob_t, qM_f, qM_t, qset_f, qset_t, i01, i10, not_true_eq_false, not_false_eq_true, false_implies, true_implies, true_or, or_true, forall_const, qrs_nil, qrs_int, qrs_ref, qrs_ra]
      exact ⟨fun _ => ⟨rfl, by omega, hK 1 _ (Or.inr rfl) (fun _ => by rw [e5, tn_nI (by omega)]; omega)⟩, fun h => absurd ((nI_leI (a := 40) (by omega) (by omega)).mpr (by omega)) h⟩
    | succ f ih =>
      intro k hk
      refine h160 _ _ _ ?_
      simp only [bL_areAlike_195, bL_areAlike_188, bL_areAlike_160, bL_areAlike_158, bL_areAlike_151, bL_areAlike_150, bL_areAlike_108, bL_areAlike_106, bL_areAlike_99, bL_areAlike_98, bL_areAlike_41, bL_areAlike_38, bL_areAlike_37, bL_areAlike_0, tL_standing, o_iload, o_aload, o_ic, o_lc, o_istore, o_astore, o_iinc, o_bin, o_idiv, o_ineg, o_i2c, o_i2l, o_lcmp, o_if1, o_if2, o_dup, o_dup2, o_getf, o_puti, o_ald, o_iast, o_cast, o_lald, o_last, o_mmin, o_mabs, o_ret, o_vret, o_throw, o_lsw01, o_callS0, o_callS1, o_callS2, o_callS3, o_callS4, o_callS5, o_callV0, o_callV1, o_callV2, o_callV3, o_callV4, o_callV5, o_rd0, o_rd1, o_rd2, o_rd3, o_wr0, o_wr1, o_wr2, o_wr3, o_tr0, o_tr1, o_tr2, o_tr3, o_tr4, o_to1, o_to4, o_cL, o_irem, o_ret2, zcall_no, zok_nil, zok_ref, zok_int, zE, List.map_cons, List.map_nil, List.length_cons, List.length_nil, List.replicate_succ, List.replicate_zero, List.cons_append, List.nil_append, List.append_nil, List.getElem?_cons_zero, List.getElem?_cons_succ, List.set_cons_zero, List.set_cons_succ, Option.toList_some, Option.toList_none, vp_nar_int, znar_b, zb_0, ne_eq, Bool.not_eq_false, Classical.not_not, nI_1, sh1_def, true_and, and_true, Nat.reduceAdd, Nat.reduceSub, Nat.reduceLT, Nat.reduceLeDiff, Value.category, Nat.zero_add, Nat.add_zero, qmu_M, qset_j, List.take_succ_cons, List.take_zero, List.drop_succ_cons, List.drop_zero, List.reverse_cons, List.reverse_nil, sr_def, qex, qix_qob, qix_0, qix_29, qob_f, qob_t, qM_f, qM_t, qset_f, qset_t, i01, i10, not_true_eq_false, not_false_eq_true, false_implies, true_implies, true_or, or_true, forall_const, qrs_nil, qrs_int, qrs_ref, qrs_ra]
      have h9 := ih (k + 1) (by omega)
      refine ⟨fun h => absurd ((nI_leI (a := 40) (by omega) (by omega)).mp h) (by omega), fun _ => ⟨by omega, fun h1 => ⟨by omega, fun _ => ?_, fun h2 => absurd (h1.symm.trans h2) (by decide)⟩, fun h1 => ⟨by omega, fun h2 => absurd (h1.symm.trans h2) (by decide), fun _ => ?_⟩⟩⟩
      · have h2 := (hrq k (by omega)).mp h1
        rw [show 2 * (k + 1) = 2 * k + 1 + 1 by omega, show 2 * (k + 1 - q) = 2 * (k - q) by omega] at h9
        exact h9
      · have h2 : ¬ k < q := fun h => absurd (((hrq k (by omega)).mpr h).symm.trans h1) (by decide)
        rw [show 2 * (k + 1) = 2 * k + 1 + 1 by omega, show 2 * (k + 1 - q) = 2 * (k - q) + 1 + 1 by omega] at h9
        exact h9
  have L2 : ∀ f k, k + f = m → A 108 [some (.ref 0), some (.ref 29), some (.int 1), some (.int (nI k))] [] (μ, μ, 0, 0) := by
    intro f
    induction f with
    | zero =>
      intro k hk
      refine h108 _ _ _ ?_
      simp only [bL_areAlike_195, bL_areAlike_188, bL_areAlike_160, bL_areAlike_158, bL_areAlike_151, bL_areAlike_150, bL_areAlike_108, bL_areAlike_106, bL_areAlike_99, bL_areAlike_98, bL_areAlike_41, bL_areAlike_38, bL_areAlike_37, bL_areAlike_0, tL_standing, cd_tags, cd_things, cd_kept, vl_tags, vl_things, vl_kept, o_iload, o_aload, o_ic, o_lc, o_istore, o_astore, o_iinc, o_bin, o_idiv, o_ineg, o_i2c, o_i2l, o_lcmp, o_if1, o_if2, o_dup, o_dup2, o_getf, o_puti, o_ald, o_iast, o_cast, o_lald, o_last, o_mmin, o_mabs, o_ret, o_vret, o_throw, o_lsw01, o_callS0, o_callS1, o_callS2, o_callS3, o_callS4, o_callS5, o_callV0, o_callV1, o_callV2, o_callV3, o_callV4, o_callV5, o_rd0, o_rd1, o_rd2, o_rd3, o_wr0, o_wr1, o_wr2, o_wr3, o_tr0, o_tr1, o_tr2, o_tr3, o_tr4, o_to1, o_to4, o_cL, o_irem, o_ret2, zcall_no, zok_nil, zok_ref, zok_int, zE, List.map_cons, List.map_nil, List.length_cons, List.length_nil, List.replicate_succ, List.replicate_zero, List.cons_append, List.nil_append, List.append_nil, List.getElem?_cons_zero, List.getElem?_cons_succ, List.set_cons_zero, List.set_cons_succ, Option.toList_some, Option.toList_none, vp_nar_int, znar_b, zb_0, ne_eq, Bool.not_eq_false, Classical.not_not, nI_1, sh1_def, true_and, and_true, Nat.reduceAdd, Nat.reduceSub, Nat.reduceLT, Nat.reduceLeDiff, Value.category, Nat.zero_add, Nat.add_zero, qmu_M, qset_j, List.take_succ_cons, List.take_zero, List.drop_succ_cons, List.drop_zero, List.reverse_cons, List.reverse_nil, sr_def, qex, qix_qob, qix_0, qix_29, qob_f, qob_t, qM_f, qM_t, qset_f, qset_t, i01, i10, not_true_eq_false, not_false_eq_true, false_implies, true_implies, true_or, or_true, forall_const, qrs_nil, qrs_int, qrs_ref, qrs_ra]
      refine ⟨fun _ => ?_, fun h => absurd (by rw [e3]; exact (nI_leI (by omega) (by omega)).mpr (by omega)) h⟩
      have h9 := L3 40 0 (by omega)
      rw [show 2 * (0 - q) = 0 by omega] at h9
      exact h9
    | succ f ih =>
      intro k hk
      refine h108 _ _ _ ?_
      simp only [bL_areAlike_195, bL_areAlike_188, bL_areAlike_160, bL_areAlike_158, bL_areAlike_151, bL_areAlike_150, bL_areAlike_108, bL_areAlike_106, bL_areAlike_99, bL_areAlike_98, bL_areAlike_41, bL_areAlike_38, bL_areAlike_37, bL_areAlike_0, tL_standing, cd_tags, cd_things, cd_kept, vl_tags, vl_things, vl_kept, o_iload, o_aload, o_ic, o_lc, o_istore, o_astore, o_iinc, o_bin, o_idiv, o_ineg, o_i2c, o_i2l, o_lcmp, o_if1, o_if2, o_dup, o_dup2, o_getf, o_puti, o_ald, o_iast, o_cast, o_lald, o_last, o_mmin, o_mabs, o_ret, o_vret, o_throw, o_lsw01, o_callS0, o_callS1, o_callS2, o_callS3, o_callS4, o_callS5, o_callV0, o_callV1, o_callV2, o_callV3, o_callV4, o_callV5, o_rd0, o_rd1, o_rd2, o_rd3, o_wr0, o_wr1, o_wr2, o_wr3, o_tr0, o_tr1, o_tr2, o_tr3, o_tr4, o_to1, o_to4, o_cL, o_irem, o_ret2, zcall_no, zok_nil, zok_ref, zok_int, zE, List.map_cons, List.map_nil, List.length_cons, List.length_nil, List.replicate_succ, List.replicate_zero, List.cons_append, List.nil_append, List.append_nil, List.getElem?_cons_zero, List.getElem?_cons_succ, List.set_cons_zero, List.set_cons_succ, Option.toList_some, Option.toList_none, vp_nar_int, znar_b, zb_0, ne_eq, Bool.not_eq_false, Classical.not_not, nI_1, sh1_def, true_and, and_true, Nat.reduceAdd, Nat.reduceSub, Nat.reduceLT, Nat.reduceLeDiff, Value.category, Nat.zero_add, Nat.add_zero, qmu_M, qset_j, List.take_succ_cons, List.take_zero, List.drop_succ_cons, List.drop_zero, List.reverse_cons, List.reverse_nil, sr_def, qex, qix_qob, qix_0, qix_29, qob_f, qob_t, qM_f, qM_t, qset_f, qset_t, i01, i10, not_true_eq_false, not_false_eq_true, false_implies, true_implies, true_or, or_true, forall_const, qrs_nil, qrs_int, qrs_ref, qrs_ra]
      refine ⟨fun h => absurd h (q_nle e3 (by omega) (by omega)), fun _ => ?_⟩
      have ho : fOk (nI k) (mTh μ) = true := by rw [e3]; exact (fOk_n (by omega)).mpr ⟨k, by omega, rfl⟩
      exact ⟨cd_hand ho, cd_hand ho, cd_shown ho, cd_shown ho, ih (k + 1) (by omega)⟩
  have L1 : ∀ f k, k + f = n → A 41 [some (.ref 0), some (.ref 29), some (.int 1), some (.int (nI k))] [] (μ, μ, 0, 0) := by
    intro f
    induction f with
    | zero =>
      intro k hk
      refine h41 _ _ _ ?_
      simp only [bL_areAlike_195, bL_areAlike_188, bL_areAlike_160, bL_areAlike_158, bL_areAlike_151, bL_areAlike_150, bL_areAlike_108, bL_areAlike_106, bL_areAlike_99, bL_areAlike_98, bL_areAlike_41, bL_areAlike_38, bL_areAlike_37, bL_areAlike_0, tL_standing, cd_tags, cd_things, cd_kept, vl_tags, vl_things, vl_kept, o_iload, o_aload, o_ic, o_lc, o_istore, o_astore, o_iinc, o_bin, o_idiv, o_ineg, o_i2c, o_i2l, o_lcmp, o_if1, o_if2, o_dup, o_dup2, o_getf, o_puti, o_ald, o_iast, o_cast, o_lald, o_last, o_mmin, o_mabs, o_ret, o_vret, o_throw, o_lsw01, o_callS0, o_callS1, o_callS2, o_callS3, o_callS4, o_callS5, o_callV0, o_callV1, o_callV2, o_callV3, o_callV4, o_callV5, o_rd0, o_rd1, o_rd2, o_rd3, o_wr0, o_wr1, o_wr2, o_wr3, o_tr0, o_tr1, o_tr2, o_tr3, o_tr4, o_to1, o_to4, o_cL, o_irem, o_ret2, zcall_no, zok_nil, zok_ref, zok_int, zE, List.map_cons, List.map_nil, List.length_cons, List.length_nil, List.replicate_succ, List.replicate_zero, List.cons_append, List.nil_append, List.append_nil, List.getElem?_cons_zero, List.getElem?_cons_succ, List.set_cons_zero, List.set_cons_succ, Option.toList_some, Option.toList_none, vp_nar_int, znar_b, zb_0, ne_eq, Bool.not_eq_false, Classical.not_not, nI_1, sh1_def, true_and, and_true, Nat.reduceAdd, Nat.reduceSub, Nat.reduceLT, Nat.reduceLeDiff, Value.category, Nat.zero_add, Nat.add_zero, qmu_M, qset_j, List.take_succ_cons, List.take_zero, List.drop_succ_cons, List.drop_zero, List.reverse_cons, List.reverse_nil, sr_def, qex, qix_qob, qix_0, qix_29, qob_f, qob_t, qM_f, qM_t, qset_f, qset_t, i01, i10, not_true_eq_false, not_false_eq_true, false_implies, true_implies, true_or, or_true, forall_const, qrs_nil, qrs_int, qrs_ref, qrs_ra]
      exact ⟨fun _ => L2 m 0 (by omega), fun h => absurd (by rw [e1]; exact (nI_leI (by omega) (by omega)).mpr (by omega)) h⟩
    | succ f ih =>
      intro k hk
      refine h41 _ _ _ ?_
      simp only [bL_areAlike_195, bL_areAlike_188, bL_areAlike_160, bL_areAlike_158, bL_areAlike_151, bL_areAlike_150, bL_areAlike_108, bL_areAlike_106, bL_areAlike_99, bL_areAlike_98, bL_areAlike_41, bL_areAlike_38, bL_areAlike_37, bL_areAlike_0, tL_standing, cd_tags, cd_things, cd_kept, vl_tags, vl_things, vl_kept, o_iload, o_aload, o_ic, o_lc, o_istore, o_astore, o_iinc, o_bin, o_idiv, o_ineg, o_i2c, o_i2l, o_lcmp, o_if1, o_if2, o_dup, o_dup2, o_getf, o_puti, o_ald, o_iast, o_cast, o_lald, o_last, o_mmin, o_mabs, o_ret, o_vret, o_throw, o_lsw01, o_callS0, o_callS1, o_callS2, o_callS3, o_callS4, o_callS5, o_callV0, o_callV1, o_callV2, o_callV3, o_callV4, o_callV5, o_rd0, o_rd1, o_rd2, o_rd3, o_wr0, o_wr1, o_wr2, o_wr3, o_tr0, o_tr1, o_tr2, o_tr3, o_tr4, o_to1, o_to4, o_cL, o_irem, o_ret2, zcall_no, zok_nil, zok_ref, zok_int, zE, List.map_cons, List.map_nil, List.length_cons, List.length_nil, List.replicate_succ, List.replicate_zero, List.cons_append, List.nil_append, List.append_nil, List.getElem?_cons_zero, List.getElem?_cons_succ, List.set_cons_zero, List.set_cons_succ, Option.toList_some, Option.toList_none, vp_nar_int, znar_b, zb_0, ne_eq, Bool.not_eq_false, Classical.not_not, nI_1, sh1_def, true_and, and_true, Nat.reduceAdd, Nat.reduceSub, Nat.reduceLT, Nat.reduceLeDiff, Value.category, Nat.zero_add, Nat.add_zero, qmu_M, qset_j, List.take_succ_cons, List.take_zero, List.drop_succ_cons, List.drop_zero, List.reverse_cons, List.reverse_nil, sr_def, qex, qix_qob, qix_0, qix_29, qob_f, qob_t, qM_f, qM_t, qset_f, qset_t, i01, i10, not_true_eq_false, not_false_eq_true, false_implies, true_implies, true_or, or_true, forall_const, qrs_nil, qrs_int, qrs_ref, qrs_ra]
      refine ⟨fun h => absurd h (q_nle e1 (by omega) (by omega)), fun _ => ?_⟩
      have ho : fOk (nI k) (mTg μ) = true := by rw [e1]; exact (fOk_n (by omega)).mpr ⟨k, by omega, rfl⟩
      have hl : fOk 0 (mLn μ (tn (nI k))) = true := by
        rw [tn_nI (by omega)]
        unfold fOk
        rw [decide_eq_true (by decide), decide_eq_true (hln k (by rw [e1, tn_nI (by omega)]; omega))]
        rfl
      exact ⟨cd_alias ho, cd_alias ho, cd_users ho, cd_users ho, cd_letter ho hl, cd_letter ho hl, ih (k + 1) (by omega)⟩
  simp only [bL_areAlike_195, bL_areAlike_188, bL_areAlike_160, bL_areAlike_158, bL_areAlike_151, bL_areAlike_150, bL_areAlike_108, bL_areAlike_106, bL_areAlike_99, bL_areAlike_98, bL_areAlike_41, bL_areAlike_38, bL_areAlike_37, bL_areAlike_0, tL_standing, cd_tags, cd_things, cd_kept, vl_tags, vl_things, vl_kept, o_iload, o_aload, o_ic, o_lc, o_istore, o_astore, o_iinc, o_bin, o_idiv, o_ineg, o_i2c, o_i2l, o_lcmp, o_if1, o_if2, o_dup, o_dup2, o_getf, o_puti, o_ald, o_iast, o_cast, o_lald, o_last, o_mmin, o_mabs, o_ret, o_vret, o_throw, o_lsw01, o_callS0, o_callS1, o_callS2, o_callS3, o_callS4, o_callS5, o_callV0, o_callV1, o_callV2, o_callV3, o_callV4, o_callV5, o_rd0, o_rd1, o_rd2, o_rd3, o_wr0, o_wr1, o_wr2, o_wr3, o_tr0, o_tr1, o_tr2, o_tr3, o_tr4, o_to1, o_to4, o_cL, o_irem, o_ret2, zcall_no, zok_nil, zok_ref, zok_int, zE, List.map_cons, List.map_nil, List.length_cons, List.length_nil, List.replicate_succ, List.replicate_zero, List.cons_append, List.nil_append, List.append_nil, List.getElem?_cons_zero, List.getElem?_cons_succ, List.set_cons_zero, List.set_cons_succ, Option.toList_some, Option.toList_none, vp_nar_int, znar_b, zb_0, ne_eq, Bool.not_eq_false, Classical.not_not, nI_1, sh1_def, true_and, and_true, Nat.reduceAdd, Nat.reduceSub, Nat.reduceLT, Nat.reduceLeDiff, Value.category, Nat.zero_add, Nat.add_zero, qmu_M, qset_j, List.take_succ_cons, List.take_zero, List.drop_succ_cons, List.drop_zero, List.reverse_cons, List.reverse_nil, sr_def, qex, qix_qob, qix_0, qix_29, qob_f, qob_t, qM_f, qM_t, qset_f, qset_t, i01, i10, not_true_eq_false, not_false_eq_true, false_implies, true_implies, true_or, or_true, forall_const, qrs_nil, qrs_int, qrs_ref, qrs_ra]
  exact L1 n 0 (by omega))
end VALIKE
