theorem rem_nI {a b : Nat} (ha : a < 2 ^ 31) (hb0 : 0 < b) (hb : b < 2 ^ 31) : nI a - nI a / nI b * nI b = nI (a % b) := by
  have h1 := Nat.div_add_mod a b
  have h2 : b * (a / b) = a / b * b := Nat.mul_comm _ _
  rw [pk_div ha hb0 hb, pk_mul, pk_sub (by omega)]
  congr 1
  omega
theorem gRe_form {μ : zMS} {n i t : Nat} : ∀ j, gRe μ n i t j = -1 ∨ ∃ st c, st ≤ 24 ∧ c < j ∧ gRe μ n i t j = nI (100 * st + c)
  | 0 => Or.inl rfl
  | j + 1 => by
    unfold gRe
    split
    · next h =>
      rw [Bool.and_eq_true, Bool.and_eq_true] at h
      exact Or.inr ⟨_, j, of_decide_eq_true h.2.1, by omega, rfl⟩
    · rcases gRe_form (μ := μ) (n := n) (i := i) (t := t) j with h | ⟨st, c, h1, h2, h3⟩
      · exact Or.inl h
      · exact Or.inr ⟨st, c, h1, by omega, h3⟩
theorem reason_form {μ : zMS} {x y : Int32} {n : Nat} (e1 : mTg μ = nI n) (hn : n ≤ 24) (h : fOk x (mTh μ) = true) (h2 : fOk y (mTg μ) = true) : (gReason μ x y).1 < 0 ∨ ∃ st c, st ≤ 24 ∧ c < n ∧ (gReason μ x y).1 = nI (100 * st + c) := by
  have e : gReason μ x y = (if bt (gSh (vThr μ 0) (tn (mTg μ)) (tn x)) (tn y) then gRe (vThr μ 0) (tn (mTg μ)) (tn x) (tn y) (tn (mTg μ)) else -1, vThr μ 0) := by
    unfold gReason gThe
    rw [h, h2]
    exact gH_0
  rw [e]
  show (if bt (gSh (vThr μ 0) (tn (mTg μ)) (tn x)) (tn y) then gRe (vThr μ 0) (tn (mTg μ)) (tn x) (tn y) (tn (mTg μ)) else -1) < 0 ∨ ∃ st c, st ≤ 24 ∧ c < n ∧ (if bt (gSh (vThr μ 0) (tn (mTg μ)) (tn x)) (tn y) then gRe (vThr μ 0) (tn (mTg μ)) (tn x) (tn y) (tn (mTg μ)) else -1) = nI (100 * st + c)
  split
  · have hn' : tn (mTg μ) = n := by rw [e1, tn_nI (by omega)]
    rcases gRe_form (μ := vThr μ 0) (n := tn (mTg μ)) (i := tn x) (t := tn y) (tn (mTg μ)) with h | ⟨st, c, h1, h2, h3⟩
    · rw [h]; exact Or.inl (by decide)
    · exact Or.inr ⟨st, c, h1, by omega, h3⟩
  · exact Or.inl (by decide)
theorem why_ok {μ : zMS} {x y : Int32} {n : Nat} (e1 : mTg μ = nI n) (hn : n ≤ 24) (h : fOk x (mTh μ) = true) (h2 : fOk y (mTg μ) = true) (h3 : ¬ (gReason μ x y).1 < 0) : fOk ((gReason μ x y).1 - (gReason μ x y).1 / 100 * 100) (mTg μ) = true := by
  rcases reason_form e1 hn h h2 with h9 | ⟨st, c, a1, a2, a3⟩
  · exact absurd h9 h3
  · rw [a3, show (100 : Int32) = nI 100 from rfl, rem_nI (by omega) (by omega) (by omega), e1]
    exact (fOk_n (by omega)).mpr ⟨(100 * st + c) % 100, by omega, rfl⟩
section VSHOWN
variable {l : Launch} {z0 b N : Nat} {D : va_G} {cA : Nat → ClassId}
set_option maxHeartbeats 2000000 in
theorem vL_areShownSo (hlt : l.stackTraces = false) : SemL l z0 b D cA yL_areShownSo (Cond.code yL_areShownSo cL_areShownSo 11 (some .boolean)) 8 125 2 0 tL_areShownSo := uL_areShownSo hlt (fun a μ ν Kn hok h => by
  obtain ⟨i, x, rfl, hm, hx, hK⟩ := tL_areShownSo_i h
  refine ⟨i, fun A h76 h238 h260 => ?_⟩
  obtain ⟨n, m, q, kp, d, ⟨⟨e1, e2, e3, e4, e5, e6, -⟩, -⟩, -⟩ := hm
  have hok : ∀ k, k < n → fOk (nI k) (mTg (qM i μ ν)) = true := fun k hk => by rw [e1]; exact (fOk_n (by omega)).mpr ⟨k, hk, rfl⟩
  have L3 : ∀ (j : Nat) (sh ha k1 iss why iby : Int32), j < n → (∀ (bb : Int32) (y : Option Value), (bb = 0 ∨ bb = 1) → A 238 [some (.ref (qob i)), some (.int x), some (.int sh), some (.int ha), some (.int bb), some (.int k1), some (.int iss), some (.int why), some (.int iby), some (.int (nI (j + 1))), y] [] (μ, ν, 0, 0)) →
      ∀ f k (bb : Int32), (bb = 0 ∨ bb = 1) → k + f = n → A 260 [some (.ref (qob i)), some (.int x), some (.int sh), some (.int ha), some (.int bb), some (.int k1), some (.int iss), some (.int why), some (.int iby), some (.int (nI j)), some (.int (nI k))] [] (μ, ν, 0, 0) := by
    intro j sh ha k1 iss why iby hj HX f
    induction f with
    | zero =>
      intro k bb hb hk
      refine h260 _ _ _ ?_
      have hc : (mTg (qM i μ ν) ≤ nI k) = True := eq_true (q_le e1 (by omega) (by omega))
      simp only [bL_areShownSo_335, bL_areShownSo_329, bL_areShownSo_323, bL_areShownSo_315, bL_areShownSo_310, bL_areShownSo_260, bL_areShownSo_238, bL_areShownSo_233, bL_areShownSo_232, bL_areShownSo_228, bL_areShownSo_209, bL_areShownSo_143, bL_areShownSo_131, bL_areShownSo_105, bL_areShownSo_76, bL_areShownSo_71, bL_areShownSo_70, bL_areShownSo_63, bL_areShownSo_54, bL_areShownSo_0, cd_tags, cd_things, cd_kept, vl_tags, vl_things, vl_kept, hc, o_iload, o_aload, o_ic, o_lc, o_istore, o_astore, o_iinc, o_bin, o_idiv, o_ineg, o_i2c, o_i2l, o_lcmp, o_if1, o_if2, o_dup, o_dup2, o_getf, o_puti, o_ald, o_iast, o_cast, o_lald, o_last, o_mmin, o_mabs, o_ret, o_vret, o_throw, o_lsw01, o_callS0, o_callS1, o_callS2, o_callS3, o_callS4, o_callS5, o_callV0, o_callV1, o_callV2, o_callV3, o_callV4, o_callV5, o_rd0, o_rd1, o_rd2, o_rd3, o_wr0, o_wr1, o_wr2, o_wr3, o_tr0, o_tr1, o_tr2, o_tr3, o_tr4, o_to1, o_to4, o_cL, o_irem, o_ret2, zcall_no, zok_nil, zok_ref, zok_int, zE, List.map_cons, List.map_nil, List.length_cons, List.length_nil, List.replicate_succ, List.replicate_zero, List.cons_append, List.nil_append, List.append_nil, List.getElem?_cons_zero, List.getElem?_cons_succ, List.set_cons_zero, List.set_cons_succ, Option.toList_some, Option.toList_none, vp_nar_int, znar_b, zb_0, ne_eq, Bool.not_eq_false, Classical.not_not, nI_1, sh1_def, true_and, and_true, Nat.reduceAdd, Nat.reduceSub, Nat.reduceLT, Nat.reduceLeDiff, Value.category, Nat.zero_add, Nat.add_zero, qmu_M, qset_j, List.take_succ_cons, List.take_zero, List.drop_succ_cons, List.drop_zero, List.reverse_cons, List.reverse_nil, sr_def, qex, qix_qob, qix_0, qix_29, qob_f, qob_t, qM_f, qM_t, qset_f, qset_t, i01, i10, not_true_eq_false, not_false_eq_true, false_implies, true_implies, true_or, or_true, forall_const, qrs_nil, qrs_int, qrs_ref, qrs_ra]
      exact HX _ _ hb
    | succ f ih =>
      intro k bb hb hk
      refine h260 _ _ _ ?_
      have hc : (mTg (qM i μ ν) ≤ nI k) = False := eq_false (q_nle e1 (by omega) (by omega))
      have ok1 := hok k (by omega)
      have ok2 := hok j hj
      simp only [bL_areShownSo_335, bL_areShownSo_329, bL_areShownSo_323, bL_areShownSo_315, bL_areShownSo_310, bL_areShownSo_260, bL_areShownSo_238, bL_areShownSo_233, bL_areShownSo_232, bL_areShownSo_228, bL_areShownSo_209, bL_areShownSo_143, bL_areShownSo_131, bL_areShownSo_105, bL_areShownSo_76, bL_areShownSo_71, bL_areShownSo_70, bL_areShownSo_63, bL_areShownSo_54, bL_areShownSo_0, cd_tags, cd_things, cd_kept, vl_tags, vl_things, vl_kept, hc, o_iload, o_aload, o_ic, o_lc, o_istore, o_astore, o_iinc, o_bin, o_idiv, o_ineg, o_i2c, o_i2l, o_lcmp, o_if1, o_if2, o_dup, o_dup2, o_getf, o_puti, o_ald, o_iast, o_cast, o_lald, o_last, o_mmin, o_mabs, o_ret, o_vret, o_throw, o_lsw01, o_callS0, o_callS1, o_callS2, o_callS3, o_callS4, o_callS5, o_callV0, o_callV1, o_callV2, o_callV3, o_callV4, o_callV5, o_rd0, o_rd1, o_rd2, o_rd3, o_wr0, o_wr1, o_wr2, o_wr3, o_tr0, o_tr1, o_tr2, o_tr3, o_tr4, o_to1, o_to4, o_cL, o_irem, o_ret2, zcall_no, zok_nil, zok_ref, zok_int, zE, List.map_cons, List.map_nil, List.length_cons, List.length_nil, List.replicate_succ, List.replicate_zero, List.cons_append, List.nil_append, List.append_nil, List.getElem?_cons_zero, List.getElem?_cons_succ, List.set_cons_zero, List.set_cons_succ, Option.toList_some, Option.toList_none, vp_nar_int, znar_b, zb_0, ne_eq, Bool.not_eq_false, Classical.not_not, nI_1, sh1_def, true_and, and_true, Nat.reduceAdd, Nat.reduceSub, Nat.reduceLT, Nat.reduceLeDiff, Value.category, Nat.zero_add, Nat.add_zero, qmu_M, qset_j, List.take_succ_cons, List.take_zero, List.drop_succ_cons, List.drop_zero, List.reverse_cons, List.reverse_nil, sr_def, qex, qix_qob, qix_0, qix_29, qob_f, qob_t, qM_f, qM_t, qset_f, qset_t, i01, i10, not_true_eq_false, not_false_eq_true, false_implies, true_implies, true_or, or_true, forall_const, qrs_nil, qrs_int, qrs_ref, qrs_ra]
      have i0 := ih (k + 1) 0 (Or.inl rfl) (by omega)
      have i1 := ih (k + 1) 1 (Or.inr rfl) (by omega)
      have hx9 := HX bb (some (.int (nI k))) hb
      repeat' (first | apply And.intro | intro _ | with_reducible exact hx9 | with_reducible exact i0 | with_reducible exact i1 | with_reducible exact cd_end ok1 | with_reducible exact cd_end ok2 | with_reducible exact cd_implies ok1 ok2)
  have L2 : ∀ (sh ha k1 iss why iby : Int32), (∀ (bb : Int32) (y9 y10 : Option Value), (bb = 0 ∨ bb = 1) → A 76 [some (.ref (qob i)), some (.int x), some (.int sh), some (.int ha), some (.int bb), some (.int (k1 + 1)), some (.int iss), some (.int why), some (.int iby), y9, y10] [] (μ, ν, 0, 0)) →
      ∀ f j (bb : Int32) (y : Option Value), (bb = 0 ∨ bb = 1) → j + f = n → A 238 [some (.ref (qob i)), some (.int x), some (.int sh), some (.int ha), some (.int bb), some (.int k1), some (.int iss), some (.int why), some (.int iby), some (.int (nI j)), y] [] (μ, ν, 0, 0) := by
    intro sh ha k1 iss why iby HX f
    induction f with
    | zero =>
      intro j bb y hb hj
      refine h238 _ _ _ ?_
      have hc : (mTg (qM i μ ν) ≤ nI j) = True := eq_true (q_le e1 (by omega) (by omega))
      simp only [bL_areShownSo_335, bL_areShownSo_329, bL_areShownSo_323, bL_areShownSo_315, bL_areShownSo_310, bL_areShownSo_260, bL_areShownSo_238, bL_areShownSo_233, bL_areShownSo_232, bL_areShownSo_228, bL_areShownSo_209, bL_areShownSo_143, bL_areShownSo_131, bL_areShownSo_105, bL_areShownSo_76, bL_areShownSo_71, bL_areShownSo_70, bL_areShownSo_63, bL_areShownSo_54, bL_areShownSo_0, cd_tags, cd_things, cd_kept, vl_tags, vl_things, vl_kept, hc, o_iload, o_aload, o_ic, o_lc, o_istore, o_astore, o_iinc, o_bin, o_idiv, o_ineg, o_i2c, o_i2l, o_lcmp, o_if1, o_if2, o_dup, o_dup2, o_getf, o_puti, o_ald, o_iast, o_cast, o_lald, o_last, o_mmin, o_mabs, o_ret, o_vret, o_throw, o_lsw01, o_callS0, o_callS1, o_callS2, o_callS3, o_callS4, o_callS5, o_callV0, o_callV1, o_callV2, o_callV3, o_callV4, o_callV5, o_rd0, o_rd1, o_rd2, o_rd3, o_wr0, o_wr1, o_wr2, o_wr3, o_tr0, o_tr1, o_tr2, o_tr3, o_tr4, o_to1, o_to4, o_cL, o_irem, o_ret2, zcall_no, zok_nil, zok_ref, zok_int, zE, List.map_cons, List.map_nil, List.length_cons, List.length_nil, List.replicate_succ, List.replicate_zero, List.cons_append, List.nil_append, List.append_nil, List.getElem?_cons_zero, List.getElem?_cons_succ, List.set_cons_zero, List.set_cons_succ, Option.toList_some, Option.toList_none, vp_nar_int, znar_b, zb_0, ne_eq, Bool.not_eq_false, Classical.not_not, nI_1, sh1_def, true_and, and_true, Nat.reduceAdd, Nat.reduceSub, Nat.reduceLT, Nat.reduceLeDiff, Value.category, Nat.zero_add, Nat.add_zero, qmu_M, qset_j, List.take_succ_cons, List.take_zero, List.drop_succ_cons, List.drop_zero, List.reverse_cons, List.reverse_nil, sr_def, qex, qix_qob, qix_0, qix_29, qob_f, qob_t, qM_f, qM_t, qset_f, qset_t, i01, i10, not_true_eq_false, not_false_eq_true, false_implies, true_implies, true_or, or_true, forall_const, qrs_nil, qrs_int, qrs_ref, qrs_ra]
      exact HX _ _ _ hb
    | succ f ih =>
      intro j bb y hb hj
      refine h238 _ _ _ ?_
      have hc : (mTg (qM i μ ν) ≤ nI j) = False := eq_false (q_nle e1 (by omega) (by omega))
      have h3 : A 260 [some (.ref (qob i)), some (.int x), some (.int sh), some (.int ha), some (.int bb), some (.int k1), some (.int iss), some (.int why), some (.int iby), some (.int (nI j)), some (.int 0)] [] (μ, ν, 0, 0) := L3 j sh ha k1 iss why iby (by omega) (fun bb y hb => ih (j + 1) bb y hb (by omega)) n 0 bb hb (by omega)
      simp only [bL_areShownSo_335, bL_areShownSo_329, bL_areShownSo_323, bL_areShownSo_315, bL_areShownSo_310, bL_areShownSo_260, bL_areShownSo_238, bL_areShownSo_233, bL_areShownSo_232, bL_areShownSo_228, bL_areShownSo_209, bL_areShownSo_143, bL_areShownSo_131, bL_areShownSo_105, bL_areShownSo_76, bL_areShownSo_71, bL_areShownSo_70, bL_areShownSo_63, bL_areShownSo_54, bL_areShownSo_0, cd_tags, cd_things, cd_kept, vl_tags, vl_things, vl_kept, hc, o_iload, o_aload, o_ic, o_lc, o_istore, o_astore, o_iinc, o_bin, o_idiv, o_ineg, o_i2c, o_i2l, o_lcmp, o_if1, o_if2, o_dup, o_dup2, o_getf, o_puti, o_ald, o_iast, o_cast, o_lald, o_last, o_mmin, o_mabs, o_ret, o_vret, o_throw, o_lsw01, o_callS0, o_callS1, o_callS2, o_callS3, o_callS4, o_callS5, o_callV0, o_callV1, o_callV2, o_callV3, o_callV4, o_callV5, o_rd0, o_rd1, o_rd2, o_rd3, o_wr0, o_wr1, o_wr2, o_wr3, o_tr0, o_tr1, o_tr2, o_tr3, o_tr4, o_to1, o_to4, o_cL, o_irem, o_ret2, zcall_no, zok_nil, zok_ref, zok_int, zE, List.map_cons, List.map_nil, List.length_cons, List.length_nil, List.replicate_succ, List.replicate_zero, List.cons_append, List.nil_append, List.append_nil, List.getElem?_cons_zero, List.getElem?_cons_succ, List.set_cons_zero, List.set_cons_succ, Option.toList_some, Option.toList_none, vp_nar_int, znar_b, zb_0, ne_eq, Bool.not_eq_false, Classical.not_not, nI_1, sh1_def, true_and, and_true, Nat.reduceAdd, Nat.reduceSub, Nat.reduceLT, Nat.reduceLeDiff, Value.category, Nat.zero_add, Nat.add_zero, qmu_M, qset_j, List.take_succ_cons, List.take_zero, List.drop_succ_cons, List.drop_zero, List.reverse_cons, List.reverse_nil, sr_def, qex, qix_qob, qix_0, qix_29, qob_f, qob_t, qM_f, qM_t, qset_f, qset_t, i01, i10, not_true_eq_false, not_false_eq_true, false_implies, true_implies, true_or, or_true, forall_const, qrs_nil, qrs_int, qrs_ref, qrs_ra]
      repeat' (first | apply And.intro | intro _ | with_reducible exact HX _ _ _ hb | with_reducible exact h3)
  have L1 : ∀ f k (sh ha bb : Int32) (x6 x7 x8 x9 x10 : Option Value), (bb = 0 ∨ bb = 1) → k + f = n → A 76 [some (.ref (qob i)), some (.int x), some (.int sh), some (.int ha), some (.int bb), some (.int (nI k)), x6, x7, x8, x9, x10] [] (μ, ν, 0, 0) := by
    intro f
    induction f with
    | zero =>
      intro k sh ha bb x6 x7 x8 x9 x10 hb hk
      refine h76 _ _ _ ?_
      have hc : (mTg (qM i μ ν) ≤ nI k) = True := eq_true (q_le e1 (by omega) (by omega))
      simp only [bL_areShownSo_335, bL_areShownSo_329, bL_areShownSo_323, bL_areShownSo_315, bL_areShownSo_310, bL_areShownSo_260, bL_areShownSo_238, bL_areShownSo_233, bL_areShownSo_232, bL_areShownSo_228, bL_areShownSo_209, bL_areShownSo_143, bL_areShownSo_131, bL_areShownSo_105, bL_areShownSo_76, bL_areShownSo_71, bL_areShownSo_70, bL_areShownSo_63, bL_areShownSo_54, bL_areShownSo_0, cd_tags, cd_things, cd_kept, vl_tags, vl_things, vl_kept, hc, o_iload, o_aload, o_ic, o_lc, o_istore, o_astore, o_iinc, o_bin, o_idiv, o_ineg, o_i2c, o_i2l, o_lcmp, o_if1, o_if2, o_dup, o_dup2, o_getf, o_puti, o_ald, o_iast, o_cast, o_lald, o_last, o_mmin, o_mabs, o_ret, o_vret, o_throw, o_lsw01, o_callS0, o_callS1, o_callS2, o_callS3, o_callS4, o_callS5, o_callV0, o_callV1, o_callV2, o_callV3, o_callV4, o_callV5, o_rd0, o_rd1, o_rd2, o_rd3, o_wr0, o_wr1, o_wr2, o_wr3, o_tr0, o_tr1, o_tr2, o_tr3, o_tr4, o_to1, o_to4, o_cL, o_irem, o_ret2, zcall_no, zok_nil, zok_ref, zok_int, zE, List.map_cons, List.map_nil, List.length_cons, List.length_nil, List.replicate_succ, List.replicate_zero, List.cons_append, List.nil_append, List.append_nil, List.getElem?_cons_zero, List.getElem?_cons_succ, List.set_cons_zero, List.set_cons_succ, Option.toList_some, Option.toList_none, vp_nar_int, znar_b, zb_0, ne_eq, Bool.not_eq_false, Classical.not_not, nI_1, sh1_def, true_and, and_true, Nat.reduceAdd, Nat.reduceSub, Nat.reduceLT, Nat.reduceLeDiff, Value.category, Nat.zero_add, Nat.add_zero, qmu_M, qset_j, List.take_succ_cons, List.take_zero, List.drop_succ_cons, List.drop_zero, List.reverse_cons, List.reverse_nil, sr_def, qex, qix_qob, qix_0, qix_29, qob_f, qob_t, qM_f, qM_t, qset_f, qset_t, i01, i10, not_true_eq_false, not_false_eq_true, false_implies, true_implies, true_or, or_true, forall_const, qrs_nil, qrs_int, qrs_ref, qrs_ra]
      exact ⟨by rcases hb with rfl | rfl <;> rfl, hK _ _ hb⟩
    | succ f ih =>
      intro k sh ha bb x6 x7 x8 x9 x10 hb hk
      refine h76 _ _ _ ?_
      have hc : (mTg (qM i μ ν) ≤ nI k) = False := eq_false (q_nle e1 (by omega) (by omega))
      have ok1 := hok k (by omega)
      have hnar : narrow .boolean (.int bb) = .int bb := by rcases hb with rfl | rfl <;> rfl
      have h2 : ∀ (iss iby bb : Int32) (y : Option Value), (bb = 0 ∨ bb = 1) → A 238 [some (.ref (qob i)), some (.int x), some (.int sh), some (.int ha), some (.int bb), some (.int (nI k)), some (.int iss), some (.int (gReason (qM i μ ν) x (nI k)).1), some (.int iby), some (.int 0), y] [] (μ, ν, 0, 0) := fun iss iby bb y hb => L2 sh ha (nI k) iss (gReason (qM i μ ν) x (nI k)).1 iby (fun bb y9 y10 hb => by rw [nI_1]; exact ih (k + 1) sh ha bb _ _ _ y9 y10 hb (by omega)) n 0 bb y hb (by omega)
      have h20 := fun iss iby y => h2 iss iby 0 y (Or.inl rfl)
      have h21 := fun iss iby y => h2 iss iby 1 y (Or.inr rfl)
      have h100 : ¬ (100 : Int32) = 0 := by decide
      have hKb := hK bb 0 hb
      simp only [bL_areShownSo_335, bL_areShownSo_329, bL_areShownSo_323, bL_areShownSo_315, bL_areShownSo_310, bL_areShownSo_260, bL_areShownSo_238, bL_areShownSo_233, bL_areShownSo_232, bL_areShownSo_228, bL_areShownSo_209, bL_areShownSo_143, bL_areShownSo_131, bL_areShownSo_105, bL_areShownSo_76, bL_areShownSo_71, bL_areShownSo_70, bL_areShownSo_63, bL_areShownSo_54, bL_areShownSo_0, cd_tags, cd_things, cd_kept, vl_tags, vl_things, vl_kept, hc, o_iload, o_aload, o_ic, o_lc, o_istore, o_astore, o_iinc, o_bin, o_idiv, o_ineg, o_i2c, o_i2l, o_lcmp, o_if1, o_if2, o_dup, o_dup2, o_getf, o_puti, o_ald, o_iast, o_cast, o_lald, o_last, o_mmin, o_mabs, o_ret, o_vret, o_throw, o_lsw01, o_callS0, o_callS1, o_callS2, o_callS3, o_callS4, o_callS5, o_callV0, o_callV1, o_callV2, o_callV3, o_callV4, o_callV5, o_rd0, o_rd1, o_rd2, o_rd3, o_wr0, o_wr1, o_wr2, o_wr3, o_tr0, o_tr1, o_tr2, o_tr3, o_tr4, o_to1, o_to4, o_cL, o_irem, o_ret2, zcall_no, zok_nil, zok_ref, zok_int, zE, List.map_cons, List.map_nil, List.length_cons, List.length_nil, List.replicate_succ, List.replicate_zero, List.cons_append, List.nil_append, List.append_nil, List.getElem?_cons_zero, List.getElem?_cons_succ, List.set_cons_zero, List.set_cons_succ, Option.toList_some, Option.toList_none, vp_nar_int, znar_b, zb_0, ne_eq, Bool.not_eq_false, Classical.not_not, nI_1, sh1_def, true_and, and_true, Nat.reduceAdd, Nat.reduceSub, Nat.reduceLT, Nat.reduceLeDiff, Value.category, Nat.zero_add, Nat.add_zero, qmu_M, qset_j, List.take_succ_cons, List.take_zero, List.drop_succ_cons, List.drop_zero, List.reverse_cons, List.reverse_nil, sr_def, qex, qix_qob, qix_0, qix_29, qob_f, qob_t, qM_f, qM_t, qset_f, qset_t, i01, i10, not_true_eq_false, not_false_eq_true, false_implies, true_implies, true_or, or_true, forall_const, qrs_nil, qrs_int, qrs_ref, qrs_ra]
      repeat' (first | with_reducible exact h100 | apply And.intro | intro _ | with_reducible exact h20 _ _ _ | with_reducible exact h21 _ _ _ | with_reducible exact cd_reason hx ok1 | with_reducible exact cd_end ok1 | with_reducible exact cd_alias ok1 | with_reducible exact h100 | with_reducible exact hKb | with_reducible exact hnar | (refine cd_end (why_ok e1 e2 hx ok1 ?_); assumption))
  simp only [bL_areShownSo_335, bL_areShownSo_329, bL_areShownSo_323, bL_areShownSo_315, bL_areShownSo_310, bL_areShownSo_260, bL_areShownSo_238, bL_areShownSo_233, bL_areShownSo_232, bL_areShownSo_228, bL_areShownSo_209, bL_areShownSo_143, bL_areShownSo_131, bL_areShownSo_105, bL_areShownSo_76, bL_areShownSo_71, bL_areShownSo_70, bL_areShownSo_63, bL_areShownSo_54, bL_areShownSo_0, cd_tags, cd_things, cd_kept, vl_tags, vl_things, vl_kept, o_iload, o_aload, o_ic, o_lc, o_istore, o_astore, o_iinc, o_bin, o_idiv, o_ineg, o_i2c, o_i2l, o_lcmp, o_if1, o_if2, o_dup, o_dup2, o_getf, o_puti, o_ald, o_iast, o_cast, o_lald, o_last, o_mmin, o_mabs, o_ret, o_vret, o_throw, o_lsw01, o_callS0, o_callS1, o_callS2, o_callS3, o_callS4, o_callS5, o_callV0, o_callV1, o_callV2, o_callV3, o_callV4, o_callV5, o_rd0, o_rd1, o_rd2, o_rd3, o_wr0, o_wr1, o_wr2, o_wr3, o_tr0, o_tr1, o_tr2, o_tr3, o_tr4, o_to1, o_to4, o_cL, o_irem, o_ret2, zcall_no, zok_nil, zok_ref, zok_int, zE, List.map_cons, List.map_nil, List.length_cons, List.length_nil, List.replicate_succ, List.replicate_zero, List.cons_append, List.nil_append, List.append_nil, List.getElem?_cons_zero, List.getElem?_cons_succ, List.set_cons_zero, List.set_cons_succ, Option.toList_some, Option.toList_none, vp_nar_int, znar_b, zb_0, ne_eq, Bool.not_eq_false, Classical.not_not, nI_1, sh1_def, true_and, and_true, Nat.reduceAdd, Nat.reduceSub, Nat.reduceLT, Nat.reduceLeDiff, Value.category, Nat.zero_add, Nat.add_zero, qmu_M, qset_j, List.take_succ_cons, List.take_zero, List.drop_succ_cons, List.drop_zero, List.reverse_cons, List.reverse_nil, sr_def, qex, qix_qob, qix_0, qix_29, qob_f, qob_t, qM_f, qM_t, qset_f, qset_t, i01, i10, not_true_eq_false, not_false_eq_true, false_implies, true_implies, true_or, or_true, forall_const, qrs_nil, qrs_int, qrs_ref, qrs_ra]
  have l0 := fun sh ha => L1 n 0 sh ha 0 none none none none none (Or.inl rfl) (by omega)
  have l1 := fun sh ha => L1 n 0 sh ha 1 none none none none none (Or.inr rfl) (by omega)
  repeat' (first | apply And.intro | intro _ | exact l0 _ _ | exact l1 _ _ | exact cd_shown hx | exact cd_hand hx))
end VSHOWN
