theorem gMm_le {μ : zMS} {n : Nat} {x y z : Int32} : ∀ i, gMm μ n x y z i ≤ i
  | 0 => Nat.le_refl _
  | i + 1 => by
    unfold gMm
    have := gMm_le (μ := μ) (n := n) (x := x) (y := y) (z := z) i
    split <;> omega
theorem count_form {μ : zMS} {x y z : Int32} {m : Nat} (e3 : mTh μ = nI m) (hm : m ≤ 20) (h : gSet3 (tn (mTg μ)) x y z = true) : ∃ c, c ≤ m ∧ (gCount μ x y z).1 = nI c := by
  have e : gCount μ x y z = (nI (gMm (vThr μ 0) (tn (mTg μ)) x y z (tn (mTh μ))), vThr μ 0) := by
    unfold gCount
    rw [h]
    exact gH_0
  rw [e]
  refine ⟨_, ?_, rfl⟩
  have h9 := gMm_le (μ := vThr μ 0) (n := tn (mTg μ)) (x := x) (y := y) (z := z) (tn (mTh μ))
  have h8 : tn (mTh μ) = m := by rw [e3, tn_nI (by omega)]
  omega
theorem set3_x {n : Nat} {x y z : Int32} (h : gSet3 n x y z = true) : gSet3 n x 0 0 = true ∧ gSet3 n 0 0 0 = true := by
  unfold gSet3 at h ⊢
  simp only [Bool.and_eq_true, decide_eq_true_eq] at h ⊢
  have h0 : (0 : Int32) < sh1 n := Int32.lt_of_le_of_lt h.1.1 h.1.2
  have hz : (0 : Int32) ≤ 0 := by decide
  exact ⟨⟨h.1, ⟨hz, h0⟩, hz, h0⟩, ⟨hz, h0⟩, ⟨hz, h0⟩, hz, h0⟩
theorem fOk_m1 {x n : Int32} (h : fOk x n = true) : -1 ≤ x := by
  unfold fOk at h
  rw [Bool.and_eq_true, decide_eq_true_eq] at h
  exact Int32.le_trans (by decide) h.1
theorem fOk_of {l x n : Int32} (h : -1 ≤ l) (h1 : ¬ x ≤ l) (h2 : ¬ n ≤ x) : fOk x n = true := by
  have h3 : (-1 : Int32) < x := Int32.lt_of_le_of_lt h (Int32.not_le.mp h1)
  have h4 : (0 : Int32) ≤ x := by
    rw [Int32.le_iff_toInt_le]
    rw [Int32.lt_iff_toInt_lt] at h3
    have a1 : (-1 : Int32).toInt = -1 := by decide
    have a2 : (0 : Int32).toInt = 0 := by decide
    omega
  unfold fOk
  rw [decide_eq_true h4, decide_eq_true (Int32.not_le.mp h2)]
  rfl
section VCOUNTED
variable {l : Launch} {z0 b N : Nat} {D : va_G} {cA : Nat → ClassId}
set_option maxHeartbeats 2000000 in
theorem vL_areCountedSo (hlt : l.stackTraces = false) : SemL l z0 b D cA yL_areCountedSo (Cond.code yL_areCountedSo cL_areCountedSo 11 (some .boolean)) 9 155 4 30 tL_areCountedSo := uL_areCountedSo hlt (vL_match hlt) (fun a μ ν Kn hok h => by
  obtain ⟨i, x, y, z, rfl, hm, hs, hK⟩ := tL_areCountedSo_i h
  refine ⟨i, fun A h63 h116 => ?_⟩
  obtain ⟨n, m, q, kp, d, ⟨⟨e1, e2, e3, e4, e5, e6, e7, e8, e9, e10, e11, e12, e13, e14, -⟩, -⟩, -⟩ := hm
  obtain ⟨c, hcm, hcnt⟩ := count_form e3 e4 hs
  obtain ⟨hs1, hs0⟩ := set3_x hs
  have hok : ∀ k, k < n → fOk (nI k) (mTg (qM i μ ν)) = true := fun k hk => by rw [e1]; exact (fOk_n (by omega)).mpr ⟨k, hk, rfl⟩
  have hK0 : ∀ g, Kn 0 μ ν g := fun g => hK 0 g (Or.inl rfl)
  have hK1 : ∀ g, Kn 1 μ ν g := fun g => hK 1 g (Or.inr rfl)
  have hn0 : narrow .boolean (.int 0) = .int 0 := rfl
  have hn1 : narrow .boolean (.int 1) = .int 1 := rfl
  have hc1 := cd_count hs1
  have hc0 := cd_count hs0
  have hcx := cd_count hs
  have L1 : ∀ f k (bb last : Int32) (y8 y9 y10 : Option Value) (j g : Nat), (bb = 0 ∨ bb = 1) → (bb = 1 → -1 ≤ last) → k + f = c → j ≤ 2 + k → A 63 [some (.ref (qob i)), some (.int x), some (.int y), some (.int z), some (.int (nI c)), some (.int last), some (.int bb), some (.int (nI k)), y8, y9, y10] [] (μ, ν, j, g) := by
    intro f
    induction f with
    | zero =>
      intro k bb last y8 y9 y10 j g hb hl hk hj
      refine h63 _ _ _ ?_
      have hc : (nI c ≤ nI k) = True := eq_true ((nI_leI (by omega) (by omega)).mpr (by omega))
      simp only [bL_areCountedSo_247, bL_areCountedSo_246, bL_areCountedSo_242, bL_areCountedSo_203, bL_areCountedSo_197, bL_areCountedSo_189, bL_areCountedSo_188, bL_areCountedSo_184, bL_areCountedSo_170, bL_areCountedSo_154, bL_areCountedSo_116, bL_areCountedSo_107, bL_areCountedSo_106, bL_areCountedSo_63, bL_areCountedSo_58, bL_areCountedSo_57, bL_areCountedSo_0, tL_match, cd_tags, cd_things, cd_kept, vl_tags, vl_things, vl_kept, hc, o_iload, o_aload, o_ic, o_lc, o_istore, o_astore, o_iinc, o_bin, o_idiv, o_ineg, o_i2c, o_i2l, o_lcmp, o_if1, o_if2, o_dup, o_dup2, o_getf, o_puti, o_ald, o_iast, o_cast, o_lald, o_last, o_mmin, o_mabs, o_ret, o_vret, o_throw, o_lsw01, o_callS0, o_callS1, o_callS2, o_callS3, o_callS4, o_callS5, o_callV0, o_callV1, o_callV2, o_callV3, o_callV4, o_callV5, o_rd0, o_rd1, o_rd2, o_rd3, o_wr0, o_wr1, o_wr2, o_wr3, o_tr0, o_tr1, o_tr2, o_tr3, o_tr4, o_to1, o_to4, o_cL, o_irem, o_ret2, zcall_no, zok_nil, zok_ref, zok_int, zE, List.map_cons, List.map_nil, List.length_cons, List.length_nil, List.replicate_succ, List.replicate_zero, List.cons_append, List.nil_append, List.append_nil, List.getElem?_cons_zero, List.getElem?_cons_succ, List.set_cons_zero, List.set_cons_succ, Option.toList_some, Option.toList_none, vp_nar_int, znar_b, zb_0, ne_eq, Bool.not_eq_false, Classical.not_not, nI_1, sh1_def, true_and, and_true, Nat.reduceAdd, Nat.reduceSub, Nat.reduceLT, Nat.reduceLeDiff, Value.category, Nat.zero_add, Nat.add_zero, qmu_M, qset_j, List.take_succ_cons, List.take_zero, List.drop_succ_cons, List.drop_zero, List.reverse_cons, List.reverse_nil, sr_def, qex, qix_qob, qix_0, qix_29, qob_f, qob_t, qM_f, qM_t, qset_f, qset_t, i01, i10, not_true_eq_false, not_false_eq_true, false_implies, true_implies, true_or, or_true, forall_const, qrs_nil, qrs_int, qrs_ref, qrs_ra]
      repeat' (first | with_reducible exact hc1 | with_reducible exact hc0 | with_reducible exact hK0 _ | with_reducible exact hK1 _ | with_reducible exact hn0 | with_reducible exact hn1 | apply And.intro | intro _ | omega)
    | succ f ih =>
      intro k bb last y8 y9 y10 j g hb hl hk hj
      refine h63 _ _ _ ?_
      have hc : (nI c ≤ nI k) = False := eq_false (fun h => absurd ((nI_leI (by omega) (by omega)).mp h) (by omega))
      have L2 : ∀ f2 k2 (b2 th : Int32) (z9 z10 : Option Value) (g2 : Nat), (b2 = 0 ∨ b2 = 1) → (b2 = 1 → fOk th (mTh (qM i μ ν)) = true) → k2 + f2 = n → A 116 [some (.ref (qob i)), some (.int x), some (.int y), some (.int z), some (.int (nI c)), some (.int th), some (.int b2), some (.int (nI k)), some (.int th), some (.int (nI k2)), z10] [] (μ, ν, j + 1, g2) := by
        intro f2
        induction f2 with
        | zero =>
          intro k2 b2 th z9 z10 g2 hb2 hth hk2
          refine h116 _ _ _ ?_
          have hc2 : (mTg (qM i μ ν) ≤ nI k2) = True := eq_true (q_le e1 (by omega) (by omega))
          simp only [bL_areCountedSo_247, bL_areCountedSo_246, bL_areCountedSo_242, bL_areCountedSo_203, bL_areCountedSo_197, bL_areCountedSo_189, bL_areCountedSo_188, bL_areCountedSo_184, bL_areCountedSo_170, bL_areCountedSo_154, bL_areCountedSo_116, bL_areCountedSo_107, bL_areCountedSo_106, bL_areCountedSo_63, bL_areCountedSo_58, bL_areCountedSo_57, bL_areCountedSo_0, tL_match, cd_tags, cd_things, cd_kept, vl_tags, vl_things, vl_kept, hc2, o_iload, o_aload, o_ic, o_lc, o_istore, o_astore, o_iinc, o_bin, o_idiv, o_ineg, o_i2c, o_i2l, o_lcmp, o_if1, o_if2, o_dup, o_dup2, o_getf, o_puti, o_ald, o_iast, o_cast, o_lald, o_last, o_mmin, o_mabs, o_ret, o_vret, o_throw, o_lsw01, o_callS0, o_callS1, o_callS2, o_callS3, o_callS4, o_callS5, o_callV0, o_callV1, o_callV2, o_callV3, o_callV4, o_callV5, o_rd0, o_rd1, o_rd2, o_rd3, o_wr0, o_wr1, o_wr2, o_wr3, o_tr0, o_tr1, o_tr2, o_tr3, o_tr4, o_to1, o_to4, o_cL, o_irem, o_ret2, zcall_no, zok_nil, zok_ref, zok_int, zE, List.map_cons, List.map_nil, List.length_cons, List.length_nil, List.replicate_succ, List.replicate_zero, List.cons_append, List.nil_append, List.append_nil, List.getElem?_cons_zero, List.getElem?_cons_succ, List.set_cons_zero, List.set_cons_succ, Option.toList_some, Option.toList_none, vp_nar_int, znar_b, zb_0, ne_eq, Bool.not_eq_false, Classical.not_not, nI_1, sh1_def, true_and, and_true, Nat.reduceAdd, Nat.reduceSub, Nat.reduceLT, Nat.reduceLeDiff, Value.category, Nat.zero_add, Nat.add_zero, qmu_M, qset_j, List.take_succ_cons, List.take_zero, List.drop_succ_cons, List.drop_zero, List.reverse_cons, List.reverse_nil, sr_def, qex, qix_qob, qix_0, qix_29, qob_f, qob_t, qM_f, qM_t, qset_f, qset_t, i01, i10, not_true_eq_false, not_false_eq_true, false_implies, true_implies, true_or, or_true, forall_const, qrs_nil, qrs_int, qrs_ref, qrs_ra]
          exact ⟨by omega, ih (k + 1) b2 th _ _ _ _ _ hb2 (fun h => fOk_m1 (hth h)) (by omega) (by omega)⟩
        | succ f2 ih2 =>
          intro k2 b2 th z9 z10 g2 hb2 hth hk2
          refine h116 _ _ _ ?_
          have hc2 : (mTg (qM i μ ν) ≤ nI k2) = False := eq_false (q_nle e1 (by omega) (by omega))
          simp only [bL_areCountedSo_247, bL_areCountedSo_246, bL_areCountedSo_242, bL_areCountedSo_203, bL_areCountedSo_197, bL_areCountedSo_189, bL_areCountedSo_188, bL_areCountedSo_184, bL_areCountedSo_170, bL_areCountedSo_154, bL_areCountedSo_116, bL_areCountedSo_107, bL_areCountedSo_106, bL_areCountedSo_63, bL_areCountedSo_58, bL_areCountedSo_57, bL_areCountedSo_0, tL_match, cd_tags, cd_things, cd_kept, vl_tags, vl_things, vl_kept, hc2, o_iload, o_aload, o_ic, o_lc, o_istore, o_astore, o_iinc, o_bin, o_idiv, o_ineg, o_i2c, o_i2l, o_lcmp, o_if1, o_if2, o_dup, o_dup2, o_getf, o_puti, o_ald, o_iast, o_cast, o_lald, o_last, o_mmin, o_mabs, o_ret, o_vret, o_throw, o_lsw01, o_callS0, o_callS1, o_callS2, o_callS3, o_callS4, o_callS5, o_callV0, o_callV1, o_callV2, o_callV3, o_callV4, o_callV5, o_rd0, o_rd1, o_rd2, o_rd3, o_wr0, o_wr1, o_wr2, o_wr3, o_tr0, o_tr1, o_tr2, o_tr3, o_tr4, o_to1, o_to4, o_cL, o_irem, o_ret2, zcall_no, zok_nil, zok_ref, zok_int, zE, List.map_cons, List.map_nil, List.length_cons, List.length_nil, List.replicate_succ, List.replicate_zero, List.cons_append, List.nil_append, List.append_nil, List.getElem?_cons_zero, List.getElem?_cons_succ, List.set_cons_zero, List.set_cons_succ, Option.toList_some, Option.toList_none, vp_nar_int, znar_b, zb_0, ne_eq, Bool.not_eq_false, Classical.not_not, nI_1, sh1_def, true_and, and_true, Nat.reduceAdd, Nat.reduceSub, Nat.reduceLT, Nat.reduceLeDiff, Value.category, Nat.zero_add, Nat.add_zero, qmu_M, qset_j, List.take_succ_cons, List.take_zero, List.drop_succ_cons, List.drop_zero, List.reverse_cons, List.reverse_nil, sr_def, qex, qix_qob, qix_0, qix_29, qob_f, qob_t, qM_f, qM_t, qset_f, qset_t, i01, i10, not_true_eq_false, not_false_eq_true, false_implies, true_implies, true_or, or_true, forall_const, qrs_nil, qrs_int, qrs_ref, qrs_ra]
          refine ⟨by omega, fun h0 => ih (k + 1) b2 th _ _ _ _ _ hb2 (fun h => fOk_m1 (hth h)) (by omega) (by omega), fun h0 => ?_⟩
          have hth' := hth (hb2.resolve_left h0)
          have okk := hok k2 (by omega)
          have i0 := fun z10 => ih2 (k2 + 1) 0 th none z10 g2 (Or.inl rfl) (fun h => absurd h (by decide)) (by omega)
          have i1 := fun z10 => ih2 (k2 + 1) 1 th none z10 g2 (Or.inr rfl) (fun _ => hth') (by omega)
          repeat' (first | with_reducible exact i0 _ | with_reducible exact i1 _ | with_reducible exact cd_shown hth' | with_reducible exact cd_end okk | apply And.intro | intro _ | omega)
      simp only [bL_areCountedSo_247, bL_areCountedSo_246, bL_areCountedSo_242, bL_areCountedSo_203, bL_areCountedSo_197, bL_areCountedSo_189, bL_areCountedSo_188, bL_areCountedSo_184, bL_areCountedSo_170, bL_areCountedSo_154, bL_areCountedSo_116, bL_areCountedSo_107, bL_areCountedSo_106, bL_areCountedSo_63, bL_areCountedSo_58, bL_areCountedSo_57, bL_areCountedSo_0, tL_match, cd_tags, cd_things, cd_kept, vl_tags, vl_things, vl_kept, hc, o_iload, o_aload, o_ic, o_lc, o_istore, o_astore, o_iinc, o_bin, o_idiv, o_ineg, o_i2c, o_i2l, o_lcmp, o_if1, o_if2, o_dup, o_dup2, o_getf, o_puti, o_ald, o_iast, o_cast, o_lald, o_last, o_mmin, o_mabs, o_ret, o_vret, o_throw, o_lsw01, o_callS0, o_callS1, o_callS2, o_callS3, o_callS4, o_callS5, o_callV0, o_callV1, o_callV2, o_callV3, o_callV4, o_callV5, o_rd0, o_rd1, o_rd2, o_rd3, o_wr0, o_wr1, o_wr2, o_wr3, o_tr0, o_tr1, o_tr2, o_tr3, o_tr4, o_to1, o_to4, o_cL, o_irem, o_ret2, zcall_no, zok_nil, zok_ref, zok_int, zE, List.map_cons, List.map_nil, List.length_cons, List.length_nil, List.replicate_succ, List.replicate_zero, List.cons_append, List.nil_append, List.append_nil, List.getElem?_cons_zero, List.getElem?_cons_succ, List.set_cons_zero, List.set_cons_succ, Option.toList_some, Option.toList_none, vp_nar_int, znar_b, zb_0, ne_eq, Bool.not_eq_false, Classical.not_not, nI_1, sh1_def, true_and, and_true, Nat.reduceAdd, Nat.reduceSub, Nat.reduceLT, Nat.reduceLeDiff, Value.category, Nat.zero_add, Nat.add_zero, qmu_M, qset_j, List.take_succ_cons, List.take_zero, List.drop_succ_cons, List.drop_zero, List.reverse_cons, List.reverse_nil, sr_def, qex, qix_qob, qix_0, qix_29, qob_f, qob_t, qM_f, qM_t, qset_f, qset_t, i01, i10, not_true_eq_false, not_false_eq_true, false_implies, true_implies, true_or, or_true, forall_const, qrs_nil, qrs_int, qrs_ref, qrs_ra]
      refine ⟨?_, fun h0 => ⟨by omega, hs, fun v g1 => ⟨fun hv => L2 n 0 0 v none _ _ (Or.inl rfl) (fun h => absurd h (by decide)) (by omega), fun hv => ⟨by omega, fun ht => L2 n 0 0 v none _ _ (Or.inl rfl) (fun h => absurd h (by decide)) (by omega), fun ht => L2 n 0 1 v none _ _ (Or.inr rfl) (fun _ => fOk_of (hl (hb.resolve_left h0)) hv ht) (by omega)⟩⟩⟩⟩
      repeat' (first | with_reducible exact hc1 | with_reducible exact hc0 | with_reducible exact hK0 _ | with_reducible exact hK1 _ | with_reducible exact hn0 | with_reducible exact hn1 | apply And.intro | intro _ | omega)
  simp only [bL_areCountedSo_247, bL_areCountedSo_246, bL_areCountedSo_242, bL_areCountedSo_203, bL_areCountedSo_197, bL_areCountedSo_189, bL_areCountedSo_188, bL_areCountedSo_184, bL_areCountedSo_170, bL_areCountedSo_154, bL_areCountedSo_116, bL_areCountedSo_107, bL_areCountedSo_106, bL_areCountedSo_63, bL_areCountedSo_58, bL_areCountedSo_57, bL_areCountedSo_0, tL_match, cd_tags, cd_things, cd_kept, vl_tags, vl_things, vl_kept, hcnt, hcx, o_iload, o_aload, o_ic, o_lc, o_istore, o_astore, o_iinc, o_bin, o_idiv, o_ineg, o_i2c, o_i2l, o_lcmp, o_if1, o_if2, o_dup, o_dup2, o_getf, o_puti, o_ald, o_iast, o_cast, o_lald, o_last, o_mmin, o_mabs, o_ret, o_vret, o_throw, o_lsw01, o_callS0, o_callS1, o_callS2, o_callS3, o_callS4, o_callS5, o_callV0, o_callV1, o_callV2, o_callV3, o_callV4, o_callV5, o_rd0, o_rd1, o_rd2, o_rd3, o_wr0, o_wr1, o_wr2, o_wr3, o_tr0, o_tr1, o_tr2, o_tr3, o_tr4, o_to1, o_to4, o_cL, o_irem, o_ret2, zcall_no, zok_nil, zok_ref, zok_int, zE, List.map_cons, List.map_nil, List.length_cons, List.length_nil, List.replicate_succ, List.replicate_zero, List.cons_append, List.nil_append, List.append_nil, List.getElem?_cons_zero, List.getElem?_cons_succ, List.set_cons_zero, List.set_cons_succ, Option.toList_some, Option.toList_none, vp_nar_int, znar_b, zb_0, ne_eq, Bool.not_eq_false, Classical.not_not, nI_1, sh1_def, true_and, and_true, Nat.reduceAdd, Nat.reduceSub, Nat.reduceLT, Nat.reduceLeDiff, Value.category, Nat.zero_add, Nat.add_zero, qmu_M, qset_j, List.take_succ_cons, List.take_zero, List.drop_succ_cons, List.drop_zero, List.reverse_cons, List.reverse_nil, sr_def, qex, qix_qob, qix_0, qix_29, qob_f, qob_t, qM_f, qM_t, qset_f, qset_t, i01, i10, not_true_eq_false, not_false_eq_true, false_implies, true_implies, true_or, or_true, forall_const, qrs_nil, qrs_int, qrs_ref, qrs_ra]
  have l0 : ∀ j g, j ≤ 2 → A 63 [some (.ref (qob i)), some (.int x), some (.int y), some (.int z), some (.int (nI c)), some (.int (-1)), some (.int 0), some (.int 0), none, none, none] [] (μ, ν, j, g) := fun j g hj => L1 c 0 0 (-1) none none none j g (Or.inl rfl) (fun h => absurd h (by decide)) (by omega) (by omega)
  have l1 : ∀ j g, j ≤ 2 → A 63 [some (.ref (qob i)), some (.int x), some (.int y), some (.int z), some (.int (nI c)), some (.int (-1)), some (.int 1), some (.int 0), none, none, none] [] (μ, ν, j, g) := fun j g hj => L1 c 0 1 (-1) none none none j g (Or.inr rfl) (fun h => by decide) (by omega) (by omega)
  repeat' (first | with_reducible exact l0 _ _ (by decide) | with_reducible exact l1 _ _ (by decide) | with_reducible exact hs | apply And.intro | intro _))
end VCOUNTED
